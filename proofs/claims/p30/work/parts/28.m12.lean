/-! ===== FIELDS ===== -/
def snB (a : Nat → Nat) (f : Nat) : Nat → Bool
  | 0 => false
  | k + 1 => snB a f k || decide (a (374 + 12 * f + 3 * k + 2) = 1)
abbrev sn (a : Nat → Nat) (f : Nat) : Prop := snB a f (a (334 + 5 * f + 4)) = true
theorem snB_n {a : Nat → Nat} {f k : Nat} (h : snB a f k = false) (h2 : a (374 + 12 * f + 3 * k + 2) ≠ 1) : snB a f (k + 1) = false := by
  rw [snB, h, decide_eq_false h2]
  rfl
theorem snB_y {a : Nat → Nat} {f k : Nat} (h2 : a (374 + 12 * f + 3 * k + 2) = 1) : ∀ m, snB a f (k + 1 + m) = true
  | 0 => by
    rw [Nat.add_zero, snB, decide_eq_true h2, Bool.or_true]
  | m + 1 => by
    rw [← Nat.add_assoc, snB, snB_y h2 m, Bool.true_or]
abbrev shC (a : Nat → Nat) (f cr dr : Nat) : Nat := 470 + 2 * (16 * a (334 + 5 * f) + 4 * cr + dr)
abbrev shL (a : Nat → Nat) (f k : Nat) : Nat := shC a f (a (374 + 12 * f + 3 * k)) (a (374 + 12 * f + 3 * k + 1))
/-- a FIELD's numbers, and SHOWING's, lie within -/
def fdOk (a : Nat → Nat) (f : Nat) : Prop := a (334 + 5 * f) ≤ 3 ∧ (1 ≤ a (334 + 5 * f + 1) ∧ a (334 + 5 * f + 1) ≤ 99) ∧ (1 ≤ a (334 + 5 * f + 2) ∧ a (334 + 5 * f + 2) ≤ 9) ∧ a (334 + 5 * f + 3) ≤ 1 ∧ a (334 + 5 * f + 4) ≤ 4 ∧ ∀ k, k < a (334 + 5 * f + 4) → a (374 + 12 * f + 3 * k) ≤ 3 ∧ a (374 + 12 * f + 3 * k + 1) ≤ 3 ∧ a (374 + 12 * f + 3 * k + 2) ≤ 1
def shOk (a : Nat → Nat) : Prop := ∀ so cr dr, so ≤ 3 → cr ≤ 3 → dr ≤ 3 → 1 ≤ a (470 + 2 * (16 * so + 4 * cr + dr)) ∧ a (470 + 2 * (16 * so + 4 * cr + dr)) < a (470 + 2 * (16 * so + 4 * cr + dr) + 1) ∧ a (470 + 2 * (16 * so + 4 * cr + dr) + 1) ≤ 5000
def blU (a : Nat → Nat) (f : Nat) : Nat → Nat
  | 0 => a (334 + 5 * f + 1)
  | k + 1 => blU a f k * (a (shL a f k + 1) - a (shL a f k))
def blN (a : Nat → Nat) (f : Nat) : Nat → Nat
  | 0 => 100 - a (334 + 5 * f + 1)
  | k + 1 => blN a f k * a (shL a f k + 1)
theorem blU_s (a : Nat → Nat) (f k : Nat) : blU a f (k + 1) = blU a f k * (a (shL a f k + 1) - a (shL a f k)) := rfl
theorem blN_s (a : Nat → Nat) (f k : Nat) : blN a f (k + 1) = blN a f k * a (shL a f k + 1) := rfl
theorem shL_ok {a : Nat → Nat} {f k : Nat} (h : fdOk a f) (hs : shOk a) (hk : k < a (334 + 5 * f + 4)) : 1 ≤ a (shL a f k) ∧ a (shL a f k) < a (shL a f k + 1) ∧ a (shL a f k + 1) ≤ 5000 := by
  obtain ⟨h1, -, -, -, -, h2⟩ := h
  obtain ⟨h3, h4, -⟩ := h2 k hk
  exact hs _ _ _ h1 h3 h4
theorem shL_lt {a : Nat → Nat} {f k : Nat} (h : fdOk a f) (hk : k < a (334 + 5 * f + 4)) : shL a f k < 597 := by
  obtain ⟨h1, -, -, -, -, h2⟩ := h
  obtain ⟨h3, h4, -⟩ := h2 k hk
  show 470 + 2 * (16 * a (334 + 5 * f) + 4 * a (374 + 12 * f + 3 * k) + a (374 + 12 * f + 3 * k + 1)) < 597
  omega
theorem shL_ge (a : Nat → Nat) (f k : Nat) : 470 ≤ shL a f k := Nat.le_add_right _ _
theorem shC_ok {a : Nat → Nat} {f cr dr : Nat} (h : fdOk a f) (hs : shOk a) (hc : cr ≤ 3) (hd : dr ≤ 3) : 1 ≤ a (shC a f cr dr) ∧ a (shC a f cr dr) < a (shC a f cr dr + 1) ∧ a (shC a f cr dr + 1) ≤ 5000 ∧ shC a f cr dr < 597 := by
  obtain ⟨h1, h2, h3⟩ := hs _ _ _ h.1 hc hd
  have h4 := h.1
  refine ⟨h1, h2, h3, ?_⟩
  show 470 + 2 * (16 * a (334 + 5 * f) + 4 * cr + dr) < 597
  omega
theorem bl_b {a : Nat → Nat} {f : Nat} (h : fdOk a f) (hs : shOk a) : ∀ k, k ≤ a (334 + 5 * f + 4) → blU a f k ≤ 100 * 5000 ^ k ∧ blN a f k ≤ 100 * 5000 ^ k ∧ 0 < blN a f k
  | 0, _ => by
    obtain ⟨-, h1, -⟩ := h
    simp only [blU, blN]
    omega
  | k + 1, hk => by
    obtain ⟨h1, h2, h3⟩ := bl_b h hs k (by omega)
    obtain ⟨h4, h5, h6⟩ := shL_ok h hs (k := k) (by omega)
    rw [blU_s, blN_s, Nat.pow_succ, ← Nat.mul_assoc]
    exact ⟨Nat.mul_le_mul h1 (by omega), Nat.mul_le_mul h2 h6, Nat.mul_pos h3 (by omega)⟩
theorem bl_e {a : Nat → Nat} {f : Nat} (h : fdOk a f) (hs : shOk a) : blU a f (a (334 + 5 * f + 4)) ≤ 62500000000000000 ∧ blN a f (a (334 + 5 * f + 4)) ≤ 62500000000000000 ∧ 0 < blN a f (a (334 + 5 * f + 4)) := by
  obtain ⟨h1, h2, h3⟩ := bl_b h hs _ (Nat.le_refl _)
  have h4 : 5000 ^ a (334 + 5 * f + 4) ≤ 5000 ^ 4 := Nat.pow_le_pow_right (by decide) h.2.2.2.2.1
  have h5 : 100 * 5000 ^ a (334 + 5 * f + 4) ≤ 100 * 5000 ^ 4 := Nat.mul_le_mul_left 100 h4
  exact ⟨Nat.le_trans h1 (Nat.le_trans h5 (by decide)), Nat.le_trans h2 (Nat.le_trans h5 (by decide)), h3⟩
def brv (a : Nat → Nat) (f cr dr : Nat) : Nat := if a (334 + 5 * f + 3) = 1 ∨ sn a f then 0 else 100 * a (334 + 5 * f + 1) * a (shC a f cr dr) / a (shC a f cr dr + 1)
theorem brv_0 {a : Nat → Nat} {f cr dr : Nat} (h : a (334 + 5 * f + 3) = 1 ∨ sn a f) : brv a f cr dr = 0 := if_pos h
theorem brv_1 {a : Nat → Nat} {f cr dr : Nat} (h : ¬ (a (334 + 5 * f + 3) = 1 ∨ sn a f)) : brv a f cr dr = 100 * a (334 + 5 * f + 1) * a (shC a f cr dr) / a (shC a f cr dr + 1) := if_neg h
theorem mul3_b {x y : Nat} (hx : x ≤ 99) (hy : y ≤ 5000) : 100 * x * y ≤ 49500000 := Nat.le_trans (Nat.mul_le_mul (Nat.mul_le_mul_left 100 hx) hy) (by decide)
theorem brv_b {a : Nat → Nat} {f cr dr : Nat} (h : fdOk a f) (hs : shOk a) (hc : cr ≤ 3) (hd : dr ≤ 3) : brv a f cr dr ≤ 49500000 := by
  rcases Classical.em (a (334 + 5 * f + 3) = 1 ∨ sn a f) with q | q
  · rw [brv_0 q]; omega
  · rw [brv_1 q]
    obtain ⟨h1, h2, h3, -⟩ := shC_ok h hs hc hd
    exact Nat.le_trans (Nat.div_le_self _ _) (mul3_b h.2.1.2 (by omega))
def dgA (a : Nat → Nat) (f : Nat) : Nat → Nat → Nat
  | 0 => upN a (334 + 5 * f + 3) 1
  | k + 1 => upN (upN (dgA a f k) (shL a f k) (dgA a f k (shL a f k) + a (374 + 12 * f + 3 * k + 2))) (shL a f k + 1) (dgA a f k (shL a f k + 1) + 1)
theorem dgA_s (a : Nat → Nat) (f k : Nat) : dgA a f (k + 1) = upN (upN (dgA a f k) (shL a f k) (dgA a f k (shL a f k) + a (374 + 12 * f + 3 * k + 2))) (shL a f k + 1) (dgA a f k (shL a f k + 1) + 1) := rfl
theorem dgA_lo {a : Nat → Nat} {f j : Nat} (hj : j < 470) (hn : j ≠ 334 + 5 * f + 3) : ∀ k, dgA a f k j = a j
  | 0 => upN_n hn
  | k + 1 => by
    have h := shL_ge a f k
    rw [dgA_s, upN_n (by omega), upN_n (by omega), dgA_lo hj hn k]
def sumS (v : Nat → Nat) (st : Nat) : Nat → Nat
  | 0 => 0
  | f + 1 => sumS v st f + (if st / 2 ^ f % 2 = 1 then v f else 0)
theorem sumS_y {v : Nat → Nat} {st f : Nat} (h : 0 < st / 2 ^ f % 2 ^ 1) : sumS v st (f + 1) = sumS v st f + v f := by
  rw [sumS, if_pos (by omega)]
theorem sumS_n {v : Nat → Nat} {st f : Nat} (h : st / 2 ^ f % 2 ^ 1 = 0) : sumS v st (f + 1) = sumS v st f := by
  rw [sumS, if_neg (by omega)]
  rfl
theorem sumS_b {v : Nat → Nat} {st B : Nat} : ∀ {n : Nat}, (∀ f, f < n → v f ≤ B) → sumS v st n ≤ n * B
  | 0, _ => by simp [sumS]
  | n + 1, h => by
    have h1 := sumS_b (st := st) (n := n) (fun f hf => h f (by omega))
    have h2 := h n (by omega)
    rw [sumS, Nat.succ_mul]
    split <;> omega
def plB (S K : Nat → Nat) (hr : Nat) : Nat → Nat × Nat × Nat
  | 0 => (0, 0, 0)
  | k + 1 => if K k ≤ hr ∧ ((plB S K hr k).2.1 < S k ∨ (S k = (plB S K hr k).2.1 ∧ K k < (plB S K hr k).2.2)) then (k, S k, K k) else plB S K hr k
theorem plB_y {S K : Nat → Nat} {hr k x y z : Nat} (e : plB S K hr k = (x, y, z)) (h : K k ≤ hr ∧ (y < S k ∨ (S k = y ∧ K k < z))) : plB S K hr (k + 1) = (k, S k, K k) := by
  rw [plB, e]
  exact if_pos h
theorem plB_n {S K : Nat → Nat} {hr k x y z : Nat} (e : plB S K hr k = (x, y, z)) (h : ¬ (K k ≤ hr ∧ (y < S k ∨ (S k = y ∧ K k < z)))) : plB S K hr (k + 1) = (x, y, z) := by
  rw [plB, e]
  exact if_neg h
theorem sl31 : ∀ k, k < 32 → ((nI k &&& 31).toBitVec.smod 32).toNat = k := by decide +kernel
set_option maxHeartbeats 4000000 in
set_option maxRecDepth 100000 in
theorem cM_wasSeen (l : Launch) (D : va_G) (ad : Nat → Nat) (cI cJ : ClassId) (a kp bt sz : Nat → Nat) (sheets : Nat → Int32) (go ro : Nat → Nat) (car : Nat → Int32) (ke km fi gm bs bu : Nat) (n1 n2 n3 n4 n5 n6 n7 : Int64) (px py db : Nat → Int64) (f : Nat) (hf8 : f < 8) (hf : fdOk a f) : mq_i l D (mT cI cJ) yX12_wasSeen wsX12_wasSeen 1 0 0 22 [.ref (ad 0), .int (nI (f))] (mW ad cI cJ a kp bt sz sheets go ro car ke km fi gm bs bu n1 n2 n3 n4 n5 n6 n7 px py db) (fun r w1 => r = bI (sn a f) ∧ w1 = mW ad cI cJ a kp bt sz sheets go ro car ke km fi gm bs bu n1 n2 n3 n4 n5 n6 n7 px py db) := by
  refine mq_z_of (cc := cX12_wasSeen) (maxL := 3) (by decide) rfl (Nat.le_of_ble_eq_true rfl) ?_
  intro p e s m args below meth c A Q ls hx hb hts hown hml hnm hA hP hK hD hS hl hret
  have hown : s.vm.findClass RX12 = some m.cls := hown
  have hinX12 : ∀ w ∈ u_ws RX12 TX12 24, w ∈ wsX12_wasSeen := by decide +kernel
  have hl : lv_has ls 3 [(0, .ref (ad 0)), (1, .int (nI (f)))] := hl
  refine lv_iconst (v := (nI (0))) hx hb dX12_wasSeen_0 (by decide) ?_
  refine lv_istore_n (lv' := [(2, .int (nI (0))), (0, .ref (ad 0)), (1, .int (nI (f)))]) hx hb dX12_wasSeen_1 rfl hl (by decide) rfl (fun ls hl => ?_)
  have hfl := hf.2.2.2.2.1
  have lp : ∀ (n : Nat) (k : Nat), (k + n = a (334 + 5 * f + 4)) → (snB a f k = false) → ∀ (H : Heap) (locs : List Loc) (ls : Array Slot), va_P D vwCl (mW ad cI cJ a kp bt sz sheets go ro car ke km fi gm bs bu n1 n2 n3 n4 n5 n6 n7 px py db) H → va_D A (mW ad cI cJ a kp bt sz sheets go ro car ke km fi gm bs bu n1 n2 n3 n4 n5 n6 n7 px py db) → va_S A s.heap H locs → lv_has ls 3 [(2, .int (nI (k))), (0, .ref (ad 0)), (1, .int (nI (f)))] → W p l e (mq_R 1 0 0 22) s m args below meth c H locs 0 0 Q (F0 m 2 ls []) := by
    intro n
    induction n with
    | zero =>
      intro k hk hk2 H locs ls hP hD hS hl
      refine lv_iload_n hx hb dX12_wasSeen_2 rfl (lv_at hl 0 rfl) ?_
      refine lv_aload_n hx hb dX12_wasSeen_3 rfl (lv_at hl 1 rfl) ?_
      refine lv_iload_n hx hb dX12_wasSeen_4 rfl (lv_at hl 2 rfl) ?_
      refine lv_iconst (v := (nI (4))) hx hb dX12_wasSeen_5 (by decide) ?_
      refine mq_Vi (As := [.int (nI (f)), .int (nI (4))]) (rest := [.int (nI (k))]) (ci := 12) (k0 := 0) ⟨hx, hb, hml, hown, hts⟩ (cM_ofField l D ad cI cJ a kp bt sz sheets go ro car ke km fi gm bs bu n1 n2 n3 n4 n5 n6 n7 px py db (f) (4) (by omega)) (cwV 2 hts gX12_wasSeen_X12_ofField rfl rfl rfl (by decide +kernel) ⟨Nat.le_of_ble_eq_true rfl, Nat.le_of_ble_eq_true rfl⟩) rfl rfl hP hK hD hS hA rfl hl.1 rfl (Nat.le_of_ble_eq_true rfl) dX12_wasSeen_6 ⟨Nat.le_of_ble_eq_true rfl, Nat.le_of_ble_eq_true rfl⟩ (fun r w1 H locs hq hP hD hS => ?_)
      obtain ⟨rfl, rfl⟩ := hq
      refine ln_icmp_ge (tgt := 43) hx hb dX12_wasSeen_9 (by decide) (by omega) (by omega) (fun c1 => ?_) (fun c1 => ?_)
      · refine lv_iconst (v := (nI (0))) hx hb dX12_wasSeen_43 (by decide) ?_
        exact hret _ _ _ _ _ _ rfl ⟨bI_f' (by rw [sn, show a (334 + 5 * f + 4) = k by omega, hk2]; decide), rfl⟩ hP hD hS dX12_wasSeen_44
      · exact absurd hk (by omega)
    | succ n ih =>
      intro k hk hk2 H locs ls hP hD hS hl
      refine lv_iload_n hx hb dX12_wasSeen_2 rfl (lv_at hl 0 rfl) ?_
      refine lv_aload_n hx hb dX12_wasSeen_3 rfl (lv_at hl 1 rfl) ?_
      refine lv_iload_n hx hb dX12_wasSeen_4 rfl (lv_at hl 2 rfl) ?_
      refine lv_iconst (v := (nI (4))) hx hb dX12_wasSeen_5 (by decide) ?_
      refine mq_Vi (As := [.int (nI (f)), .int (nI (4))]) (rest := [.int (nI (k))]) (ci := 12) (k0 := 0) ⟨hx, hb, hml, hown, hts⟩ (cM_ofField l D ad cI cJ a kp bt sz sheets go ro car ke km fi gm bs bu n1 n2 n3 n4 n5 n6 n7 px py db (f) (4) (by omega)) (cwV 2 hts gX12_wasSeen_X12_ofField rfl rfl rfl (by decide +kernel) ⟨Nat.le_of_ble_eq_true rfl, Nat.le_of_ble_eq_true rfl⟩) rfl rfl hP hK hD hS hA rfl hl.1 rfl (Nat.le_of_ble_eq_true rfl) dX12_wasSeen_6 ⟨Nat.le_of_ble_eq_true rfl, Nat.le_of_ble_eq_true rfl⟩ (fun r w1 H locs hq hP hD hS => ?_)
      obtain ⟨rfl, rfl⟩ := hq
      refine ln_icmp_ge (tgt := 43) hx hb dX12_wasSeen_9 (by decide) (by omega) (by omega) (fun c1 => ?_) (fun c1 => ?_)
      · exact absurd hk (by omega)
      · refine lv_aload_n hx hb dX12_wasSeen_12 rfl (lv_at hl 1 rfl) ?_
        refine va_get (D := D) (ci := 12) (v := .ref (ad 1)) (C := RX12) (T := TX12) (N := 24) hx hb hts hinX12 hown hK hP 0 rfl rfl 0 (by decide) (hts (.fieldLink RX12 9 "CornDeskModel" "now" "[I") (by decide +kernel)) (fun _ h9 => h9) rfl dX12_wasSeen_13 ?_
        refine lv_sipush (v := (nI (374))) hx hb dX12_wasSeen_16 (by decide) ?_
        refine lv_bipush (v := (nI (12))) hx hb dX12_wasSeen_19 (by decide) ?_
        refine lv_iload_n hx hb dX12_wasSeen_21 rfl (lv_at hl 2 rfl) ?_
        refine ln_imul hx hb dX12_wasSeen_22 ?_
        refine ln_iadd hx hb dX12_wasSeen_23 ?_
        refine lv_iconst (v := (nI (3))) hx hb dX12_wasSeen_24 (by decide) ?_
        refine lv_iload_n hx hb dX12_wasSeen_25 rfl (lv_at hl 0 rfl) ?_
        refine ln_imul hx hb dX12_wasSeen_26 ?_
        refine ln_iadd hx hb dX12_wasSeen_27 ?_
        refine lv_iconst (v := (nI (2))) hx hb dX12_wasSeen_28 (by decide) ?_
        refine ln_iadd hx hb dX12_wasSeen_29 ?_
        refine ln_iald hx hb hK hP 1 0 rfl rfl (by decide) (by omega) dX12_wasSeen_30 ?_
        refine lv_iconst (v := (nI (1))) hx hb dX12_wasSeen_31 (by decide) ?_
        have hv : a (374 + 12 * f + 3 * k + 2) ≤ 1 := (hf.2.2.2.2.2 k (by omega)).2.2
        refine ln_icmp_ne (tgt := 37) hx hb dX12_wasSeen_32 (by decide) (by omega) (by omega) (fun c2 => ?_) (fun c2 => ?_)
        · refine lv_iinc (v := (nI (k + 1))) (lv' := [(2, .int (nI (k + 1))), (0, .ref (ad 0)), (1, .int (nI (f)))]) hx hb dX12_wasSeen_37 hl (k := 0) rfl (by rw [show (Int32.ofInt 1) = nI 1 from rfl, nI_add]) (by decide) rfl (fun ls hl => ?_)
          refine lv_goto (tgt := 2) hx hb dX12_wasSeen_40 (by decide) ?_
          exact ih (k + 1) (by omega) (snB_n hk2 c2) _ _ _ hP hD hS hl
        · refine lv_iconst (v := (nI (1))) hx hb dX12_wasSeen_35 (by decide) ?_
          exact hret _ _ _ _ _ _ rfl ⟨bI_t' (by rw [sn, show a (334 + 5 * f + 4) = k + 1 + (a (334 + 5 * f + 4) - (k + 1)) by omega]; exact snB_y c2 _), rfl⟩ hP hD hS dX12_wasSeen_36
  exact lp (a (334 + 5 * f + 4)) (0) (by omega) (rfl) _ _ _ hP hD hS hl
set_option maxHeartbeats 4000000 in
set_option maxRecDepth 100000 in
theorem cM_belief (l : Launch) (D : va_G) (ad : Nat → Nat) (cI cJ : ClassId) (a kp bt sz : Nat → Nat) (sheets : Nat → Int32) (go ro : Nat → Nat) (car : Nat → Int32) (ke km fi gm bs bu : Nat) (n1 n2 n3 n4 n5 n6 n7 : Int64) (px py db : Nat → Int64) (x : Int32) (zf : Int32) (h3 : a 3 ≤ 8) (hfd : ∀ i, i < a 3 → fdOk a i) (hsh : shOk a) : mq_l l D (mT cI cJ) yX12_belief wsX12_belief 2 0 0 55 [.ref (ad 0), .int (x), .int (zf)] (mW ad cI cJ a kp bt sz sheets go ro car ke km fi gm bs bu n1 n2 n3 n4 n5 n6 n7 px py db) (fun r w1 => (¬ ix (a 3) x ∧ r = -1000000001 ∧ w1 = mW ad cI cJ a kp bt sz sheets go ro car ke km (fi + 1) gm bs bu n1 n2 n3 n4 n5 n6 n7 px py db) ∨ (∃ i : Nat, (x = nI i ∧ i < a 3) ∧ ((sn a i ∧ r = 1 ∧ w1 = mW ad cI cJ a kp bt sz sheets go ro car ke km fi gm bs bu n1 n2 n3 n4 n5 n6 n7 px py db) ∨ (¬ sn a i ∧ r = pcI ((blU a i (a (334 + 5 * i + 4)) : Nat) : Int) (blU a i (a (334 + 5 * i + 4)) + blN a i (a (334 + 5 * i + 4))) zf ∧ w1 = mW ad cI cJ a kp bt sz sheets go ro car ke km fi gm bs bu n1 n2 n3 n4 n5 n6 n7 px py db)))) := by
  refine mq_l_of (cc := cX12_belief) (maxL := 9) (by decide) rfl (Nat.le_of_ble_eq_true rfl) ?_
  intro p e s m args below meth c A Q ls hx hb hts hown hml hnm hA hP hK hD hS hl hret
  have hown : s.vm.findClass RX12 = some m.cls := hown
  have hinX12 : ∀ w ∈ u_ws RX12 TX12 24, w ∈ wsX12_belief := by decide +kernel
  have hl : lv_has ls 9 [(0, .ref (ad 0)), (1, .int (x)), (2, .int (zf))] := hl
  refine lv_aload_n hx hb dX12_belief_0 rfl (lv_at hl 0 rfl) ?_
  refine lv_iload_n hx hb dX12_belief_1 rfl (lv_at hl 1 rfl) ?_
  refine mq_Vi (As := [.int (x)]) (rest := []) (ci := 12) (k0 := 0) ⟨hx, hb, hml, hown, hts⟩ (cM_isField l D ad cI cJ a kp bt sz sheets go ro car ke km fi gm bs bu n1 n2 n3 n4 n5 n6 n7 px py db (x) (by omega)) (cwV 1 hts gX12_belief_X12_isField rfl rfl rfl (by decide +kernel) ⟨Nat.le_of_ble_eq_true rfl, Nat.le_of_ble_eq_true rfl⟩) rfl rfl hP hK hD hS hA rfl hl.1 rfl (Nat.le_of_ble_eq_true rfl) dX12_belief_2 ⟨Nat.le_of_ble_eq_true rfl, Nat.le_of_ble_eq_true rfl⟩ (fun r w1 H locs hq hP hD hS => ?_)
  obtain ⟨rfl, rfl⟩ := hq
  refine lb_if_ne (tgt := 16) hx hb dX12_belief_5 (by decide) (fun c1 => ?_) (fun c1 => ?_)
  · obtain ⟨i, hi, rfl⟩ := ix_of c1 (by omega)
    have hf := hfd i hi
    have hfl := hf.2.2.2.2.1
    have hch := hf.2.1
    refine lv_aload_n hx hb dX12_belief_16 rfl (lv_at hl 0 rfl) ?_
    refine lv_iload_n hx hb dX12_belief_17 rfl (lv_at hl 1 rfl) ?_
    refine mq_Vi (As := [.int (nI (i))]) (rest := []) (ci := 12) (k0 := 0) ⟨hx, hb, hml, hown, hts⟩ (cM_wasSeen l D ad cI cJ a kp bt sz sheets go ro car ke km fi gm bs bu n1 n2 n3 n4 n5 n6 n7 px py db (i) (by omega) hf) (cwV 1 hts gX12_belief_X12_wasSeen rfl rfl rfl (by decide +kernel) ⟨Nat.le_of_ble_eq_true rfl, Nat.le_of_ble_eq_true rfl⟩) rfl rfl hP hK hD hS hA rfl hl.1 rfl (Nat.le_of_ble_eq_true rfl) dX12_belief_18 ⟨Nat.le_of_ble_eq_true rfl, Nat.le_of_ble_eq_true rfl⟩ (fun r w1 H locs hq hP hD hS => ?_)
    obtain ⟨rfl, rfl⟩ := hq
    refine lb_if_eq (tgt := 26) hx hb dX12_belief_21 (by decide) (fun c2 => ?_) (fun c2 => ?_)
    · refine lv_aload_n hx hb dX12_belief_26 rfl (lv_at hl 0 rfl) ?_
      refine lv_iload_n hx hb dX12_belief_27 rfl (lv_at hl 1 rfl) ?_
      refine lv_iconst (v := (nI (1))) hx hb dX12_belief_28 (by decide) ?_
      refine mq_Vi (As := [.int (nI (i)), .int (nI (1))]) (rest := []) (ci := 12) (k0 := 0) ⟨hx, hb, hml, hown, hts⟩ (cM_ofField l D ad cI cJ a kp bt sz sheets go ro car ke km fi gm bs bu n1 n2 n3 n4 n5 n6 n7 px py db (i) (1) (by omega)) (cwV 2 hts gX12_belief_X12_ofField rfl rfl rfl (by decide +kernel) ⟨Nat.le_of_ble_eq_true rfl, Nat.le_of_ble_eq_true rfl⟩) rfl rfl hP hK hD hS hA rfl hl.1 rfl (Nat.le_of_ble_eq_true rfl) dX12_belief_29 ⟨Nat.le_of_ble_eq_true rfl, Nat.le_of_ble_eq_true rfl⟩ (fun r w1 H locs hq hP hD hS => ?_)
      obtain ⟨rfl, rfl⟩ := hq
      refine lv_i2l hx hb dX12_belief_32 rfl ?_
      refine ln_eql (y := (lN (a (334 + 5 * i + 1)))) (nI_l (by omega)) ?_
      refine lv_lstore_n (lv' := [(3, .long (lN (a (334 + 5 * i + 1)))), (0, .ref (ad 0)), (1, .int (nI (i))), (2, .int (zf))]) hx hb dX12_belief_33 rfl hl (by decide) rfl (fun ls hl => ?_)
      refine lv_bipush (v := (nI (100))) hx hb dX12_belief_34 (by decide) ?_
      refine lv_aload_n hx hb dX12_belief_36 rfl (lv_at hl 1 rfl) ?_
      refine lv_iload_n hx hb dX12_belief_37 rfl (lv_at hl 2 rfl) ?_
      refine lv_iconst (v := (nI (1))) hx hb dX12_belief_38 (by decide) ?_
      refine mq_Vi (As := [.int (nI (i)), .int (nI (1))]) (rest := [.int (nI (100))]) (ci := 12) (k0 := 0) ⟨hx, hb, hml, hown, hts⟩ (cM_ofField l D ad cI cJ a kp bt sz sheets go ro car ke km fi gm bs bu n1 n2 n3 n4 n5 n6 n7 px py db (i) (1) (by omega)) (cwV 2 hts gX12_belief_X12_ofField rfl rfl rfl (by decide +kernel) ⟨Nat.le_of_ble_eq_true rfl, Nat.le_of_ble_eq_true rfl⟩) rfl rfl hP hK hD hS hA rfl hl.1 rfl (Nat.le_of_ble_eq_true rfl) dX12_belief_39 ⟨Nat.le_of_ble_eq_true rfl, Nat.le_of_ble_eq_true rfl⟩ (fun r w1 H locs hq hP hD hS => ?_)
      obtain ⟨rfl, rfl⟩ := hq
      refine ln_isub hx hb dX12_belief_42 (by omega) ?_
      refine lv_i2l hx hb dX12_belief_43 rfl ?_
      refine ln_eql (y := (lN (100 - a (334 + 5 * i + 1)))) (nI_l (by omega)) ?_
      refine lv_lstore (lv' := [(5, .long (lN (100 - a (334 + 5 * i + 1)))), (3, .long (lN (a (334 + 5 * i + 1)))), (0, .ref (ad 0)), (1, .int (nI (i))), (2, .int (zf))]) hx hb dX12_belief_44 hl (by decide) rfl (fun ls hl => ?_)
      refine lv_iconst (v := (nI (0))) hx hb dX12_belief_46 (by decide) ?_
      refine lv_istore (lv' := [(7, .int (nI (0))), (5, .long (lN (100 - a (334 + 5 * i + 1)))), (3, .long (lN (a (334 + 5 * i + 1)))), (0, .ref (ad 0)), (1, .int (nI (i))), (2, .int (zf))]) hx hb dX12_belief_47 hl (by decide) rfl (fun ls hl => ?_)
      have lp : ∀ (n : Nat) (k : Nat), (k + n = a (334 + 5 * i + 4)) → ∀ (H : Heap) (locs : List Loc) (ls : Array Slot), va_P D vwCl (mW ad cI cJ a kp bt sz sheets go ro car ke km fi gm bs bu n1 n2 n3 n4 n5 n6 n7 px py db) H → va_D A (mW ad cI cJ a kp bt sz sheets go ro car ke km fi gm bs bu n1 n2 n3 n4 n5 n6 n7 px py db) → va_S A s.heap H locs → lv_has ls 9 [(7, .int (nI (k))), (3, .long (lN (blU a i k))), (5, .long (lN (blN a i k))), (0, .ref (ad 0)), (1, .int (nI (i))), (2, .int (zf))] → W p l e (mq_R 2 0 0 55) s m args below meth c H locs 0 0 Q (F0 m 49 ls []) := by
        intro n
        induction n with
        | zero =>
          intro k hk H locs ls hP hD hS hl
          refine lv_iload hx hb dX12_belief_49 (lv_at hl 0 rfl) ?_
          refine lv_aload_n hx hb dX12_belief_51 rfl (lv_at hl 3 rfl) ?_
          refine lv_iload_n hx hb dX12_belief_52 rfl (lv_at hl 4 rfl) ?_
          refine lv_iconst (v := (nI (4))) hx hb dX12_belief_53 (by decide) ?_
          refine mq_Vi (As := [.int (nI (i)), .int (nI (4))]) (rest := [.int (nI (k))]) (ci := 12) (k0 := 0) ⟨hx, hb, hml, hown, hts⟩ (cM_ofField l D ad cI cJ a kp bt sz sheets go ro car ke km fi gm bs bu n1 n2 n3 n4 n5 n6 n7 px py db (i) (4) (by omega)) (cwV 2 hts gX12_belief_X12_ofField rfl rfl rfl (by decide +kernel) ⟨Nat.le_of_ble_eq_true rfl, Nat.le_of_ble_eq_true rfl⟩) rfl rfl hP hK hD hS hA rfl hl.1 rfl (Nat.le_of_ble_eq_true rfl) dX12_belief_54 ⟨Nat.le_of_ble_eq_true rfl, Nat.le_of_ble_eq_true rfl⟩ (fun r w1 H locs hq hP hD hS => ?_)
          obtain ⟨rfl, rfl⟩ := hq
          refine ln_icmp_ge (tgt := 151) hx hb dX12_belief_57 (by decide) (by omega) (by omega) (fun c3 => ?_) (fun c3 => ?_)
          · have hk0 : k = a (334 + 5 * i + 4) := by omega
            subst hk0
            obtain ⟨e1, e2, e3⟩ := bl_e hf hsh
            refine lv_lload_n hx hb dX12_belief_151 rfl (lv_at hl 1 rfl) ?_
            refine lv_lload_n hx hb dX12_belief_152 rfl (lv_at hl 1 rfl) ?_
            refine lv_lload hx hb dX12_belief_153 (lv_at hl 2 rfl) ?_
            refine lv_ladd hx hb dX12_belief_155 ?_
            refine ln_eql (y := (lN (blU a i (a (334 + 5 * i + 4)) + blN a i (a (334 + 5 * i + 4))))) (lN_add _ _) ?_
            refine lv_iload_n hx hb dX12_belief_156 rfl (lv_at hl 5 rfl) ?_
            have eU : lN (blU a i (a (334 + 5 * i + 4))) = lZ ((blU a i (a (334 + 5 * i + 4)) : Nat) : Int) := lZ_N _
            rw [eU]
            refine mq_Sl (As := [.long (lZ ((blU a i (a (334 + 5 * i + 4)) : Nat) : Int)), .long (lN (blU a i (a (334 + 5 * i + 4)) + blN a i (a (334 + 5 * i + 4)))), .int (zf)]) (rest := []) ⟨hx, hb, hml, hown, hts⟩ (cM_part l D _ ((blU a i (a (334 + 5 * i + 4)) : Nat) : Int) (blU a i (a (334 + 5 * i + 4)) + blN a i (a (334 + 5 * i + 4))) (zf) (by omega) (by omega) (by omega)) (cwS 3 hts gX12_belief_X12_part rfl rfl rfl (by decide +kernel) ⟨Nat.le_of_ble_eq_true rfl, Nat.le_of_ble_eq_true rfl⟩) hP hK hS hA rfl hl.1 rfl (Nat.le_of_ble_eq_true rfl) dX12_belief_157 ⟨Nat.le_of_ble_eq_true rfl, Nat.le_of_ble_eq_true rfl⟩ (fun r w1 H locs hq hP hS => ?_)
            subst hq
            exact hret _ _ _ _ _ _ (Or.inr ⟨i, ⟨rfl, hi⟩, Or.inr ⟨c2, rfl, rfl⟩⟩) hP hD hS dX12_belief_160
          · exact absurd hk (by omega)
        | succ n ih =>
          intro k hk H locs ls hP hD hS hl
          refine lv_iload hx hb dX12_belief_49 (lv_at hl 0 rfl) ?_
          refine lv_aload_n hx hb dX12_belief_51 rfl (lv_at hl 3 rfl) ?_
          refine lv_iload_n hx hb dX12_belief_52 rfl (lv_at hl 4 rfl) ?_
          refine lv_iconst (v := (nI (4))) hx hb dX12_belief_53 (by decide) ?_
          refine mq_Vi (As := [.int (nI (i)), .int (nI (4))]) (rest := [.int (nI (k))]) (ci := 12) (k0 := 0) ⟨hx, hb, hml, hown, hts⟩ (cM_ofField l D ad cI cJ a kp bt sz sheets go ro car ke km fi gm bs bu n1 n2 n3 n4 n5 n6 n7 px py db (i) (4) (by omega)) (cwV 2 hts gX12_belief_X12_ofField rfl rfl rfl (by decide +kernel) ⟨Nat.le_of_ble_eq_true rfl, Nat.le_of_ble_eq_true rfl⟩) rfl rfl hP hK hD hS hA rfl hl.1 rfl (Nat.le_of_ble_eq_true rfl) dX12_belief_54 ⟨Nat.le_of_ble_eq_true rfl, Nat.le_of_ble_eq_true rfl⟩ (fun r w1 H locs hq hP hD hS => ?_)
          obtain ⟨rfl, rfl⟩ := hq
          refine ln_icmp_ge (tgt := 151) hx hb dX12_belief_57 (by decide) (by omega) (by omega) (fun c3 => ?_) (fun c3 => ?_)
          · exact absurd hk (by omega)
          · obtain ⟨q1, q2, q3⟩ := shL_ok hf hsh (k := k) (by omega)
            refine lv_aload_n hx hb dX12_belief_60 rfl (lv_at hl 3 rfl) ?_
            refine lv_iload_n hx hb dX12_belief_61 rfl (lv_at hl 4 rfl) ?_
            refine lv_iconst (v := (nI (0))) hx hb dX12_belief_62 (by decide) ?_
            refine mq_Vi (As := [.int (nI (i)), .int (nI (0))]) (rest := []) (ci := 12) (k0 := 0) ⟨hx, hb, hml, hown, hts⟩ (cM_ofField l D ad cI cJ a kp bt sz sheets go ro car ke km fi gm bs bu n1 n2 n3 n4 n5 n6 n7 px py db (i) (0) (by omega)) (cwV 2 hts gX12_belief_X12_ofField rfl rfl rfl (by decide +kernel) ⟨Nat.le_of_ble_eq_true rfl, Nat.le_of_ble_eq_true rfl⟩) rfl rfl hP hK hD hS hA rfl hl.1 rfl (Nat.le_of_ble_eq_true rfl) dX12_belief_63 ⟨Nat.le_of_ble_eq_true rfl, Nat.le_of_ble_eq_true rfl⟩ (fun r w1 H locs hq hP hD hS => ?_)
            obtain ⟨rfl, rfl⟩ := hq
            refine ln_eqi (y := (nI (a (334 + 5 * i)))) rfl ?_
            refine lv_aload_n hx hb dX12_belief_66 rfl (lv_at hl 3 rfl) ?_
            refine va_get (D := D) (ci := 12) (v := .ref (ad 1)) (C := RX12) (T := TX12) (N := 24) hx hb hts hinX12 hown hK hP 0 rfl rfl 0 (by decide) (hts (.fieldLink RX12 9 "CornDeskModel" "now" "[I") (by decide +kernel)) (fun _ h9 => h9) rfl dX12_belief_67 ?_
            refine lv_sipush (v := (nI (374))) hx hb dX12_belief_70 (by decide) ?_
            refine lv_bipush (v := (nI (12))) hx hb dX12_belief_73 (by decide) ?_
            refine lv_iload_n hx hb dX12_belief_75 rfl (lv_at hl 4 rfl) ?_
            refine ln_imul hx hb dX12_belief_76 ?_
            refine ln_iadd hx hb dX12_belief_77 ?_
            refine lv_iconst (v := (nI (3))) hx hb dX12_belief_78 (by decide) ?_
            refine lv_iload hx hb dX12_belief_79 (lv_at hl 0 rfl) ?_
            refine ln_imul hx hb dX12_belief_81 ?_
            refine ln_iadd hx hb dX12_belief_82 ?_
            refine ln_iald hx hb hK hP 1 0 rfl rfl (by decide) (by omega) dX12_belief_83 ?_
            refine lv_aload_n hx hb dX12_belief_84 rfl (lv_at hl 3 rfl) ?_
            refine va_get (D := D) (ci := 12) (v := .ref (ad 1)) (C := RX12) (T := TX12) (N := 24) hx hb hts hinX12 hown hK hP 0 rfl rfl 0 (by decide) (hts (.fieldLink RX12 9 "CornDeskModel" "now" "[I") (by decide +kernel)) (fun _ h9 => h9) rfl dX12_belief_85 ?_
            refine lv_sipush (v := (nI (374))) hx hb dX12_belief_88 (by decide) ?_
            refine lv_bipush (v := (nI (12))) hx hb dX12_belief_91 (by decide) ?_
            refine lv_iload_n hx hb dX12_belief_93 rfl (lv_at hl 4 rfl) ?_
            refine ln_imul hx hb dX12_belief_94 ?_
            refine ln_iadd hx hb dX12_belief_95 ?_
            refine lv_iconst (v := (nI (3))) hx hb dX12_belief_96 (by decide) ?_
            refine lv_iload hx hb dX12_belief_97 (lv_at hl 0 rfl) ?_
            refine ln_imul hx hb dX12_belief_99 ?_
            refine ln_iadd hx hb dX12_belief_100 ?_
            refine lv_iconst (v := (nI (1))) hx hb dX12_belief_101 (by decide) ?_
            refine ln_iadd hx hb dX12_belief_102 ?_
            refine ln_iald hx hb hK hP 1 0 rfl rfl (by decide) (by omega) dX12_belief_103 ?_
            refine mq_Si (As := [.int (nI (a (334 + 5 * i))), .int (nI (a (374 + (12) * (i) + (3) * (k)))), .int (nI (a (374 + (12) * (i) + (3) * (k) + 1)))]) (rest := []) ⟨hx, hb, hml, hown, hts⟩ (cM_showAt l D _ (a (334 + 5 * i)) (a (374 + (12) * (i) + (3) * (k))) (a (374 + (12) * (i) + (3) * (k) + 1)) ) (cwS 3 hts gX12_belief_X12_showAt rfl rfl rfl (by decide +kernel) ⟨Nat.le_of_ble_eq_true rfl, Nat.le_of_ble_eq_true rfl⟩) hP hK hS hA rfl hl.1 rfl (Nat.le_of_ble_eq_true rfl) dX12_belief_104 ⟨Nat.le_of_ble_eq_true rfl, Nat.le_of_ble_eq_true rfl⟩ (fun r w1 H locs hq hP hS => ?_)
            subst hq
            refine ln_eqi (y := (nI (shL a i k))) rfl ?_
            refine lv_istore (lv' := [(8, .int (nI (shL a i k))), (7, .int (nI (k))), (3, .long (lN (blU a i k))), (5, .long (lN (blN a i k))), (0, .ref (ad 0)), (1, .int (nI (i))), (2, .int (zf))]) hx hb dX12_belief_107 hl (by decide) rfl (fun ls hl => ?_)
            have z4 := shL_lt hf (k := k) (by omega)
            refine lv_lload_n hx hb dX12_belief_109 rfl (lv_at hl 2 rfl) ?_
            refine lv_aload_n hx hb dX12_belief_110 rfl (lv_at hl 4 rfl) ?_
            refine va_get (D := D) (ci := 12) (v := .ref (ad 1)) (C := RX12) (T := TX12) (N := 24) hx hb hts hinX12 hown hK hP 0 rfl rfl 0 (by decide) (hts (.fieldLink RX12 9 "CornDeskModel" "now" "[I") (by decide +kernel)) (fun _ h9 => h9) rfl dX12_belief_111 ?_
            refine lv_iload hx hb dX12_belief_114 (lv_at hl 0 rfl) ?_
            refine lv_iconst (v := (nI (1))) hx hb dX12_belief_116 (by decide) ?_
            refine ln_iadd hx hb dX12_belief_117 ?_
            refine ln_iald hx hb hK hP 1 0 rfl rfl (by decide) (by omega) dX12_belief_118 ?_
            refine lv_aload_n hx hb dX12_belief_119 rfl (lv_at hl 4 rfl) ?_
            refine va_get (D := D) (ci := 12) (v := .ref (ad 1)) (C := RX12) (T := TX12) (N := 24) hx hb hts hinX12 hown hK hP 0 rfl rfl 0 (by decide) (hts (.fieldLink RX12 9 "CornDeskModel" "now" "[I") (by decide +kernel)) (fun _ h9 => h9) rfl dX12_belief_120 ?_
            refine lv_iload hx hb dX12_belief_123 (lv_at hl 0 rfl) ?_
            refine ln_iald hx hb hK hP 1 0 rfl rfl (by decide) (by omega) dX12_belief_125 ?_
            refine ln_isub hx hb dX12_belief_126 (by omega) ?_
            refine lv_i2l hx hb dX12_belief_127 rfl ?_
            refine ln_eql (y := (lN (a (shL a i k + 1) - a (shL a i k)))) (nI_l (by omega)) ?_
            refine lv_lmul hx hb dX12_belief_128 ?_
            refine ln_eql (y := (lN (blU a i (k + 1)))) (by rw [lN_mul, blU_s]) ?_
            refine lv_lstore_n (lv' := [(3, .long (lN (blU a i (k + 1)))), (8, .int (nI (shL a i k))), (7, .int (nI (k))), (5, .long (lN (blN a i k))), (0, .ref (ad 0)), (1, .int (nI (i))), (2, .int (zf))]) hx hb dX12_belief_129 rfl hl (by decide) rfl (fun ls hl => ?_)
            refine lv_lload hx hb dX12_belief_130 (lv_at hl 3 rfl) ?_
            refine lv_aload_n hx hb dX12_belief_132 rfl (lv_at hl 4 rfl) ?_
            refine va_get (D := D) (ci := 12) (v := .ref (ad 1)) (C := RX12) (T := TX12) (N := 24) hx hb hts hinX12 hown hK hP 0 rfl rfl 0 (by decide) (hts (.fieldLink RX12 9 "CornDeskModel" "now" "[I") (by decide +kernel)) (fun _ h9 => h9) rfl dX12_belief_133 ?_
            refine lv_iload hx hb dX12_belief_136 (lv_at hl 1 rfl) ?_
            refine lv_iconst (v := (nI (1))) hx hb dX12_belief_138 (by decide) ?_
            refine ln_iadd hx hb dX12_belief_139 ?_
            refine ln_iald hx hb hK hP 1 0 rfl rfl (by decide) (by omega) dX12_belief_140 ?_
            refine lv_i2l hx hb dX12_belief_141 rfl ?_
            refine ln_eql (y := (lN (a (shL a i k + 1)))) (nI_l (by omega)) ?_
            refine lv_lmul hx hb dX12_belief_142 ?_
            refine ln_eql (y := (lN (blN a i (k + 1)))) (by rw [lN_mul, blN_s]) ?_
            refine lv_lstore (lv' := [(5, .long (lN (blN a i (k + 1)))), (3, .long (lN (blU a i (k + 1)))), (8, .int (nI (shL a i k))), (7, .int (nI (k))), (0, .ref (ad 0)), (1, .int (nI (i))), (2, .int (zf))]) hx hb dX12_belief_143 hl (by decide) rfl (fun ls hl => ?_)
            refine lv_iinc (v := (nI (k + 1))) (lv' := [(7, .int (nI (k + 1))), (5, .long (lN (blN a i (k + 1)))), (3, .long (lN (blU a i (k + 1)))), (8, .int (nI (shL a i k))), (0, .ref (ad 0)), (1, .int (nI (i))), (2, .int (zf))]) hx hb dX12_belief_145 hl (k := 3) rfl (by rw [show (Int32.ofInt 1) = nI 1 from rfl, nI_add]) (by decide) rfl (fun ls hl => ?_)
            refine lv_goto (tgt := 49) hx hb dX12_belief_148 (by decide) ?_
            exact ih (k + 1) (by omega) _ _ _ hP hD hS (lv_sub hl [0, 2, 1, 4, 5, 6] rfl)
      exact lp (a (334 + 5 * i + 4)) (0) (by omega) _ _ _ hP hD hS (lv_sub hl [0, 2, 1, 3, 4, 5] rfl)
    · refine lv_lconst (v := 1) hx hb dX12_belief_24 (by decide) ?_
      exact hret _ _ _ _ _ _ (Or.inr ⟨i, ⟨rfl, hi⟩, Or.inl ⟨c2, rfl, rfl⟩⟩) hP hD hS dX12_belief_25
  · refine lv_aload_n hx hb dX12_belief_8 rfl (lv_at hl 0 rfl) ?_
    refine lv_ldc2 (v := (-1000000001)) hx hb hown (hts (.constantLong RX12 76 (-1000000001)) (by decide +kernel)) dX12_belief_9 ?_
    refine mq_Vl (As := [.long ((-1000000001))]) (rest := []) (ci := 12) (k0 := 0) ⟨hx, hb, hml, hown, hts⟩ (cM_finds l D ad cI cJ a kp bt sz sheets go ro car ke km fi gm bs bu n1 n2 n3 n4 n5 n6 n7 px py db ((-1000000001)) ) (cwV 1 hts gX12_belief_X12_finds rfl rfl rfl (by decide +kernel) ⟨Nat.le_of_ble_eq_true rfl, Nat.le_of_ble_eq_true rfl⟩) rfl rfl hP hK hD hS hA rfl hl.1 rfl (Nat.le_of_ble_eq_true rfl) dX12_belief_12 ⟨Nat.le_of_ble_eq_true rfl, Nat.le_of_ble_eq_true rfl⟩ (fun r w1 H locs hq hP hD hS => ?_)
    obtain ⟨rfl, rfl⟩ := hq
    exact hret _ _ _ _ _ _ (Or.inl ⟨c1, rfl, rfl⟩) hP hD hS dX12_belief_15
set_option maxHeartbeats 4000000 in
set_option maxRecDepth 100000 in
theorem cM_dig (l : Launch) (D : va_G) (ad : Nat → Nat) (cI cJ : ClassId) (a kp bt sz : Nat → Nat) (sheets : Nat → Int32) (go ro : Nat → Nat) (car : Nat → Int32) (ke km fi gm bs bu : Nat) (n1 n2 n3 n4 n5 n6 n7 : Int64) (px py db : Nat → Int64) (x : Int32) (y : Int32) (h3 : a 3 ≤ 8) (hfd : ∀ i, i < a 3 → fdOk a i) (hsh : shOk a) (he : ke < 20) (hm : km ≤ 20) : mq_l l D (mT cI cJ) yX12_dig wsX12_dig 2 0 0 43 [.ref (ad 0), .int (x), .int (y)] (mW ad cI cJ a kp bt sz sheets go ro car ke km fi gm bs bu n1 n2 n3 n4 n5 n6 n7 px py db) (fun r w1 => (¬ ix (a 3) x ∧ r = -1000000001 ∧ w1 = mW ad cI cJ a kp bt sz sheets go ro car ke km (fi + 1) gm bs bu n1 n2 n3 n4 n5 n6 n7 px py db) ∨ (∃ i : Nat, (x = nI i ∧ i < a 3) ∧ ((a (334 + 5 * i + 3) = 1 ∧ r = -1000000004 ∧ w1 = mW ad cI cJ a kp bt sz sheets go ro car ke km (fi + 1) gm bs bu n1 n2 n3 n4 n5 n6 n7 px py db) ∨ (a (334 + 5 * i + 3) = 0 ∧ ∃ mn : Nat, ((y = 0 ∧ mn = 0) ∨ (¬ y = 0 ∧ mn = a (334 + 5 * i + 4))) ∧ r = (nI mn).toInt64 ∧ w1 = mW ad cI cJ (dgA a i mn) (cpN kp a (598 * ke) 598) bt sz sheets go ro car ((ke + 1) % 20) (kmU km) fi gm bs bu n1 n2 n3 n4 n5 n6 n7 px py db)))) := by
  refine mq_l_of (cc := cX12_dig) (maxL := 7) (by decide) rfl (Nat.le_of_ble_eq_true rfl) ?_
  intro p e s m args below meth c A Q ls hx hb hts hown hml hnm hA hP hK hD hS hl hret
  have hown : s.vm.findClass RX12 = some m.cls := hown
  have hinX12 : ∀ w ∈ u_ws RX12 TX12 24, w ∈ wsX12_dig := by decide +kernel
  have hl : lv_has ls 7 [(0, .ref (ad 0)), (1, .int (x)), (2, .int (y))] := hl
  refine lv_aload_n hx hb dX12_dig_0 rfl (lv_at hl 0 rfl) ?_
  refine lv_iload_n hx hb dX12_dig_1 rfl (lv_at hl 1 rfl) ?_
  refine mq_Vi (As := [.int (x)]) (rest := []) (ci := 12) (k0 := 0) ⟨hx, hb, hml, hown, hts⟩ (cM_isField l D ad cI cJ a kp bt sz sheets go ro car ke km fi gm bs bu n1 n2 n3 n4 n5 n6 n7 px py db (x) (by omega)) (cwV 1 hts gX12_dig_X12_isField rfl rfl rfl (by decide +kernel) ⟨Nat.le_of_ble_eq_true rfl, Nat.le_of_ble_eq_true rfl⟩) rfl rfl hP hK hD hS hA rfl hl.1 rfl (Nat.le_of_ble_eq_true rfl) dX12_dig_2 ⟨Nat.le_of_ble_eq_true rfl, Nat.le_of_ble_eq_true rfl⟩ (fun r w1 H locs hq hP hD hS => ?_)
  obtain ⟨rfl, rfl⟩ := hq
  refine lb_if_ne (tgt := 16) hx hb dX12_dig_5 (by decide) (fun c1 => ?_) (fun c1 => ?_)
  · obtain ⟨i, hi, rfl⟩ := ix_of c1 (by omega)
    have hf := hfd i hi
    have hfl := hf.2.2.2.2.1
    have hdg := hf.2.2.2.1
    refine lv_aload_n hx hb dX12_dig_16 rfl (lv_at hl 0 rfl) ?_
    refine lv_iload_n hx hb dX12_dig_17 rfl (lv_at hl 1 rfl) ?_
    refine lv_iconst (v := (nI (3))) hx hb dX12_dig_18 (by decide) ?_
    refine mq_Vi (As := [.int (nI (i)), .int (nI (3))]) (rest := []) (ci := 12) (k0 := 0) ⟨hx, hb, hml, hown, hts⟩ (cM_ofField l D ad cI cJ a kp bt sz sheets go ro car ke km fi gm bs bu n1 n2 n3 n4 n5 n6 n7 px py db (i) (3) (by omega)) (cwV 2 hts gX12_dig_X12_ofField rfl rfl rfl (by decide +kernel) ⟨Nat.le_of_ble_eq_true rfl, Nat.le_of_ble_eq_true rfl⟩) rfl rfl hP hK hD hS hA rfl hl.1 rfl (Nat.le_of_ble_eq_true rfl) dX12_dig_19 ⟨Nat.le_of_ble_eq_true rfl, Nat.le_of_ble_eq_true rfl⟩ (fun r w1 H locs hq hP hD hS => ?_)
    obtain ⟨rfl, rfl⟩ := hq
    refine lv_iconst (v := (nI (1))) hx hb dX12_dig_22 (by decide) ?_
    refine ln_icmp_ne (tgt := 34) hx hb dX12_dig_23 (by decide) (by omega) (by omega) (fun c2 => ?_) (fun c2 => ?_)
    · refine lv_aload_n hx hb dX12_dig_34 rfl (lv_at hl 0 rfl) ?_
      refine mq_Vv (As := []) (rest := []) (ci := 12) (k0 := 0) ⟨hx, hb, hml, hown, hts⟩ (cM_keep l D ad cI cJ a kp bt sz sheets go ro car ke km fi gm bs bu n1 n2 n3 n4 n5 n6 n7 px py db  he hm) (cwV 0 hts gX12_dig_X12_keep rfl rfl rfl (by decide +kernel) ⟨Nat.le_of_ble_eq_true rfl, Nat.le_of_ble_eq_true rfl⟩) rfl rfl hP hK hD hS hA rfl hl.1 rfl (Nat.le_of_ble_eq_true rfl) dX12_dig_35 ⟨Nat.le_of_ble_eq_true rfl, Nat.le_of_ble_eq_true rfl⟩ (fun w1 H locs hq hP hD hS => ?_)
      subst hq
      refine lv_aload_n hx hb dX12_dig_38 rfl (lv_at hl 0 rfl) ?_
      refine va_get (D := D) (ci := 12) (v := .ref (ad 1)) (C := RX12) (T := TX12) (N := 24) hx hb hts hinX12 hown hK hP 0 rfl rfl 0 (by decide) (hts (.fieldLink RX12 9 "CornDeskModel" "now" "[I") (by decide +kernel)) (fun _ h9 => h9) rfl dX12_dig_39 ?_
      refine lv_sipush (v := (nI (334))) hx hb dX12_dig_42 (by decide) ?_
      refine lv_iconst (v := (nI (5))) hx hb dX12_dig_45 (by decide) ?_
      refine lv_iload_n hx hb dX12_dig_46 rfl (lv_at hl 1 rfl) ?_
      refine ln_imul hx hb dX12_dig_47 ?_
      refine ln_iadd hx hb dX12_dig_48 ?_
      refine lv_iconst (v := (nI (3))) hx hb dX12_dig_49 (by decide) ?_
      refine ln_iadd hx hb dX12_dig_50 ?_
      refine lv_iconst (v := (nI (1))) hx hb dX12_dig_51 (by decide) ?_
      refine ln_iastN hx hb hK hP hD hS 1 0 rfl rfl (by decide) (by omega) dX12_dig_52 (fun H locs hP hD hS => ?_)
      have hP : va_P D vwCl (mW ad cI cJ (upN a (334 + (5) * (i) + 3) (1)) (cpN kp a (598 * ke) 598) bt sz sheets go ro car ((ke + 1) % 20) (kmU km) fi gm bs bu n1 n2 n3 n4 n5 n6 n7 px py db) H := hP
      have hD : va_D A (mW ad cI cJ (upN a (334 + (5) * (i) + 3) (1)) (cpN kp a (598 * ke) 598) bt sz sheets go ro car ((ke + 1) % 20) (kmU km) fi gm bs bu n1 n2 n3 n4 n5 n6 n7 px py db) := hD
      have h00 : ∀ q, dgA a i 0 q = upN a (334 + 5 * i + 3) 1 q := fun _ => rfl
      have tl : ∀ (mn : Nat), ((y = 0 ∧ mn = 0) ∨ (¬ y = 0 ∧ mn = a (334 + 5 * i + 4))) → ∀ (H : Heap) (locs : List Loc) (ls : Array Slot), va_P D vwCl (mW ad cI cJ (upN a (334 + (5) * (i) + 3) (1)) (cpN kp a (598 * ke) 598) bt sz sheets go ro car ((ke + 1) % 20) (kmU km) fi gm bs bu n1 n2 n3 n4 n5 n6 n7 px py db) H → va_D A (mW ad cI cJ (upN a (334 + (5) * (i) + 3) (1)) (cpN kp a (598 * ke) 598) bt sz sheets go ro car ((ke + 1) % 20) (kmU km) fi gm bs bu n1 n2 n3 n4 n5 n6 n7 px py db) → va_S A s.heap H locs → lv_has ls 7 [(0, .ref (ad 0)), (1, .int (nI (i)))] → W p l e (mq_R 2 0 0 43) s m args below meth c H locs 0 0 Q (F0 m 67 ls [.int (nI (mn))]) := by
        intro mn hmn H locs ls hP hD hS hl
        refine lv_istore_n (lv' := [(3, .int (nI (mn))), (0, .ref (ad 0)), (1, .int (nI (i)))]) hx hb dX12_dig_67 rfl hl (by decide) rfl (fun ls hl => ?_)
        refine lv_iconst (v := (nI (0))) hx hb dX12_dig_68 (by decide) ?_
        refine lv_istore (lv' := [(4, .int (nI (0))), (3, .int (nI (mn))), (0, .ref (ad 0)), (1, .int (nI (i)))]) hx hb dX12_dig_69 hl (by decide) rfl (fun ls hl => ?_)
        have lp : ∀ (n : Nat) (k : Nat), (k + n = mn) → ∀ (H : Heap) (locs : List Loc) (ls : Array Slot), va_P D vwCl (mW ad cI cJ (dgA a i k) (cpN kp a (598 * ke) 598) bt sz sheets go ro car ((ke + 1) % 20) (kmU km) fi gm bs bu n1 n2 n3 n4 n5 n6 n7 px py db) H → va_D A (mW ad cI cJ (dgA a i k) (cpN kp a (598 * ke) 598) bt sz sheets go ro car ((ke + 1) % 20) (kmU km) fi gm bs bu n1 n2 n3 n4 n5 n6 n7 px py db) → va_S A s.heap H locs → lv_has ls 7 [(4, .int (nI (k))), (3, .int (nI (mn))), (0, .ref (ad 0)), (1, .int (nI (i)))] → W p l e (mq_R 2 0 0 43) s m args below meth c H locs 0 0 Q (F0 m 71 ls []) := by
          intro n
          induction n with
          | zero =>
            intro k hk H locs ls hP hD hS hl
            refine lv_iload hx hb dX12_dig_71 (lv_at hl 0 rfl) ?_
            refine lv_iload_n hx hb dX12_dig_73 rfl (lv_at hl 1 rfl) ?_
            refine ln_icmp_ge (tgt := 157) hx hb dX12_dig_74 (by decide) (by omega) (by omega) (fun c3 => ?_) (fun c3 => ?_)
            · have hk0 : k = mn := by omega
              subst hk0
              refine lv_iload_n hx hb dX12_dig_157 rfl (lv_at hl 1 rfl) ?_
              refine lv_i2l hx hb dX12_dig_158 rfl ?_
              exact hret _ _ _ _ _ _ (Or.inr ⟨i, ⟨rfl, hi⟩, Or.inr ⟨by omega, k, hmn, rfl, rfl⟩⟩) hP hD hS dX12_dig_159
            · exact absurd hk (by omega)
          | succ n ih =>
            intro k hk H locs ls hP hD hS hl
            refine lv_iload hx hb dX12_dig_71 (lv_at hl 0 rfl) ?_
            refine lv_iload_n hx hb dX12_dig_73 rfl (lv_at hl 1 rfl) ?_
            refine ln_icmp_ge (tgt := 157) hx hb dX12_dig_74 (by decide) (by omega) (by omega) (fun c3 => ?_) (fun c3 => ?_)
            · exact absurd hk (by omega)
            · have hkL : k < a (334 + 5 * i + 4) := by rcases hmn with h | h <;> omega
              have z4 := shL_lt hf hkL
              have z5 := shL_ge a i k
              refine lv_sipush (v := (nI (374))) hx hb dX12_dig_77 (by decide) ?_
              refine lv_bipush (v := (nI (12))) hx hb dX12_dig_80 (by decide) ?_
              refine lv_iload_n hx hb dX12_dig_82 rfl (lv_at hl 3 rfl) ?_
              refine ln_imul hx hb dX12_dig_83 ?_
              refine ln_iadd hx hb dX12_dig_84 ?_
              refine lv_iconst (v := (nI (3))) hx hb dX12_dig_85 (by decide) ?_
              refine lv_iload hx hb dX12_dig_86 (lv_at hl 0 rfl) ?_
              refine ln_imul hx hb dX12_dig_88 ?_
              refine ln_iadd hx hb dX12_dig_89 ?_
              refine lv_istore (lv' := [(5, .int (nI (374 + (12) * (i) + (3) * (k)))), (4, .int (nI (k))), (3, .int (nI (mn))), (0, .ref (ad 0)), (1, .int (nI (i)))]) hx hb dX12_dig_90 hl (by decide) rfl (fun ls hl => ?_)
              refine lv_aload_n hx hb dX12_dig_92 rfl (lv_at hl 3 rfl) ?_
              refine lv_iload_n hx hb dX12_dig_93 rfl (lv_at hl 4 rfl) ?_
              refine lv_iconst (v := (nI (0))) hx hb dX12_dig_94 (by decide) ?_
              refine mq_Vi (As := [.int (nI (i)), .int (nI (0))]) (rest := []) (ci := 12) (k0 := 0) ⟨hx, hb, hml, hown, hts⟩ (cM_ofField l D ad cI cJ (dgA a i k) (cpN kp a (598 * ke) 598) bt sz sheets go ro car ((ke + 1) % 20) (kmU km) fi gm bs bu n1 n2 n3 n4 n5 n6 n7 px py db (i) (0) (by omega)) (cwV 2 hts gX12_dig_X12_ofField rfl rfl rfl (by decide +kernel) ⟨Nat.le_of_ble_eq_true rfl, Nat.le_of_ble_eq_true rfl⟩) rfl rfl hP hK hD hS hA rfl hl.1 rfl (Nat.le_of_ble_eq_true rfl) dX12_dig_95 ⟨Nat.le_of_ble_eq_true rfl, Nat.le_of_ble_eq_true rfl⟩ (fun r w1 H locs hq hP hD hS => ?_)
              obtain ⟨rfl, rfl⟩ := hq
              refine ln_eqi (y := (nI (a (334 + 5 * i)))) (congrArg nI (dgA_lo (by omega) (by omega) _)) ?_
              refine lv_aload_n hx hb dX12_dig_98 rfl (lv_at hl 3 rfl) ?_
              refine va_get (D := D) (ci := 12) (v := .ref (ad 1)) (C := RX12) (T := TX12) (N := 24) hx hb hts hinX12 hown hK hP 0 rfl rfl 0 (by decide) (hts (.fieldLink RX12 9 "CornDeskModel" "now" "[I") (by decide +kernel)) (fun _ h9 => h9) rfl dX12_dig_99 ?_
              refine lv_iload hx hb dX12_dig_102 (lv_at hl 0 rfl) ?_
              refine ln_iald hx hb hK hP 1 0 rfl rfl (by decide) (by omega) dX12_dig_104 ?_
              refine ln_eqi (y := (nI (a (374 + 12 * i + 3 * k)))) (congrArg nI (dgA_lo (by omega) (by omega) _)) ?_
              refine lv_aload_n hx hb dX12_dig_105 rfl (lv_at hl 3 rfl) ?_
              refine va_get (D := D) (ci := 12) (v := .ref (ad 1)) (C := RX12) (T := TX12) (N := 24) hx hb hts hinX12 hown hK hP 0 rfl rfl 0 (by decide) (hts (.fieldLink RX12 9 "CornDeskModel" "now" "[I") (by decide +kernel)) (fun _ h9 => h9) rfl dX12_dig_106 ?_
              refine lv_iload hx hb dX12_dig_109 (lv_at hl 0 rfl) ?_
              refine lv_iconst (v := (nI (1))) hx hb dX12_dig_111 (by decide) ?_
              refine ln_iadd hx hb dX12_dig_112 ?_
              refine ln_iald hx hb hK hP 1 0 rfl rfl (by decide) (by omega) dX12_dig_113 ?_
              refine ln_eqi (y := (nI (a (374 + 12 * i + 3 * k + 1)))) (congrArg nI (dgA_lo (by omega) (by omega) _)) ?_
              refine mq_Si (As := [.int (nI (a (334 + 5 * i))), .int (nI (a (374 + 12 * i + 3 * k))), .int (nI (a (374 + 12 * i + 3 * k + 1)))]) (rest := []) ⟨hx, hb, hml, hown, hts⟩ (cM_showAt l D _ (a (334 + 5 * i)) (a (374 + 12 * i + 3 * k)) (a (374 + 12 * i + 3 * k + 1)) ) (cwS 3 hts gX12_dig_X12_showAt rfl rfl rfl (by decide +kernel) ⟨Nat.le_of_ble_eq_true rfl, Nat.le_of_ble_eq_true rfl⟩) hP hK hS hA rfl hl.1 rfl (Nat.le_of_ble_eq_true rfl) dX12_dig_114 ⟨Nat.le_of_ble_eq_true rfl, Nat.le_of_ble_eq_true rfl⟩ (fun r w1 H locs hq hP hS => ?_)
              subst hq
              refine ln_eqi (y := (nI (shL a i k))) rfl ?_
              refine lv_istore (lv' := [(6, .int (nI (shL a i k))), (5, .int (nI (374 + (12) * (i) + (3) * (k)))), (4, .int (nI (k))), (3, .int (nI (mn))), (0, .ref (ad 0)), (1, .int (nI (i)))]) hx hb dX12_dig_117 hl (by decide) rfl (fun ls hl => ?_)
              refine lv_aload_n hx hb dX12_dig_119 rfl (lv_at hl 4 rfl) ?_
              refine va_get (D := D) (ci := 12) (v := .ref (ad 1)) (C := RX12) (T := TX12) (N := 24) hx hb hts hinX12 hown hK hP 0 rfl rfl 0 (by decide) (hts (.fieldLink RX12 9 "CornDeskModel" "now" "[I") (by decide +kernel)) (fun _ h9 => h9) rfl dX12_dig_120 ?_
              refine lv_iload hx hb dX12_dig_123 (lv_at hl 0 rfl) ?_
              refine lv_dup2_11 hx hb dX12_dig_125 rfl rfl ?_
              refine ln_iald hx hb hK hP 1 0 rfl rfl (by decide) (by omega) dX12_dig_126 ?_
              refine lv_aload_n hx hb dX12_dig_127 rfl (lv_at hl 4 rfl) ?_
              refine va_get (D := D) (ci := 12) (v := .ref (ad 1)) (C := RX12) (T := TX12) (N := 24) hx hb hts hinX12 hown hK hP 0 rfl rfl 0 (by decide) (hts (.fieldLink RX12 9 "CornDeskModel" "now" "[I") (by decide +kernel)) (fun _ h9 => h9) rfl dX12_dig_128 ?_
              refine lv_iload hx hb dX12_dig_131 (lv_at hl 1 rfl) ?_
              refine lv_iconst (v := (nI (2))) hx hb dX12_dig_133 (by decide) ?_
              refine ln_iadd hx hb dX12_dig_134 ?_
              refine ln_iald hx hb hK hP 1 0 rfl rfl (by decide) (by omega) dX12_dig_135 ?_
              refine ln_eqi (y := (nI (a (374 + 12 * i + 3 * k + 2)))) (congrArg nI (dgA_lo (by omega) (by omega) _)) ?_
              refine ln_iadd hx hb dX12_dig_136 ?_
              refine ln_iastN hx hb hK hP hD hS 1 0 rfl rfl (by decide) (by omega) dX12_dig_137 (fun H locs hP hD hS => ?_)
              have hP : va_P D vwCl (mW ad cI cJ (upN (dgA a i k) (shL a i k) ((dgA a i k) (shL a i k) + (a (374 + 12 * i + 3 * k + 2)))) (cpN kp a (598 * ke) 598) bt sz sheets go ro car ((ke + 1) % 20) (kmU km) fi gm bs bu n1 n2 n3 n4 n5 n6 n7 px py db) H := hP
              have hD : va_D A (mW ad cI cJ (upN (dgA a i k) (shL a i k) ((dgA a i k) (shL a i k) + (a (374 + 12 * i + 3 * k + 2)))) (cpN kp a (598 * ke) 598) bt sz sheets go ro car ((ke + 1) % 20) (kmU km) fi gm bs bu n1 n2 n3 n4 n5 n6 n7 px py db) := hD
              refine lv_aload_n hx hb dX12_dig_138 rfl (lv_at hl 4 rfl) ?_
              refine va_get (D := D) (ci := 12) (v := .ref (ad 1)) (C := RX12) (T := TX12) (N := 24) hx hb hts hinX12 hown hK hP 0 rfl rfl 0 (by decide) (hts (.fieldLink RX12 9 "CornDeskModel" "now" "[I") (by decide +kernel)) (fun _ h9 => h9) rfl dX12_dig_139 ?_
              refine lv_iload hx hb dX12_dig_142 (lv_at hl 0 rfl) ?_
              refine lv_iconst (v := (nI (1))) hx hb dX12_dig_144 (by decide) ?_
              refine ln_iadd hx hb dX12_dig_145 ?_
              refine lv_dup2_11 hx hb dX12_dig_146 rfl rfl ?_
              refine ln_iald hx hb hK hP 1 0 rfl rfl (by decide) (by omega) dX12_dig_147 ?_
              refine ln_eqi (y := (nI ((dgA a i k) (shL a i k + 1)))) (congrArg nI (by simp only [upN, if_true]; (repeat first | rw [if_neg (by omega)] | rw [if_pos (by omega)]))) ?_
              refine lv_iconst (v := (nI (1))) hx hb dX12_dig_148 (by decide) ?_
              refine ln_iadd hx hb dX12_dig_149 ?_
              refine ln_iastN hx hb hK hP hD hS 1 0 rfl rfl (by decide) (by omega) dX12_dig_150 (fun H locs hP hD hS => ?_)
              have hP : va_P D vwCl (mW ad cI cJ (upN (upN (dgA a i k) (shL a i k) ((dgA a i k) (shL a i k) + (a (374 + 12 * i + 3 * k + 2)))) (shL a i k + 1) ((dgA a i k) (shL a i k + 1) + 1)) (cpN kp a (598 * ke) 598) bt sz sheets go ro car ((ke + 1) % 20) (kmU km) fi gm bs bu n1 n2 n3 n4 n5 n6 n7 px py db) H := hP
              have hD : va_D A (mW ad cI cJ (upN (upN (dgA a i k) (shL a i k) ((dgA a i k) (shL a i k) + (a (374 + 12 * i + 3 * k + 2)))) (shL a i k + 1) ((dgA a i k) (shL a i k + 1) + 1)) (cpN kp a (598 * ke) 598) bt sz sheets go ro car ((ke + 1) % 20) (kmU km) fi gm bs bu n1 n2 n3 n4 n5 n6 n7 px py db) := hD
              refine lv_iinc (v := (nI (k + 1))) (lv' := [(4, .int (nI (k + 1))), (6, .int (nI (shL a i k))), (5, .int (nI (374 + (12) * (i) + (3) * (k)))), (3, .int (nI (mn))), (0, .ref (ad 0)), (1, .int (nI (i)))]) hx hb dX12_dig_151 hl (k := 2) rfl (by rw [show (Int32.ofInt 1) = nI 1 from rfl, nI_add]) (by decide) rfl (fun ls hl => ?_)
              refine lv_goto (tgt := 71) hx hb dX12_dig_154 (by decide) ?_
              exact ih (k + 1) (by omega) _ _ _ hP hD hS (lv_sub hl [0, 3, 4, 5] rfl)
        exact lp (mn) (0) (by omega) _ _ _ hP hD hS hl
      refine lv_iload_n hx hb dX12_dig_53 rfl (lv_at hl 2 rfl) ?_
      refine lv_if_eq (tgt := 66) hx hb dX12_dig_54 (by decide) (fun c4 => ?_) (fun c4 => ?_)
      · refine lv_iconst (v := (nI (0))) hx hb dX12_dig_66 (by decide) ?_
        exact tl (0) (Or.inl ⟨c4, rfl⟩) _ _ _ hP hD hS (lv_sub hl [0, 1] rfl)
      · refine lv_aload_n hx hb dX12_dig_57 rfl (lv_at hl 0 rfl) ?_
        refine lv_iload_n hx hb dX12_dig_58 rfl (lv_at hl 1 rfl) ?_
        refine lv_iconst (v := (nI (4))) hx hb dX12_dig_59 (by decide) ?_
        refine mq_Vi (As := [.int (nI (i)), .int (nI (4))]) (rest := []) (ci := 12) (k0 := 0) ⟨hx, hb, hml, hown, hts⟩ (cM_ofField l D ad cI cJ (upN a (334 + (5) * (i) + 3) (1)) (cpN kp a (598 * ke) 598) bt sz sheets go ro car ((ke + 1) % 20) (kmU km) fi gm bs bu n1 n2 n3 n4 n5 n6 n7 px py db (i) (4) (by omega)) (cwV 2 hts gX12_dig_X12_ofField rfl rfl rfl (by decide +kernel) ⟨Nat.le_of_ble_eq_true rfl, Nat.le_of_ble_eq_true rfl⟩) rfl rfl hP hK hD hS hA rfl hl.1 rfl (Nat.le_of_ble_eq_true rfl) dX12_dig_60 ⟨Nat.le_of_ble_eq_true rfl, Nat.le_of_ble_eq_true rfl⟩ (fun r w1 H locs hq hP hD hS => ?_)
        obtain ⟨rfl, rfl⟩ := hq
        refine ln_eqi (y := (nI (a (334 + 5 * i + 4)))) (congrArg nI (by simp only [upN, if_true]; (repeat first | rw [if_neg (by omega)] | rw [if_pos (by omega)]))) ?_
        refine lv_goto (tgt := 67) hx hb dX12_dig_63 (by decide) ?_
        exact tl (a (334 + 5 * i + 4)) (Or.inr ⟨c4, rfl⟩) _ _ _ hP hD hS (lv_sub hl [0, 1] rfl)
    · refine lv_aload_n hx hb dX12_dig_26 rfl (lv_at hl 0 rfl) ?_
      refine lv_ldc2 (v := (-1000000004)) hx hb hown (hts (.constantLong RX12 131 (-1000000004)) (by decide +kernel)) dX12_dig_27 ?_
      refine mq_Vl (As := [.long ((-1000000004))]) (rest := []) (ci := 12) (k0 := 0) ⟨hx, hb, hml, hown, hts⟩ (cM_finds l D ad cI cJ a kp bt sz sheets go ro car ke km fi gm bs bu n1 n2 n3 n4 n5 n6 n7 px py db ((-1000000004)) ) (cwV 1 hts gX12_dig_X12_finds rfl rfl rfl (by decide +kernel) ⟨Nat.le_of_ble_eq_true rfl, Nat.le_of_ble_eq_true rfl⟩) rfl rfl hP hK hD hS hA rfl hl.1 rfl (Nat.le_of_ble_eq_true rfl) dX12_dig_30 ⟨Nat.le_of_ble_eq_true rfl, Nat.le_of_ble_eq_true rfl⟩ (fun r w1 H locs hq hP hD hS => ?_)
      obtain ⟨rfl, rfl⟩ := hq
      exact hret _ _ _ _ _ _ (Or.inr ⟨i, ⟨rfl, hi⟩, Or.inl ⟨c2, rfl, rfl⟩⟩) hP hD hS dX12_dig_33
  · refine lv_aload_n hx hb dX12_dig_8 rfl (lv_at hl 0 rfl) ?_
    refine lv_ldc2 (v := (-1000000001)) hx hb hown (hts (.constantLong RX12 76 (-1000000001)) (by decide +kernel)) dX12_dig_9 ?_
    refine mq_Vl (As := [.long ((-1000000001))]) (rest := []) (ci := 12) (k0 := 0) ⟨hx, hb, hml, hown, hts⟩ (cM_finds l D ad cI cJ a kp bt sz sheets go ro car ke km fi gm bs bu n1 n2 n3 n4 n5 n6 n7 px py db ((-1000000001)) ) (cwV 1 hts gX12_dig_X12_finds rfl rfl rfl (by decide +kernel) ⟨Nat.le_of_ble_eq_true rfl, Nat.le_of_ble_eq_true rfl⟩) rfl rfl hP hK hD hS hA rfl hl.1 rfl (Nat.le_of_ble_eq_true rfl) dX12_dig_12 ⟨Nat.le_of_ble_eq_true rfl, Nat.le_of_ble_eq_true rfl⟩ (fun r w1 H locs hq hP hD hS => ?_)
    obtain ⟨rfl, rfl⟩ := hq
    exact hret _ _ _ _ _ _ (Or.inl ⟨c1, rfl, rfl⟩) hP hD hS dX12_dig_15
set_option maxHeartbeats 4000000 in
set_option maxRecDepth 100000 in
theorem cM_brought (l : Launch) (D : va_G) (ad : Nat → Nat) (cI cJ : ClassId) (a kp bt sz : Nat → Nat) (sheets : Nat → Int32) (go ro : Nat → Nat) (car : Nat → Int32) (ke km fi gm bs bu : Nat) (n1 n2 n3 n4 n5 n6 n7 : Int64) (px py db : Nat → Int64) (f : Nat) (cr : Nat) (dr : Nat) (hf8 : f < 8) (hf : fdOk a f) (hsh : shOk a) (hc : cr ≤ 3) (hd : dr ≤ 3) : mq_i l D (mT cI cJ) yX12_brought wsX12_brought 2 0 0 44 [.ref (ad 0), .int (nI (f)), .int (nI (cr)), .int (nI (dr))] (mW ad cI cJ a kp bt sz sheets go ro car ke km fi gm bs bu n1 n2 n3 n4 n5 n6 n7 px py db) (fun r w1 => r = nI (brv a f cr dr) ∧ w1 = mW ad cI cJ a kp bt sz sheets go ro car ke km fi gm bs bu n1 n2 n3 n4 n5 n6 n7 px py db) := by
  refine mq_i_of (cc := cX12_brought) (maxL := 5) (by decide) rfl (Nat.le_of_ble_eq_true rfl) ?_
  intro p e s m args below meth c A Q ls hx hb hts hown hml hnm hA hP hK hD hS hl hret
  have hown : s.vm.findClass RX12 = some m.cls := hown
  have hinX12 : ∀ w ∈ u_ws RX12 TX12 24, w ∈ wsX12_brought := by decide +kernel
  have hl : lv_has ls 5 [(0, .ref (ad 0)), (1, .int (nI (f))), (2, .int (nI (cr))), (3, .int (nI (dr)))] := hl
  have hfl := hf.2.2.2.2.1
  have hdg := hf.2.2.2.1
  have hch := hf.2.1
  obtain ⟨q1, q2, q3, q4⟩ := shC_ok hf hsh hc hd
  refine lv_aload_n hx hb dX12_brought_0 rfl (lv_at hl 0 rfl) ?_
  refine lv_iload_n hx hb dX12_brought_1 rfl (lv_at hl 1 rfl) ?_
  refine lv_iconst (v := (nI (3))) hx hb dX12_brought_2 (by decide) ?_
  refine mq_Vi (As := [.int (nI (f)), .int (nI (3))]) (rest := []) (ci := 12) (k0 := 0) ⟨hx, hb, hml, hown, hts⟩ (cM_ofField l D ad cI cJ a kp bt sz sheets go ro car ke km fi gm bs bu n1 n2 n3 n4 n5 n6 n7 px py db (f) (3) (by omega)) (cwV 2 hts gX12_brought_X12_ofField rfl rfl rfl (by decide +kernel) ⟨Nat.le_of_ble_eq_true rfl, Nat.le_of_ble_eq_true rfl⟩) rfl rfl hP hK hD hS hA rfl hl.1 rfl (Nat.le_of_ble_eq_true rfl) dX12_brought_3 ⟨Nat.le_of_ble_eq_true rfl, Nat.le_of_ble_eq_true rfl⟩ (fun r w1 H locs hq hP hD hS => ?_)
  obtain ⟨rfl, rfl⟩ := hq
  refine lv_iconst (v := (nI (1))) hx hb dX12_brought_6 (by decide) ?_
  refine ln_icmp_eq (tgt := 18) hx hb dX12_brought_7 (by decide) (by omega) (by omega) (fun c1 => ?_) (fun c1 => ?_)
  · refine lv_iconst (v := (nI (0))) hx hb dX12_brought_18 (by decide) ?_
    exact hret _ _ _ _ _ _ ⟨by rw [brv_0 (Or.inl c1)], rfl⟩ hP hD hS dX12_brought_19
  · refine lv_aload_n hx hb dX12_brought_10 rfl (lv_at hl 0 rfl) ?_
    refine lv_iload_n hx hb dX12_brought_11 rfl (lv_at hl 1 rfl) ?_
    refine mq_Vi (As := [.int (nI (f))]) (rest := []) (ci := 12) (k0 := 0) ⟨hx, hb, hml, hown, hts⟩ (cM_wasSeen l D ad cI cJ a kp bt sz sheets go ro car ke km fi gm bs bu n1 n2 n3 n4 n5 n6 n7 px py db (f) hf8 hf) (cwV 1 hts gX12_brought_X12_wasSeen rfl rfl rfl (by decide +kernel) ⟨Nat.le_of_ble_eq_true rfl, Nat.le_of_ble_eq_true rfl⟩) rfl rfl hP hK hD hS hA rfl hl.1 rfl (Nat.le_of_ble_eq_true rfl) dX12_brought_12 ⟨Nat.le_of_ble_eq_true rfl, Nat.le_of_ble_eq_true rfl⟩ (fun r w1 H locs hq hP hD hS => ?_)
    obtain ⟨rfl, rfl⟩ := hq
    refine lb_if_eq (tgt := 20) hx hb dX12_brought_15 (by decide) (fun c2 => ?_) (fun c2 => ?_)
    · refine lv_aload_n hx hb dX12_brought_20 rfl (lv_at hl 0 rfl) ?_
      refine lv_iload_n hx hb dX12_brought_21 rfl (lv_at hl 1 rfl) ?_
      refine lv_iconst (v := (nI (0))) hx hb dX12_brought_22 (by decide) ?_
      refine mq_Vi (As := [.int (nI (f)), .int (nI (0))]) (rest := []) (ci := 12) (k0 := 0) ⟨hx, hb, hml, hown, hts⟩ (cM_ofField l D ad cI cJ a kp bt sz sheets go ro car ke km fi gm bs bu n1 n2 n3 n4 n5 n6 n7 px py db (f) (0) (by omega)) (cwV 2 hts gX12_brought_X12_ofField rfl rfl rfl (by decide +kernel) ⟨Nat.le_of_ble_eq_true rfl, Nat.le_of_ble_eq_true rfl⟩) rfl rfl hP hK hD hS hA rfl hl.1 rfl (Nat.le_of_ble_eq_true rfl) dX12_brought_23 ⟨Nat.le_of_ble_eq_true rfl, Nat.le_of_ble_eq_true rfl⟩ (fun r w1 H locs hq hP hD hS => ?_)
      obtain ⟨rfl, rfl⟩ := hq
      refine ln_eqi (y := (nI (a (334 + 5 * f)))) rfl ?_
      refine lv_iload_n hx hb dX12_brought_26 rfl (lv_at hl 2 rfl) ?_
      refine lv_iload_n hx hb dX12_brought_27 rfl (lv_at hl 3 rfl) ?_
      refine mq_Si (As := [.int (nI (a (334 + 5 * f))), .int (nI (cr)), .int (nI (dr))]) (rest := []) ⟨hx, hb, hml, hown, hts⟩ (cM_showAt l D _ (a (334 + 5 * f)) (cr) (dr) ) (cwS 3 hts gX12_brought_X12_showAt rfl rfl rfl (by decide +kernel) ⟨Nat.le_of_ble_eq_true rfl, Nat.le_of_ble_eq_true rfl⟩) hP hK hS hA rfl hl.1 rfl (Nat.le_of_ble_eq_true rfl) dX12_brought_28 ⟨Nat.le_of_ble_eq_true rfl, Nat.le_of_ble_eq_true rfl⟩ (fun r w1 H locs hq hP hS => ?_)
      subst hq
      refine ln_eqi (y := (nI (shC a f cr dr))) rfl ?_
      refine lv_istore (lv' := [(4, .int (nI (shC a f cr dr))), (0, .ref (ad 0)), (1, .int (nI (f))), (2, .int (nI (cr))), (3, .int (nI (dr)))]) hx hb dX12_brought_31 hl (by decide) rfl (fun ls hl => ?_)
      refine lv_bipush (v := (nI (100))) hx hb dX12_brought_33 (by decide) ?_
      refine lv_aload_n hx hb dX12_brought_35 rfl (lv_at hl 1 rfl) ?_
      refine lv_iload_n hx hb dX12_brought_36 rfl (lv_at hl 2 rfl) ?_
      refine lv_iconst (v := (nI (1))) hx hb dX12_brought_37 (by decide) ?_
      refine mq_Vi (As := [.int (nI (f)), .int (nI (1))]) (rest := [.int (nI (100))]) (ci := 12) (k0 := 0) ⟨hx, hb, hml, hown, hts⟩ (cM_ofField l D ad cI cJ a kp bt sz sheets go ro car ke km fi gm bs bu n1 n2 n3 n4 n5 n6 n7 px py db (f) (1) (by omega)) (cwV 2 hts gX12_brought_X12_ofField rfl rfl rfl (by decide +kernel) ⟨Nat.le_of_ble_eq_true rfl, Nat.le_of_ble_eq_true rfl⟩) rfl rfl hP hK hD hS hA rfl hl.1 rfl (Nat.le_of_ble_eq_true rfl) dX12_brought_38 ⟨Nat.le_of_ble_eq_true rfl, Nat.le_of_ble_eq_true rfl⟩ (fun r w1 H locs hq hP hD hS => ?_)
      obtain ⟨rfl, rfl⟩ := hq
      refine ln_imul hx hb dX12_brought_41 ?_
      refine lv_aload_n hx hb dX12_brought_42 rfl (lv_at hl 1 rfl) ?_
      refine va_get (D := D) (ci := 12) (v := .ref (ad 1)) (C := RX12) (T := TX12) (N := 24) hx hb hts hinX12 hown hK hP 0 rfl rfl 0 (by decide) (hts (.fieldLink RX12 9 "CornDeskModel" "now" "[I") (by decide +kernel)) (fun _ h9 => h9) rfl dX12_brought_43 ?_
      refine lv_iload hx hb dX12_brought_46 (lv_at hl 0 rfl) ?_
      refine ln_iald hx hb hK hP 1 0 rfl rfl (by decide) (by omega) dX12_brought_48 ?_
      refine ln_imul hx hb dX12_brought_49 ?_
      refine lv_aload_n hx hb dX12_brought_50 rfl (lv_at hl 1 rfl) ?_
      refine va_get (D := D) (ci := 12) (v := .ref (ad 1)) (C := RX12) (T := TX12) (N := 24) hx hb hts hinX12 hown hK hP 0 rfl rfl 0 (by decide) (hts (.fieldLink RX12 9 "CornDeskModel" "now" "[I") (by decide +kernel)) (fun _ h9 => h9) rfl dX12_brought_51 ?_
      refine lv_iload hx hb dX12_brought_54 (lv_at hl 0 rfl) ?_
      refine lv_iconst (v := (nI (1))) hx hb dX12_brought_56 (by decide) ?_
      refine ln_iadd hx hb dX12_brought_57 ?_
      refine ln_iald hx hb hK hP 1 0 rfl rfl (by decide) (by omega) dX12_brought_58 ?_
      have hb3 := mul3_b hch.2 (show a (shC a f cr dr) ≤ 5000 by omega)
      refine ln_idiv hx hb dX12_brought_59 (by omega) (by omega) (by omega) ?_
      exact hret _ _ _ _ _ _ ⟨by rw [brv_1 (fun h => h.elim c1 c2)], rfl⟩ hP hD hS dX12_brought_60
    · refine lv_iconst (v := (nI (0))) hx hb dX12_brought_18 (by decide) ?_
      exact hret _ _ _ _ _ _ ⟨by rw [brv_0 (Or.inr c2)], rfl⟩ hP hD hS dX12_brought_19
set_option maxHeartbeats 4000000 in
set_option maxRecDepth 100000 in
theorem cM_findPlan (l : Launch) (D : va_G) (ad : Nat → Nat) (cI cJ : ClassId) (a kp bt sz : Nat → Nat) (sheets : Nat → Int32) (go ro : Nat → Nat) (car : Nat → Int32) (ke km fi gm bs bu : Nat) (n1 n2 n3 n4 n5 n6 n7 : Int64) (px py db : Nat → Int64) (hr : Nat) (cr : Nat) (dr : Nat) (h3 : a 3 ≤ 8) (hfd : ∀ i, i < a 3 → fdOk a i) (hsh : shOk a) (hh : hr ≤ 99) (hc : cr ≤ 3) (hd : dr ≤ 3) : mq_v l D (mT cI cJ) yX12_findPlan wsX12_findPlan 3 0 0 68 [.ref (ad 0), .int (nI (hr)), .int (nI (cr)), .int (nI (dr))] (mW ad cI cJ a kp bt sz sheets go ro car ke km fi gm bs bu n1 n2 n3 n4 n5 n6 n7 px py db) (fun w1 => w1 = mW ad cI cJ a kp bt sz sheets go ro car ke km fi gm ((plB (fun st => sumS (fun f => brv a f cr dr) st (a 3)) (fun st => sumS (fun f => a (334 + 5 * f + 2)) st (a 3)) hr (2 ^ a 3)).1) ((plB (fun st => sumS (fun f => brv a f cr dr) st (a 3)) (fun st => sumS (fun f => a (334 + 5 * f + 2)) st (a 3)) hr (2 ^ a 3)).2.1) n1 n2 n3 n4 n5 n6 n7 px py db) := by
  refine mq_v_of (cc := cX12_findPlan) (maxL := 9) (by decide) rfl (Nat.le_of_ble_eq_true rfl) ?_
  intro p e s m args below meth c A Q ls hx hb hts hown hml hnm hA hP hK hD hS hl hret
  have hown : s.vm.findClass RX12 = some m.cls := hown
  have hinX12 : ∀ w ∈ u_ws RX12 TX12 24, w ∈ wsX12_findPlan := by decide +kernel
  have hl : lv_has ls 9 [(0, .ref (ad 0)), (1, .int (nI (hr))), (2, .int (nI (cr))), (3, .int (nI (dr)))] := hl
  refine lv_aload_n hx hb dX12_findPlan_0 rfl (lv_at hl 0 rfl) ?_
  refine lv_iconst (v := (nI (0))) hx hb dX12_findPlan_1 (by decide) ?_
  refine va_put (D := D) (ci := 12) (v := .int (nI (0))) (ty := .int) (C := RX12) (T := TX12) (N := 24) hx hb hts hinX12 tyX12 tyX12_ok nmX12 hown hK hP hD hS 0 rfl rfl 21 (by decide) (hts (.fieldLink RX12 181 "CornDeskModel" "bestSet" "I") (by decide +kernel)) (fun _ h9 => h9) rfl (by decide +kernel) rfl rfl (Nat.le_of_ble_eq_true rfl) dX12_findPlan_2 (fun H locs hP hD hS => ?_)
  have hP : va_P D vwCl (mW ad cI cJ a kp bt sz sheets go ro car ke km fi gm 0 bu n1 n2 n3 n4 n5 n6 n7 px py db) H := hP
  have hD : va_D A (mW ad cI cJ a kp bt sz sheets go ro car ke km fi gm 0 bu n1 n2 n3 n4 n5 n6 n7 px py db) := hD
  refine lv_aload_n hx hb dX12_findPlan_5 rfl (lv_at hl 0 rfl) ?_
  refine lv_iconst (v := (nI (0))) hx hb dX12_findPlan_6 (by decide) ?_
  refine va_put (D := D) (ci := 12) (v := .int (nI (0))) (ty := .int) (C := RX12) (T := TX12) (N := 24) hx hb hts hinX12 tyX12 tyX12_ok nmX12 hown hK hP hD hS 0 rfl rfl 22 (by decide) (hts (.fieldLink RX12 184 "CornDeskModel" "bestSum" "I") (by decide +kernel)) (fun _ h9 => h9) rfl (by decide +kernel) rfl rfl (Nat.le_of_ble_eq_true rfl) dX12_findPlan_7 (fun H locs hP hD hS => ?_)
  have hP : va_P D vwCl (mW ad cI cJ a kp bt sz sheets go ro car ke km fi gm 0 0 n1 n2 n3 n4 n5 n6 n7 px py db) H := hP
  have hD : va_D A (mW ad cI cJ a kp bt sz sheets go ro car ke km fi gm 0 0 n1 n2 n3 n4 n5 n6 n7 px py db) := hD
  refine lv_iconst (v := (nI (0))) hx hb dX12_findPlan_10 (by decide) ?_
  refine lv_istore (lv' := [(4, .int (nI (0))), (0, .ref (ad 0)), (1, .int (nI (hr))), (2, .int (nI (cr))), (3, .int (nI (dr)))]) hx hb dX12_findPlan_11 hl (by decide) rfl (fun ls hl => ?_)
  refine lv_iconst (v := (nI (0))) hx hb dX12_findPlan_13 (by decide) ?_
  refine lv_istore (lv' := [(5, .int (nI (0))), (4, .int (nI (0))), (0, .ref (ad 0)), (1, .int (nI (hr))), (2, .int (nI (cr))), (3, .int (nI (dr)))]) hx hb dX12_findPlan_14 hl (by decide) rfl (fun ls hl => ?_)
  have hp2 : 2 ^ a 3 ≤ 2 ^ 8 := Nat.pow_le_pow_right (by decide) h3
  have l0 : ∀ (f0 : Nat) (st : Nat) (x : Nat) (y : Nat) (z : Nat), (st + f0 = 2 ^ a 3) → (plB (fun st => sumS (fun f => brv a f cr dr) st (a 3)) (fun st => sumS (fun f => a (334 + 5 * f + 2)) st (a 3)) hr st = (x, y, z)) → (y ≤ 400000000) → (z ≤ 100) → ∀ (H : Heap) (locs : List Loc) (ls : Array Slot), va_P D vwCl (mW ad cI cJ a kp bt sz sheets go ro car ke km fi gm x y n1 n2 n3 n4 n5 n6 n7 px py db) H → va_D A (mW ad cI cJ a kp bt sz sheets go ro car ke km fi gm x y n1 n2 n3 n4 n5 n6 n7 px py db) → va_S A s.heap H locs → lv_has ls 9 [(5, .int (nI (st))), (4, .int (nI (z))), (0, .ref (ad 0)), (1, .int (nI (hr))), (2, .int (nI (cr))), (3, .int (nI (dr)))] → W p l e (mq_R 3 0 0 68) s m args below meth c H locs 0 0 Q (F0 m 16 ls []) := by
    intro f0
    induction f0 with
    | zero =>
      intro st x y z hst hpl hyb hzb H locs ls hP hD hS hl
      refine lv_iload hx hb dX12_findPlan_16 (lv_at hl 0 rfl) ?_
      refine lv_iconst (v := (nI (1))) hx hb dX12_findPlan_18 (by decide) ?_
      refine lv_aload_n hx hb dX12_findPlan_19 rfl (lv_at hl 2 rfl) ?_
      refine va_get (D := D) (ci := 12) (v := .ref (ad 1)) (C := RX12) (T := TX12) (N := 24) hx hb hts hinX12 hown hK hP 0 rfl rfl 0 (by decide) (hts (.fieldLink RX12 9 "CornDeskModel" "now" "[I") (by decide +kernel)) (fun _ h9 => h9) rfl dX12_findPlan_20 ?_
      refine lv_iconst (v := (nI (3))) hx hb dX12_findPlan_23 (by decide) ?_
      refine ln_iald hx hb hK hP 1 0 rfl rfl (by decide) (by omega) dX12_findPlan_24 ?_
      refine lv_ishl hx hb dX12_findPlan_25 ?_
      refine ln_eqi (y := (nI (2 ^ a 3))) (show nI 1 <<< (nI (a 3) &&& 31) = nI (2 ^ a 3) by rw [pk_shlN (n := 1) _ (a 3) (sl31 _ (by omega)) (by omega), Nat.one_mul]) ?_
      refine ln_icmp_ge (tgt := 149) hx hb dX12_findPlan_26 (by decide) (by omega) (by omega) (fun c0 => ?_) (fun c0 => ?_)
      · have hs0 : st = 2 ^ a 3 := by omega
        subst hs0
        exact hret _ _ _ _ _ (by rw [hpl]) hP hD hS dX12_findPlan_149
      · exact absurd hst (by omega)
    | succ f0 ih0 =>
      intro st x y z hst hpl hyb hzb H locs ls hP hD hS hl
      refine lv_iload hx hb dX12_findPlan_16 (lv_at hl 0 rfl) ?_
      refine lv_iconst (v := (nI (1))) hx hb dX12_findPlan_18 (by decide) ?_
      refine lv_aload_n hx hb dX12_findPlan_19 rfl (lv_at hl 2 rfl) ?_
      refine va_get (D := D) (ci := 12) (v := .ref (ad 1)) (C := RX12) (T := TX12) (N := 24) hx hb hts hinX12 hown hK hP 0 rfl rfl 0 (by decide) (hts (.fieldLink RX12 9 "CornDeskModel" "now" "[I") (by decide +kernel)) (fun _ h9 => h9) rfl dX12_findPlan_20 ?_
      refine lv_iconst (v := (nI (3))) hx hb dX12_findPlan_23 (by decide) ?_
      refine ln_iald hx hb hK hP 1 0 rfl rfl (by decide) (by omega) dX12_findPlan_24 ?_
      refine lv_ishl hx hb dX12_findPlan_25 ?_
      refine ln_eqi (y := (nI (2 ^ a 3))) (show nI 1 <<< (nI (a 3) &&& 31) = nI (2 ^ a 3) by rw [pk_shlN (n := 1) _ (a 3) (sl31 _ (by omega)) (by omega), Nat.one_mul]) ?_
      refine ln_icmp_ge (tgt := 149) hx hb dX12_findPlan_26 (by decide) (by omega) (by omega) (fun c0 => ?_) (fun c0 => ?_)
      · exact absurd hst (by omega)
      · refine lv_iconst (v := (nI (0))) hx hb dX12_findPlan_29 (by decide) ?_
        refine lv_istore (lv' := [(6, .int (nI (0))), (5, .int (nI (st))), (4, .int (nI (z))), (0, .ref (ad 0)), (1, .int (nI (hr))), (2, .int (nI (cr))), (3, .int (nI (dr)))]) hx hb dX12_findPlan_30 hl (by decide) rfl (fun ls hl => ?_)
        refine lv_iconst (v := (nI (0))) hx hb dX12_findPlan_32 (by decide) ?_
        refine lv_istore (lv' := [(7, .int (nI (0))), (6, .int (nI (0))), (5, .int (nI (st))), (4, .int (nI (z))), (0, .ref (ad 0)), (1, .int (nI (hr))), (2, .int (nI (cr))), (3, .int (nI (dr)))]) hx hb dX12_findPlan_33 hl (by decide) rfl (fun ls hl => ?_)
        refine lv_iconst (v := (nI (0))) hx hb dX12_findPlan_35 (by decide) ?_
        refine lv_istore (lv' := [(8, .int (nI (0))), (7, .int (nI (0))), (6, .int (nI (0))), (5, .int (nI (st))), (4, .int (nI (z))), (0, .ref (ad 0)), (1, .int (nI (hr))), (2, .int (nI (cr))), (3, .int (nI (dr)))]) hx hb dX12_findPlan_36 hl (by decide) rfl (fun ls hl => ?_)
        have l1 : ∀ (f1 : Nat) (f : Nat), (f + f1 = a 3) → ∀ (H : Heap) (locs : List Loc) (ls : Array Slot), va_P D vwCl (mW ad cI cJ a kp bt sz sheets go ro car ke km fi gm x y n1 n2 n3 n4 n5 n6 n7 px py db) H → va_D A (mW ad cI cJ a kp bt sz sheets go ro car ke km fi gm x y n1 n2 n3 n4 n5 n6 n7 px py db) → va_S A s.heap H locs → lv_has ls 9 [(8, .int (nI (f))), (6, .int (nI (sumS (fun f => brv a f cr dr) st f))), (7, .int (nI (sumS (fun f => a (334 + 5 * f + 2)) st f))), (5, .int (nI (st))), (4, .int (nI (z))), (0, .ref (ad 0)), (1, .int (nI (hr))), (2, .int (nI (cr))), (3, .int (nI (dr)))] → W p l e (mq_R 3 0 0 68) s m args below meth c H locs 0 0 Q (F0 m 38 ls []) := by
          intro f1
          induction f1 with
          | zero =>
            intro f hf1 H locs ls hP hD hS hl
            refine lv_iload hx hb dX12_findPlan_38 (lv_at hl 0 rfl) ?_
            refine lv_aload_n hx hb dX12_findPlan_40 rfl (lv_at hl 5 rfl) ?_
            refine va_get (D := D) (ci := 12) (v := .ref (ad 1)) (C := RX12) (T := TX12) (N := 24) hx hb hts hinX12 hown hK hP 0 rfl rfl 0 (by decide) (hts (.fieldLink RX12 9 "CornDeskModel" "now" "[I") (by decide +kernel)) (fun _ h9 => h9) rfl dX12_findPlan_41 ?_
            refine lv_iconst (v := (nI (3))) hx hb dX12_findPlan_44 (by decide) ?_
            refine ln_iald hx hb hK hP 1 0 rfl rfl (by decide) (by omega) dX12_findPlan_45 ?_
            refine ln_icmp_ge (tgt := 93) hx hb dX12_findPlan_46 (by decide) (by omega) (by omega) (fun c1 => ?_) (fun c1 => ?_)
            · have hf0 : f = a 3 := by omega
              subst hf0
              have hB1 : sumS (fun f => brv a f cr dr) st (a 3) ≤ a 3 * 49500000 := sumS_b (fun f hf => brv_b (hfd f hf) hsh hc hd)
              have hB2 : sumS (fun f => a (334 + 5 * f + 2)) st (a 3) ≤ a 3 * 9 := sumS_b (fun f hf => (hfd f hf).2.2.1.2)
              have hB3 : a 3 * 49500000 ≤ 8 * 49500000 := Nat.mul_le_mul_right _ h3
              have hB4 : a 3 * 9 ≤ 8 * 9 := Nat.mul_le_mul_right _ h3
              refine lv_iload hx hb dX12_findPlan_93 (lv_at hl 2 rfl) ?_
              refine lv_iload_n hx hb dX12_findPlan_95 rfl (lv_at hl 6 rfl) ?_
              refine ln_icmp_gt (tgt := 143) hx hb dX12_findPlan_96 (by decide) (by omega) (by omega) (fun c2 => ?_) (fun c2 => ?_)
              · refine lv_iinc (v := (nI (st + 1))) (lv' := [(5, .int (nI (st + 1))), (8, .int (nI (a 3))), (6, .int (nI (sumS (fun f => brv a f cr dr) st (a 3)))), (7, .int (nI (sumS (fun f => a (334 + 5 * f + 2)) st (a 3)))), (4, .int (nI (z))), (0, .ref (ad 0)), (1, .int (nI (hr))), (2, .int (nI (cr))), (3, .int (nI (dr)))]) hx hb dX12_findPlan_143 hl (k := 3) rfl (by rw [show (Int32.ofInt 1) = nI 1 from rfl, nI_add]) (by decide) rfl (fun ls hl => ?_)
                refine lv_goto (tgt := 16) hx hb dX12_findPlan_146 (by decide) ?_
                exact ih0 (st + 1) (x) (y) (z) (by omega) (plB_n hpl (fun h => by have h1 : sumS (fun f => a (334 + 5 * f + 2)) st (a 3) ≤ hr := h.1; have h2 : y < sumS (fun f => brv a f cr dr) st (a 3) ∨ (sumS (fun f => brv a f cr dr) st (a 3) = y ∧ sumS (fun f => a (334 + 5 * f + 2)) st (a 3) < z) := h.2; omega)) (hyb) (hzb) _ _ _ hP hD hS (lv_sub hl [0, 4, 5, 6, 7, 8] rfl)
              · refine lv_iload hx hb dX12_findPlan_99 (lv_at hl 1 rfl) ?_
                refine lv_aload_n hx hb dX12_findPlan_101 rfl (lv_at hl 5 rfl) ?_
                refine va_get (D := D) (ci := 12) (v := .int (nI (y))) (C := RX12) (T := TX12) (N := 24) hx hb hts hinX12 hown hK hP 0 rfl rfl 22 (by decide) (hts (.fieldLink RX12 184 "CornDeskModel" "bestSum" "I") (by decide +kernel)) (fun _ h9 => h9) rfl dX12_findPlan_102 ?_
                refine ln_icmp_lt (tgt := 143) hx hb dX12_findPlan_105 (by decide) (by omega) (by omega) (fun c3 => ?_) (fun c3 => ?_)
                · refine lv_iinc (v := (nI (st + 1))) (lv' := [(5, .int (nI (st + 1))), (8, .int (nI (a 3))), (6, .int (nI (sumS (fun f => brv a f cr dr) st (a 3)))), (7, .int (nI (sumS (fun f => a (334 + 5 * f + 2)) st (a 3)))), (4, .int (nI (z))), (0, .ref (ad 0)), (1, .int (nI (hr))), (2, .int (nI (cr))), (3, .int (nI (dr)))]) hx hb dX12_findPlan_143 hl (k := 3) rfl (by rw [show (Int32.ofInt 1) = nI 1 from rfl, nI_add]) (by decide) rfl (fun ls hl => ?_)
                  refine lv_goto (tgt := 16) hx hb dX12_findPlan_146 (by decide) ?_
                  exact ih0 (st + 1) (x) (y) (z) (by omega) (plB_n hpl (fun h => by have h1 : sumS (fun f => a (334 + 5 * f + 2)) st (a 3) ≤ hr := h.1; have h2 : y < sumS (fun f => brv a f cr dr) st (a 3) ∨ (sumS (fun f => brv a f cr dr) st (a 3) = y ∧ sumS (fun f => a (334 + 5 * f + 2)) st (a 3) < z) := h.2; omega)) (hyb) (hzb) _ _ _ hP hD hS (lv_sub hl [0, 4, 5, 6, 7, 8] rfl)
                · refine lv_iload hx hb dX12_findPlan_108 (lv_at hl 1 rfl) ?_
                  refine lv_aload_n hx hb dX12_findPlan_110 rfl (lv_at hl 5 rfl) ?_
                  refine va_get (D := D) (ci := 12) (v := .int (nI (y))) (C := RX12) (T := TX12) (N := 24) hx hb hts hinX12 hown hK hP 0 rfl rfl 22 (by decide) (hts (.fieldLink RX12 184 "CornDeskModel" "bestSum" "I") (by decide +kernel)) (fun _ h9 => h9) rfl dX12_findPlan_111 ?_
                  refine ln_icmp_ne (tgt := 127) hx hb dX12_findPlan_114 (by decide) (by omega) (by omega) (fun c4 => ?_) (fun c4 => ?_)
                  · refine lv_aload_n hx hb dX12_findPlan_127 rfl (lv_at hl 5 rfl) ?_
                    refine lv_iload hx hb dX12_findPlan_128 (lv_at hl 3 rfl) ?_
                    refine va_put (D := D) (ci := 12) (v := .int (nI (st))) (ty := .int) (C := RX12) (T := TX12) (N := 24) hx hb hts hinX12 tyX12 tyX12_ok nmX12 hown hK hP hD hS 0 rfl rfl 21 (by decide) (hts (.fieldLink RX12 181 "CornDeskModel" "bestSet" "I") (by decide +kernel)) (fun _ h9 => h9) rfl (by decide +kernel) rfl rfl (Nat.le_of_ble_eq_true rfl) dX12_findPlan_130 (fun H locs hP hD hS => ?_)
                    have hP : va_P D vwCl (mW ad cI cJ a kp bt sz sheets go ro car ke km fi gm st y n1 n2 n3 n4 n5 n6 n7 px py db) H := hP
                    have hD : va_D A (mW ad cI cJ a kp bt sz sheets go ro car ke km fi gm st y n1 n2 n3 n4 n5 n6 n7 px py db) := hD
                    refine lv_aload_n hx hb dX12_findPlan_133 rfl (lv_at hl 5 rfl) ?_
                    refine lv_iload hx hb dX12_findPlan_134 (lv_at hl 1 rfl) ?_
                    refine va_put (D := D) (ci := 12) (v := .int (nI (sumS (fun f => brv a f cr dr) st (a 3)))) (ty := .int) (C := RX12) (T := TX12) (N := 24) hx hb hts hinX12 tyX12 tyX12_ok nmX12 hown hK hP hD hS 0 rfl rfl 22 (by decide) (hts (.fieldLink RX12 184 "CornDeskModel" "bestSum" "I") (by decide +kernel)) (fun _ h9 => h9) rfl (by decide +kernel) rfl rfl (Nat.le_of_ble_eq_true rfl) dX12_findPlan_136 (fun H locs hP hD hS => ?_)
                    have hP : va_P D vwCl (mW ad cI cJ a kp bt sz sheets go ro car ke km fi gm st (sumS (fun f => brv a f cr dr) st (a 3)) n1 n2 n3 n4 n5 n6 n7 px py db) H := hP
                    have hD : va_D A (mW ad cI cJ a kp bt sz sheets go ro car ke km fi gm st (sumS (fun f => brv a f cr dr) st (a 3)) n1 n2 n3 n4 n5 n6 n7 px py db) := hD
                    refine lv_iload hx hb dX12_findPlan_139 (lv_at hl 2 rfl) ?_
                    refine lv_istore (lv' := [(4, .int (nI (sumS (fun f => a (334 + 5 * f + 2)) st (a 3)))), (8, .int (nI (a 3))), (6, .int (nI (sumS (fun f => brv a f cr dr) st (a 3)))), (7, .int (nI (sumS (fun f => a (334 + 5 * f + 2)) st (a 3)))), (5, .int (nI (st))), (0, .ref (ad 0)), (1, .int (nI (hr))), (2, .int (nI (cr))), (3, .int (nI (dr)))]) hx hb dX12_findPlan_141 hl (by decide) rfl (fun ls hl => ?_)
                    refine lv_iinc (v := (nI (st + 1))) (lv' := [(5, .int (nI (st + 1))), (4, .int (nI (sumS (fun f => a (334 + 5 * f + 2)) st (a 3)))), (8, .int (nI (a 3))), (6, .int (nI (sumS (fun f => brv a f cr dr) st (a 3)))), (7, .int (nI (sumS (fun f => a (334 + 5 * f + 2)) st (a 3)))), (0, .ref (ad 0)), (1, .int (nI (hr))), (2, .int (nI (cr))), (3, .int (nI (dr)))]) hx hb dX12_findPlan_143 hl (k := 4) rfl (by rw [show (Int32.ofInt 1) = nI 1 from rfl, nI_add]) (by decide) rfl (fun ls hl => ?_)
                    refine lv_goto (tgt := 16) hx hb dX12_findPlan_146 (by decide) ?_
                    exact ih0 (st + 1) (st) (sumS (fun f => brv a f cr dr) st (a 3)) (sumS (fun f => a (334 + 5 * f + 2)) st (a 3)) (by omega) (plB_y hpl (show sumS (fun f => a (334 + 5 * f + 2)) st (a 3) ≤ hr ∧ (y < sumS (fun f => brv a f cr dr) st (a 3) ∨ (sumS (fun f => brv a f cr dr) st (a 3) = y ∧ sumS (fun f => a (334 + 5 * f + 2)) st (a 3) < z)) by omega)) (by omega) (by omega) _ _ _ hP hD hS (lv_sub hl [0, 1, 5, 6, 7, 8] rfl)
                  · refine lv_iload hx hb dX12_findPlan_117 (lv_at hl 2 rfl) ?_
                    refine lv_iload hx hb dX12_findPlan_119 (lv_at hl 4 rfl) ?_
                    refine ln_icmp_lt (tgt := 127) hx hb dX12_findPlan_121 (by decide) (by omega) (by omega) (fun c5 => ?_) (fun c5 => ?_)
                    · refine lv_aload_n hx hb dX12_findPlan_127 rfl (lv_at hl 5 rfl) ?_
                      refine lv_iload hx hb dX12_findPlan_128 (lv_at hl 3 rfl) ?_
                      refine va_put (D := D) (ci := 12) (v := .int (nI (st))) (ty := .int) (C := RX12) (T := TX12) (N := 24) hx hb hts hinX12 tyX12 tyX12_ok nmX12 hown hK hP hD hS 0 rfl rfl 21 (by decide) (hts (.fieldLink RX12 181 "CornDeskModel" "bestSet" "I") (by decide +kernel)) (fun _ h9 => h9) rfl (by decide +kernel) rfl rfl (Nat.le_of_ble_eq_true rfl) dX12_findPlan_130 (fun H locs hP hD hS => ?_)
                      have hP : va_P D vwCl (mW ad cI cJ a kp bt sz sheets go ro car ke km fi gm st y n1 n2 n3 n4 n5 n6 n7 px py db) H := hP
                      have hD : va_D A (mW ad cI cJ a kp bt sz sheets go ro car ke km fi gm st y n1 n2 n3 n4 n5 n6 n7 px py db) := hD
                      refine lv_aload_n hx hb dX12_findPlan_133 rfl (lv_at hl 5 rfl) ?_
                      refine lv_iload hx hb dX12_findPlan_134 (lv_at hl 1 rfl) ?_
                      refine va_put (D := D) (ci := 12) (v := .int (nI (sumS (fun f => brv a f cr dr) st (a 3)))) (ty := .int) (C := RX12) (T := TX12) (N := 24) hx hb hts hinX12 tyX12 tyX12_ok nmX12 hown hK hP hD hS 0 rfl rfl 22 (by decide) (hts (.fieldLink RX12 184 "CornDeskModel" "bestSum" "I") (by decide +kernel)) (fun _ h9 => h9) rfl (by decide +kernel) rfl rfl (Nat.le_of_ble_eq_true rfl) dX12_findPlan_136 (fun H locs hP hD hS => ?_)
                      have hP : va_P D vwCl (mW ad cI cJ a kp bt sz sheets go ro car ke km fi gm st (sumS (fun f => brv a f cr dr) st (a 3)) n1 n2 n3 n4 n5 n6 n7 px py db) H := hP
                      have hD : va_D A (mW ad cI cJ a kp bt sz sheets go ro car ke km fi gm st (sumS (fun f => brv a f cr dr) st (a 3)) n1 n2 n3 n4 n5 n6 n7 px py db) := hD
                      refine lv_iload hx hb dX12_findPlan_139 (lv_at hl 2 rfl) ?_
                      refine lv_istore (lv' := [(4, .int (nI (sumS (fun f => a (334 + 5 * f + 2)) st (a 3)))), (8, .int (nI (a 3))), (6, .int (nI (sumS (fun f => brv a f cr dr) st (a 3)))), (7, .int (nI (sumS (fun f => a (334 + 5 * f + 2)) st (a 3)))), (5, .int (nI (st))), (0, .ref (ad 0)), (1, .int (nI (hr))), (2, .int (nI (cr))), (3, .int (nI (dr)))]) hx hb dX12_findPlan_141 hl (by decide) rfl (fun ls hl => ?_)
                      refine lv_iinc (v := (nI (st + 1))) (lv' := [(5, .int (nI (st + 1))), (4, .int (nI (sumS (fun f => a (334 + 5 * f + 2)) st (a 3)))), (8, .int (nI (a 3))), (6, .int (nI (sumS (fun f => brv a f cr dr) st (a 3)))), (7, .int (nI (sumS (fun f => a (334 + 5 * f + 2)) st (a 3)))), (0, .ref (ad 0)), (1, .int (nI (hr))), (2, .int (nI (cr))), (3, .int (nI (dr)))]) hx hb dX12_findPlan_143 hl (k := 4) rfl (by rw [show (Int32.ofInt 1) = nI 1 from rfl, nI_add]) (by decide) rfl (fun ls hl => ?_)
                      refine lv_goto (tgt := 16) hx hb dX12_findPlan_146 (by decide) ?_
                      exact ih0 (st + 1) (st) (sumS (fun f => brv a f cr dr) st (a 3)) (sumS (fun f => a (334 + 5 * f + 2)) st (a 3)) (by omega) (plB_y hpl (show sumS (fun f => a (334 + 5 * f + 2)) st (a 3) ≤ hr ∧ (y < sumS (fun f => brv a f cr dr) st (a 3) ∨ (sumS (fun f => brv a f cr dr) st (a 3) = y ∧ sumS (fun f => a (334 + 5 * f + 2)) st (a 3) < z)) by omega)) (by omega) (by omega) _ _ _ hP hD hS (lv_sub hl [0, 1, 5, 6, 7, 8] rfl)
                    · refine lv_goto (tgt := 143) hx hb dX12_findPlan_124 (by decide) ?_
                      refine lv_iinc (v := (nI (st + 1))) (lv' := [(5, .int (nI (st + 1))), (8, .int (nI (a 3))), (6, .int (nI (sumS (fun f => brv a f cr dr) st (a 3)))), (7, .int (nI (sumS (fun f => a (334 + 5 * f + 2)) st (a 3)))), (4, .int (nI (z))), (0, .ref (ad 0)), (1, .int (nI (hr))), (2, .int (nI (cr))), (3, .int (nI (dr)))]) hx hb dX12_findPlan_143 hl (k := 3) rfl (by rw [show (Int32.ofInt 1) = nI 1 from rfl, nI_add]) (by decide) rfl (fun ls hl => ?_)
                      refine lv_goto (tgt := 16) hx hb dX12_findPlan_146 (by decide) ?_
                      exact ih0 (st + 1) (x) (y) (z) (by omega) (plB_n hpl (fun h => by have h1 : sumS (fun f => a (334 + 5 * f + 2)) st (a 3) ≤ hr := h.1; have h2 : y < sumS (fun f => brv a f cr dr) st (a 3) ∨ (sumS (fun f => brv a f cr dr) st (a 3) = y ∧ sumS (fun f => a (334 + 5 * f + 2)) st (a 3) < z) := h.2; omega)) (hyb) (hzb) _ _ _ hP hD hS (lv_sub hl [0, 4, 5, 6, 7, 8] rfl)
            · exact absurd hf1 (by omega)
          | succ f1 ih1 =>
            intro f hf1 H locs ls hP hD hS hl
            refine lv_iload hx hb dX12_findPlan_38 (lv_at hl 0 rfl) ?_
            refine lv_aload_n hx hb dX12_findPlan_40 rfl (lv_at hl 5 rfl) ?_
            refine va_get (D := D) (ci := 12) (v := .ref (ad 1)) (C := RX12) (T := TX12) (N := 24) hx hb hts hinX12 hown hK hP 0 rfl rfl 0 (by decide) (hts (.fieldLink RX12 9 "CornDeskModel" "now" "[I") (by decide +kernel)) (fun _ h9 => h9) rfl dX12_findPlan_41 ?_
            refine lv_iconst (v := (nI (3))) hx hb dX12_findPlan_44 (by decide) ?_
            refine ln_iald hx hb hK hP 1 0 rfl rfl (by decide) (by omega) dX12_findPlan_45 ?_
            refine ln_icmp_ge (tgt := 93) hx hb dX12_findPlan_46 (by decide) (by omega) (by omega) (fun c1 => ?_) (fun c1 => ?_)
            · exact absurd hf1 (by omega)
            · have hfN : f < a 3 := by omega
              refine lv_iload hx hb dX12_findPlan_49 (lv_at hl 3 rfl) ?_
              refine lv_iload hx hb dX12_findPlan_51 (lv_at hl 0 rfl) ?_
              refine lv_ishr hx hb dX12_findPlan_53 ?_
              refine ln_eqi (y := (nI (st / 2 ^ f))) (pk_shrN (by omega) _ f (sl31 _ (by omega))) ?_
              refine lv_iconst (v := (nI (1))) hx hb dX12_findPlan_54 (by decide) ?_
              refine lv_iand hx hb dX12_findPlan_55 ?_
              refine ln_eqi (y := (nI (st / 2 ^ f % 2 ^ 1))) (pk_andN (Nat.lt_of_le_of_lt (Nat.div_le_self _ _) (by omega)) 1 (by decide)) ?_
              have hm2 : st / 2 ^ f % 2 ^ 1 < 2 := Nat.mod_lt _ (by decide)
              refine ln_if_ne (tgt := 62) hx hb dX12_findPlan_56 (by decide) (by omega) (fun c6 => ?_) (fun c6 => ?_)
              · have hB1 : sumS (fun f => brv a f cr dr) st f ≤ f * 49500000 := sumS_b (fun q hq => brv_b (hfd q (by omega)) hsh hc hd)
                refine lv_iload hx hb dX12_findPlan_62 (lv_at hl 1 rfl) ?_
                refine lv_aload_n hx hb dX12_findPlan_64 rfl (lv_at hl 5 rfl) ?_
                refine lv_iload hx hb dX12_findPlan_65 (lv_at hl 0 rfl) ?_
                refine lv_iload_n hx hb dX12_findPlan_67 rfl (lv_at hl 7 rfl) ?_
                refine lv_iload_n hx hb dX12_findPlan_68 rfl (lv_at hl 8 rfl) ?_
                refine mq_Vi (As := [.int (nI (f)), .int (nI (cr)), .int (nI (dr))]) (rest := [.int (nI (sumS (fun f => brv a f cr dr) st f))]) (ci := 12) (k0 := 0) ⟨hx, hb, hml, hown, hts⟩ (cM_brought l D ad cI cJ a kp bt sz sheets go ro car ke km fi gm x y n1 n2 n3 n4 n5 n6 n7 px py db (f) (cr) (dr) (by omega) (hfd f hfN) hsh hc hd) (cwV 3 hts gX12_findPlan_X12_brought rfl rfl rfl (by decide +kernel) ⟨Nat.le_of_ble_eq_true rfl, Nat.le_of_ble_eq_true rfl⟩) rfl rfl hP hK hD hS hA rfl hl.1 rfl (Nat.le_of_ble_eq_true rfl) dX12_findPlan_69 ⟨Nat.le_of_ble_eq_true rfl, Nat.le_of_ble_eq_true rfl⟩ (fun r w1 H locs hq hP hD hS => ?_)
                obtain ⟨rfl, rfl⟩ := hq
                refine ln_iadd hx hb dX12_findPlan_72 ?_
                refine lv_istore (lv' := [(6, .int (nI (sumS (fun f => brv a f cr dr) st f + brv a (f) (cr) (dr)))), (8, .int (nI (f))), (7, .int (nI (sumS (fun f => a (334 + 5 * f + 2)) st f))), (5, .int (nI (st))), (4, .int (nI (z))), (0, .ref (ad 0)), (1, .int (nI (hr))), (2, .int (nI (cr))), (3, .int (nI (dr)))]) hx hb dX12_findPlan_73 hl (by decide) rfl (fun ls hl => ?_)
                refine lv_iload hx hb dX12_findPlan_75 (lv_at hl 2 rfl) ?_
                refine lv_aload_n hx hb dX12_findPlan_77 rfl (lv_at hl 5 rfl) ?_
                refine lv_iload hx hb dX12_findPlan_78 (lv_at hl 1 rfl) ?_
                refine lv_iconst (v := (nI (2))) hx hb dX12_findPlan_80 (by decide) ?_
                refine mq_Vi (As := [.int (nI (f)), .int (nI (2))]) (rest := [.int (nI (sumS (fun f => a (334 + 5 * f + 2)) st f))]) (ci := 12) (k0 := 0) ⟨hx, hb, hml, hown, hts⟩ (cM_ofField l D ad cI cJ a kp bt sz sheets go ro car ke km fi gm x y n1 n2 n3 n4 n5 n6 n7 px py db (f) (2) (by omega)) (cwV 2 hts gX12_findPlan_X12_ofField rfl rfl rfl (by decide +kernel) ⟨Nat.le_of_ble_eq_true rfl, Nat.le_of_ble_eq_true rfl⟩) rfl rfl hP hK hD hS hA rfl hl.1 rfl (Nat.le_of_ble_eq_true rfl) dX12_findPlan_81 ⟨Nat.le_of_ble_eq_true rfl, Nat.le_of_ble_eq_true rfl⟩ (fun r w1 H locs hq hP hD hS => ?_)
                obtain ⟨rfl, rfl⟩ := hq
                refine ln_iadd hx hb dX12_findPlan_84 ?_
                refine lv_istore (lv' := [(7, .int (nI (sumS (fun f => a (334 + 5 * f + 2)) st f + (a (334 + 5 * (f) + (2)))))), (6, .int (nI (sumS (fun f => brv a f cr dr) st f + brv a (f) (cr) (dr)))), (8, .int (nI (f))), (5, .int (nI (st))), (4, .int (nI (z))), (0, .ref (ad 0)), (1, .int (nI (hr))), (2, .int (nI (cr))), (3, .int (nI (dr)))]) hx hb dX12_findPlan_85 hl (by decide) rfl (fun ls hl => ?_)
                refine lv_iinc (v := (nI (f + 1))) (lv' := [(8, .int (nI (f + 1))), (7, .int (nI (sumS (fun f => a (334 + 5 * f + 2)) st f + (a (334 + 5 * (f) + (2)))))), (6, .int (nI (sumS (fun f => brv a f cr dr) st f + brv a (f) (cr) (dr)))), (5, .int (nI (st))), (4, .int (nI (z))), (0, .ref (ad 0)), (1, .int (nI (hr))), (2, .int (nI (cr))), (3, .int (nI (dr)))]) hx hb dX12_findPlan_87 hl (k := 2) rfl (by rw [show (Int32.ofInt 1) = nI 1 from rfl, nI_add]) (by decide) rfl (fun ls hl => ?_)
                refine lv_goto (tgt := 38) hx hb dX12_findPlan_90 (by decide) ?_
                rw [← sumS_y (v := fun f => brv a f cr dr) c6, ← sumS_y (v := fun f => a (334 + 5 * f + 2)) c6] at hl
                exact ih1 (f + 1) (by omega) _ _ _ hP hD hS (lv_sub hl [0, 2, 1, 3, 4, 5, 6, 7, 8] rfl)
              · refine lv_goto (tgt := 87) hx hb dX12_findPlan_59 (by decide) ?_
                refine lv_iinc (v := (nI (f + 1))) (lv' := [(8, .int (nI (f + 1))), (6, .int (nI (sumS (fun f => brv a f cr dr) st f))), (7, .int (nI (sumS (fun f => a (334 + 5 * f + 2)) st f))), (5, .int (nI (st))), (4, .int (nI (z))), (0, .ref (ad 0)), (1, .int (nI (hr))), (2, .int (nI (cr))), (3, .int (nI (dr)))]) hx hb dX12_findPlan_87 hl (k := 0) rfl (by rw [show (Int32.ofInt 1) = nI 1 from rfl, nI_add]) (by decide) rfl (fun ls hl => ?_)
                refine lv_goto (tgt := 38) hx hb dX12_findPlan_90 (by decide) ?_
                rw [← sumS_n (v := fun f => brv a f cr dr) c6, ← sumS_n (v := fun f => a (334 + 5 * f + 2)) c6] at hl
                exact ih1 (f + 1) (by omega) _ _ _ hP hD hS hl
        exact l1 (a 3) (0) (by omega) _ _ _ hP hD hS (lv_sub hl [0, 2, 1, 3, 4, 5, 6, 7, 8] rfl)
  exact l0 (2 ^ a 3) (0) (0) (0) (0) (by omega) (rfl) (by decide) (by decide) _ _ _ hP hD hS hl
set_option maxHeartbeats 4000000 in
set_option maxRecDepth 100000 in
theorem cM_plan (l : Launch) (D : va_G) (ad : Nat → Nat) (cI cJ : ClassId) (a kp bt sz : Nat → Nat) (sheets : Nat → Int32) (go ro : Nat → Nat) (car : Nat → Int32) (ke km fi gm bs bu : Nat) (n1 n2 n3 n4 n5 n6 n7 : Int64) (px py db : Nat → Int64) (x : Int32) (y : Int32) (z : Int32) (h3 : a 3 ≤ 8) (hfd : ∀ i, i < a 3 → fdOk a i) (hsh : shOk a) : mq_l l D (mT cI cJ) yX12_plan wsX12_plan 4 0 0 96 [.ref (ad 0), .int (x), .int (y), .int (z)] (mW ad cI cJ a kp bt sz sheets go ro car ke km fi gm bs bu n1 n2 n3 n4 n5 n6 n7 px py db) (fun r w1 => (¬ (rg 0 99 x ∧ rg 0 3 y ∧ rg 0 3 z) ∧ r = -1000000001 ∧ w1 = mW ad cI cJ a kp bt sz sheets go ro car ke km (fi + 1) gm bs bu n1 n2 n3 n4 n5 n6 n7 px py db) ∨ (∃ hr cr dr : Nat, (x = nI hr ∧ y = nI cr ∧ z = nI dr ∧ hr ≤ 99 ∧ cr ≤ 3 ∧ dr ≤ 3) ∧ r = (nI ((plB (fun st => sumS (fun f => brv a f cr dr) st (a 3)) (fun st => sumS (fun f => a (334 + 5 * f + 2)) st (a 3)) hr (2 ^ a 3)).1)).toInt64 ∧ ∃ b1 b2 : Nat, w1 = mW ad cI cJ a kp bt sz sheets go ro car ke km fi gm b1 b2 n1 n2 n3 n4 n5 n6 n7 px py db)) := by
  refine mq_l_of (cc := cX12_plan) (maxL := 4) (by decide) rfl (Nat.le_of_ble_eq_true rfl) ?_
  intro p e s m args below meth c A Q ls hx hb hts hown hml hnm hA hP hK hD hS hl hret
  have hown : s.vm.findClass RX12 = some m.cls := hown
  have hinX12 : ∀ w ∈ u_ws RX12 TX12 24, w ∈ wsX12_plan := by decide +kernel
  have hl : lv_has ls 4 [(0, .ref (ad 0)), (1, .int (x)), (2, .int (y)), (3, .int (z))] := hl
  refine lv_iload_n hx hb dX12_plan_0 rfl (lv_at hl 1 rfl) ?_
  refine lv_iconst (v := (nI (0))) hx hb dX12_plan_1 (by decide) ?_
  refine lv_bipush (v := (nI (99))) hx hb dX12_plan_2 (by decide) ?_
  refine mq_Si (As := [.int (x), .int (nI (0)), .int (nI (99))]) (rest := []) ⟨hx, hb, hml, hown, hts⟩ (cM_in l D _ (x) (nI (0)) (nI (99)) ) (cwS 3 hts gX12_plan_X12_in rfl rfl rfl (by decide +kernel) ⟨Nat.le_of_ble_eq_true rfl, Nat.le_of_ble_eq_true rfl⟩) hP hK hS hA rfl hl.1 rfl (Nat.le_of_ble_eq_true rfl) dX12_plan_4 ⟨Nat.le_of_ble_eq_true rfl, Nat.le_of_ble_eq_true rfl⟩ (fun r w1 H locs hq hP hS => ?_)
  subst hq
  refine lb_if_eq (tgt := 18) hx hb dX12_plan_7 (by decide) (fun c1 => ?_) (fun c1 => ?_)
  · refine lv_aload_n hx hb dX12_plan_18 rfl (lv_at hl 0 rfl) ?_
    refine lv_ldc2 (v := (-1000000001)) hx hb hown (hts (.constantLong RX12 76 (-1000000001)) (by decide +kernel)) dX12_plan_19 ?_
    refine mq_Vl (As := [.long ((-1000000001))]) (rest := []) (ci := 12) (k0 := 0) ⟨hx, hb, hml, hown, hts⟩ (cM_finds l D ad cI cJ a kp bt sz sheets go ro car ke km fi gm bs bu n1 n2 n3 n4 n5 n6 n7 px py db ((-1000000001)) ) (cwV 1 hts gX12_plan_X12_finds rfl rfl rfl (by decide +kernel) ⟨Nat.le_of_ble_eq_true rfl, Nat.le_of_ble_eq_true rfl⟩) rfl rfl hP hK hD hS hA rfl hl.1 rfl (Nat.le_of_ble_eq_true rfl) dX12_plan_22 ⟨Nat.le_of_ble_eq_true rfl, Nat.le_of_ble_eq_true rfl⟩ (fun r w1 H locs hq hP hD hS => ?_)
    obtain ⟨rfl, rfl⟩ := hq
    exact hret _ _ _ _ _ _ (Or.inl ⟨fun h => c1 h.1, rfl, rfl⟩) hP hD hS dX12_plan_25
  · refine lv_iload_n hx hb dX12_plan_10 rfl (lv_at hl 2 rfl) ?_
    refine lv_iload_n hx hb dX12_plan_11 rfl (lv_at hl 3 rfl) ?_
    refine mq_Si (As := [.int (y), .int (z)]) (rest := []) ⟨hx, hb, hml, hown, hts⟩ (cM_isWeather l D _ (y) (z) ) (cwS 2 hts gX12_plan_X12_isWeather rfl rfl rfl (by decide +kernel) ⟨Nat.le_of_ble_eq_true rfl, Nat.le_of_ble_eq_true rfl⟩) hP hK hS hA rfl hl.1 rfl (Nat.le_of_ble_eq_true rfl) dX12_plan_12 ⟨Nat.le_of_ble_eq_true rfl, Nat.le_of_ble_eq_true rfl⟩ (fun r w1 H locs hq hP hS => ?_)
    subst hq
    refine lb_if_ne (tgt := 26) hx hb dX12_plan_15 (by decide) (fun c2 => ?_) (fun c2 => ?_)
    · obtain ⟨hr, -, hhr, rfl⟩ := rg_of c1 (by decide) (by decide)
      obtain ⟨cr, -, hcr, rfl⟩ := rg_of c2.1 (by decide) (by decide)
      obtain ⟨dr, -, hdr, rfl⟩ := rg_of c2.2 (by decide) (by decide)
      refine lv_aload_n hx hb dX12_plan_26 rfl (lv_at hl 0 rfl) ?_
      refine lv_iload_n hx hb dX12_plan_27 rfl (lv_at hl 1 rfl) ?_
      refine lv_iload_n hx hb dX12_plan_28 rfl (lv_at hl 2 rfl) ?_
      refine lv_iload_n hx hb dX12_plan_29 rfl (lv_at hl 3 rfl) ?_
      refine mq_Vv (As := [.int (nI (hr)), .int (nI (cr)), .int (nI (dr))]) (rest := []) (ci := 12) (k0 := 0) ⟨hx, hb, hml, hown, hts⟩ (cM_findPlan l D ad cI cJ a kp bt sz sheets go ro car ke km fi gm bs bu n1 n2 n3 n4 n5 n6 n7 px py db (hr) (cr) (dr) h3 hfd hsh hhr hcr hdr) (cwV 3 hts gX12_plan_X12_findPlan rfl rfl rfl (by decide +kernel) ⟨Nat.le_of_ble_eq_true rfl, Nat.le_of_ble_eq_true rfl⟩) rfl rfl hP hK hD hS hA rfl hl.1 rfl (Nat.le_of_ble_eq_true rfl) dX12_plan_30 ⟨Nat.le_of_ble_eq_true rfl, Nat.le_of_ble_eq_true rfl⟩ (fun w1 H locs hq hP hD hS => ?_)
      subst hq
      refine lv_aload_n hx hb dX12_plan_33 rfl (lv_at hl 0 rfl) ?_
      refine va_get (D := D) (ci := 12) (v := .int (nI ((plB (fun st => sumS (fun f => brv a f (cr) (dr)) st (a 3)) (fun st => sumS (fun f => a (334 + 5 * f + 2)) st (a 3)) (hr) (2 ^ a 3)).1))) (C := RX12) (T := TX12) (N := 24) hx hb hts hinX12 hown hK hP 0 rfl rfl 21 (by decide) (hts (.fieldLink RX12 181 "CornDeskModel" "bestSet" "I") (by decide +kernel)) (fun _ h9 => h9) rfl dX12_plan_34 ?_
      refine lv_i2l hx hb dX12_plan_37 rfl ?_
      exact hret _ _ _ _ _ _ (Or.inr ⟨hr, cr, dr, ⟨rfl, rfl, rfl, hhr, hcr, hdr⟩, rfl, _, _, rfl⟩) hP hD hS dX12_plan_38
    · refine lv_aload_n hx hb dX12_plan_18 rfl (lv_at hl 0 rfl) ?_
      refine lv_ldc2 (v := (-1000000001)) hx hb hown (hts (.constantLong RX12 76 (-1000000001)) (by decide +kernel)) dX12_plan_19 ?_
      refine mq_Vl (As := [.long ((-1000000001))]) (rest := []) (ci := 12) (k0 := 0) ⟨hx, hb, hml, hown, hts⟩ (cM_finds l D ad cI cJ a kp bt sz sheets go ro car ke km fi gm bs bu n1 n2 n3 n4 n5 n6 n7 px py db ((-1000000001)) ) (cwV 1 hts gX12_plan_X12_finds rfl rfl rfl (by decide +kernel) ⟨Nat.le_of_ble_eq_true rfl, Nat.le_of_ble_eq_true rfl⟩) rfl rfl hP hK hD hS hA rfl hl.1 rfl (Nat.le_of_ble_eq_true rfl) dX12_plan_22 ⟨Nat.le_of_ble_eq_true rfl, Nat.le_of_ble_eq_true rfl⟩ (fun r w1 H locs hq hP hD hS => ?_)
      obtain ⟨rfl, rfl⟩ := hq
      exact hret _ _ _ _ _ _ (Or.inl ⟨fun h => c2 h.2, rfl, rfl⟩) hP hD hS dX12_plan_25
set_option maxHeartbeats 4000000 in
set_option maxRecDepth 100000 in
theorem cM_brings (l : Launch) (D : va_G) (ad : Nat → Nat) (cI cJ : ClassId) (a kp bt sz : Nat → Nat) (sheets : Nat → Int32) (go ro : Nat → Nat) (car : Nat → Int32) (ke km fi gm bs bu : Nat) (n1 n2 n3 n4 n5 n6 n7 : Int64) (px py db : Nat → Int64) (x : Int32) (y : Int32) (z : Int32) (h3 : a 3 ≤ 8) (hfd : ∀ i, i < a 3 → fdOk a i) (hsh : shOk a) : mq_l l D (mT cI cJ) yX12_brings wsX12_brings 4 0 0 96 [.ref (ad 0), .int (x), .int (y), .int (z)] (mW ad cI cJ a kp bt sz sheets go ro car ke km fi gm bs bu n1 n2 n3 n4 n5 n6 n7 px py db) (fun r w1 => (¬ (rg 0 99 x ∧ rg 0 3 y ∧ rg 0 3 z) ∧ r = -1000000001 ∧ w1 = mW ad cI cJ a kp bt sz sheets go ro car ke km (fi + 1) gm bs bu n1 n2 n3 n4 n5 n6 n7 px py db) ∨ (∃ hr cr dr : Nat, (x = nI hr ∧ y = nI cr ∧ z = nI dr ∧ hr ≤ 99 ∧ cr ≤ 3 ∧ dr ≤ 3) ∧ r = (nI ((plB (fun st => sumS (fun f => brv a f cr dr) st (a 3)) (fun st => sumS (fun f => a (334 + 5 * f + 2)) st (a 3)) hr (2 ^ a 3)).2.1)).toInt64 ∧ ∃ b1 b2 : Nat, w1 = mW ad cI cJ a kp bt sz sheets go ro car ke km fi gm b1 b2 n1 n2 n3 n4 n5 n6 n7 px py db)) := by
  refine mq_l_of (cc := cX12_brings) (maxL := 4) (by decide) rfl (Nat.le_of_ble_eq_true rfl) ?_
  intro p e s m args below meth c A Q ls hx hb hts hown hml hnm hA hP hK hD hS hl hret
  have hown : s.vm.findClass RX12 = some m.cls := hown
  have hinX12 : ∀ w ∈ u_ws RX12 TX12 24, w ∈ wsX12_brings := by decide +kernel
  have hl : lv_has ls 4 [(0, .ref (ad 0)), (1, .int (x)), (2, .int (y)), (3, .int (z))] := hl
  refine lv_iload_n hx hb dX12_brings_0 rfl (lv_at hl 1 rfl) ?_
  refine lv_iconst (v := (nI (0))) hx hb dX12_brings_1 (by decide) ?_
  refine lv_bipush (v := (nI (99))) hx hb dX12_brings_2 (by decide) ?_
  refine mq_Si (As := [.int (x), .int (nI (0)), .int (nI (99))]) (rest := []) ⟨hx, hb, hml, hown, hts⟩ (cM_in l D _ (x) (nI (0)) (nI (99)) ) (cwS 3 hts gX12_brings_X12_in rfl rfl rfl (by decide +kernel) ⟨Nat.le_of_ble_eq_true rfl, Nat.le_of_ble_eq_true rfl⟩) hP hK hS hA rfl hl.1 rfl (Nat.le_of_ble_eq_true rfl) dX12_brings_4 ⟨Nat.le_of_ble_eq_true rfl, Nat.le_of_ble_eq_true rfl⟩ (fun r w1 H locs hq hP hS => ?_)
  subst hq
  refine lb_if_eq (tgt := 18) hx hb dX12_brings_7 (by decide) (fun c1 => ?_) (fun c1 => ?_)
  · refine lv_aload_n hx hb dX12_brings_18 rfl (lv_at hl 0 rfl) ?_
    refine lv_ldc2 (v := (-1000000001)) hx hb hown (hts (.constantLong RX12 76 (-1000000001)) (by decide +kernel)) dX12_brings_19 ?_
    refine mq_Vl (As := [.long ((-1000000001))]) (rest := []) (ci := 12) (k0 := 0) ⟨hx, hb, hml, hown, hts⟩ (cM_finds l D ad cI cJ a kp bt sz sheets go ro car ke km fi gm bs bu n1 n2 n3 n4 n5 n6 n7 px py db ((-1000000001)) ) (cwV 1 hts gX12_brings_X12_finds rfl rfl rfl (by decide +kernel) ⟨Nat.le_of_ble_eq_true rfl, Nat.le_of_ble_eq_true rfl⟩) rfl rfl hP hK hD hS hA rfl hl.1 rfl (Nat.le_of_ble_eq_true rfl) dX12_brings_22 ⟨Nat.le_of_ble_eq_true rfl, Nat.le_of_ble_eq_true rfl⟩ (fun r w1 H locs hq hP hD hS => ?_)
    obtain ⟨rfl, rfl⟩ := hq
    exact hret _ _ _ _ _ _ (Or.inl ⟨fun h => c1 h.1, rfl, rfl⟩) hP hD hS dX12_brings_25
  · refine lv_iload_n hx hb dX12_brings_10 rfl (lv_at hl 2 rfl) ?_
    refine lv_iload_n hx hb dX12_brings_11 rfl (lv_at hl 3 rfl) ?_
    refine mq_Si (As := [.int (y), .int (z)]) (rest := []) ⟨hx, hb, hml, hown, hts⟩ (cM_isWeather l D _ (y) (z) ) (cwS 2 hts gX12_brings_X12_isWeather rfl rfl rfl (by decide +kernel) ⟨Nat.le_of_ble_eq_true rfl, Nat.le_of_ble_eq_true rfl⟩) hP hK hS hA rfl hl.1 rfl (Nat.le_of_ble_eq_true rfl) dX12_brings_12 ⟨Nat.le_of_ble_eq_true rfl, Nat.le_of_ble_eq_true rfl⟩ (fun r w1 H locs hq hP hS => ?_)
    subst hq
    refine lb_if_ne (tgt := 26) hx hb dX12_brings_15 (by decide) (fun c2 => ?_) (fun c2 => ?_)
    · obtain ⟨hr, -, hhr, rfl⟩ := rg_of c1 (by decide) (by decide)
      obtain ⟨cr, -, hcr, rfl⟩ := rg_of c2.1 (by decide) (by decide)
      obtain ⟨dr, -, hdr, rfl⟩ := rg_of c2.2 (by decide) (by decide)
      refine lv_aload_n hx hb dX12_brings_26 rfl (lv_at hl 0 rfl) ?_
      refine lv_iload_n hx hb dX12_brings_27 rfl (lv_at hl 1 rfl) ?_
      refine lv_iload_n hx hb dX12_brings_28 rfl (lv_at hl 2 rfl) ?_
      refine lv_iload_n hx hb dX12_brings_29 rfl (lv_at hl 3 rfl) ?_
      refine mq_Vv (As := [.int (nI (hr)), .int (nI (cr)), .int (nI (dr))]) (rest := []) (ci := 12) (k0 := 0) ⟨hx, hb, hml, hown, hts⟩ (cM_findPlan l D ad cI cJ a kp bt sz sheets go ro car ke km fi gm bs bu n1 n2 n3 n4 n5 n6 n7 px py db (hr) (cr) (dr) h3 hfd hsh hhr hcr hdr) (cwV 3 hts gX12_brings_X12_findPlan rfl rfl rfl (by decide +kernel) ⟨Nat.le_of_ble_eq_true rfl, Nat.le_of_ble_eq_true rfl⟩) rfl rfl hP hK hD hS hA rfl hl.1 rfl (Nat.le_of_ble_eq_true rfl) dX12_brings_30 ⟨Nat.le_of_ble_eq_true rfl, Nat.le_of_ble_eq_true rfl⟩ (fun w1 H locs hq hP hD hS => ?_)
      subst hq
      refine lv_aload_n hx hb dX12_brings_33 rfl (lv_at hl 0 rfl) ?_
      refine va_get (D := D) (ci := 12) (v := .int (nI ((plB (fun st => sumS (fun f => brv a f (cr) (dr)) st (a 3)) (fun st => sumS (fun f => a (334 + 5 * f + 2)) st (a 3)) (hr) (2 ^ a 3)).2.1))) (C := RX12) (T := TX12) (N := 24) hx hb hts hinX12 hown hK hP 0 rfl rfl 22 (by decide) (hts (.fieldLink RX12 184 "CornDeskModel" "bestSum" "I") (by decide +kernel)) (fun _ h9 => h9) rfl dX12_brings_34 ?_
      refine lv_i2l hx hb dX12_brings_37 rfl ?_
      exact hret _ _ _ _ _ _ (Or.inr ⟨hr, cr, dr, ⟨rfl, rfl, rfl, hhr, hcr, hdr⟩, rfl, _, _, rfl⟩) hP hD hS dX12_brings_38
    · refine lv_aload_n hx hb dX12_brings_18 rfl (lv_at hl 0 rfl) ?_
      refine lv_ldc2 (v := (-1000000001)) hx hb hown (hts (.constantLong RX12 76 (-1000000001)) (by decide +kernel)) dX12_brings_19 ?_
      refine mq_Vl (As := [.long ((-1000000001))]) (rest := []) (ci := 12) (k0 := 0) ⟨hx, hb, hml, hown, hts⟩ (cM_finds l D ad cI cJ a kp bt sz sheets go ro car ke km fi gm bs bu n1 n2 n3 n4 n5 n6 n7 px py db ((-1000000001)) ) (cwV 1 hts gX12_brings_X12_finds rfl rfl rfl (by decide +kernel) ⟨Nat.le_of_ble_eq_true rfl, Nat.le_of_ble_eq_true rfl⟩) rfl rfl hP hK hD hS hA rfl hl.1 rfl (Nat.le_of_ble_eq_true rfl) dX12_brings_22 ⟨Nat.le_of_ble_eq_true rfl, Nat.le_of_ble_eq_true rfl⟩ (fun r w1 H locs hq hP hD hS => ?_)
      obtain ⟨rfl, rfl⟩ := hq
      exact hret _ _ _ _ _ _ (Or.inl ⟨fun h => c2 h.2, rfl, rfl⟩) hP hD hS dX12_brings_25
