/-! ===== FIELDS ===== -/
def snB (a : Nat → Nat) (f : Nat) : Nat → Bool
  | 0 => false
  | k + 1 => snB a f k || decide (a (374 + 12 * f + 3 * k + 2) = 1)
abbrev sn (a : Nat → Nat) (f : Nat) : Prop := snB a f (a (334 + 5 * f + 4)) = true
theorem snB_n {a : Nat → Nat} {f k : Nat} (h : snB a f k = false) (h2 : a (374 + 12 * f + 3 * k + 2) ≠ 1) : snB a f (k + 1) = false := by
  rw [snB, h, decide_eq_false h2]
  rfl
theorem snB_y {a : Nat → Nat} {f k : Nat} (h2 : a (374 + 12 * f + 3 * k + 2) = 1) : ∀ m, snB a f (k + 1 + m) = true
  | 0 => by
    rw [Nat.add_zero, snB, decide_eq_true h2, Bool.or_true]
  | m + 1 => by
    rw [← Nat.add_assoc, snB, snB_y h2 m, Bool.true_or]
abbrev shC (a : Nat → Nat) (f cr dr : Nat) : Nat := 470 + 2 * (16 * a (334 + 5 * f) + 4 * cr + dr)
abbrev shL (a : Nat → Nat) (f k : Nat) : Nat := shC a f (a (374 + 12 * f + 3 * k)) (a (374 + 12 * f + 3 * k + 1))
/-- a FIELD's numbers, and SHOWING's, lie within -/
def fdOk (a : Nat → Nat) (f : Nat) : Prop := a (334 + 5 * f) ≤ 3 ∧ (1 ≤ a (334 + 5 * f + 1) ∧ a (334 + 5 * f + 1) ≤ 99) ∧ (1 ≤ a (334 + 5 * f + 2) ∧ a (334 + 5 * f + 2) ≤ 9) ∧ a (334 + 5 * f + 3) ≤ 1 ∧ a (334 + 5 * f + 4) ≤ 4 ∧ ∀ k, k < a (334 + 5 * f + 4) → a (374 + 12 * f + 3 * k) ≤ 3 ∧ a (374 + 12 * f + 3 * k + 1) ≤ 3 ∧ a (374 + 12 * f + 3 * k + 2) ≤ 1
def shOk (a : Nat → Nat) : Prop := ∀ so cr dr, so ≤ 3 → cr ≤ 3 → dr ≤ 3 → 1 ≤ a (470 + 2 * (16 * so + 4 * cr + dr)) ∧ a (470 + 2 * (16 * so + 4 * cr + dr)) < a (470 + 2 * (16 * so + 4 * cr + dr) + 1) ∧ a (470 + 2 * (16 * so + 4 * cr + dr) + 1) ≤ 5000
def blU (a : Nat → Nat) (f : Nat) : Nat → Nat
  | 0 => a (334 + 5 * f + 1)
  | k + 1 => blU a f k * (a (shL a f k + 1) - a (shL a f k))
def blN (a : Nat → Nat) (f : Nat) : Nat → Nat
  | 0 => 100 - a (334 + 5 * f + 1)
  | k + 1 => blN a f k * a (shL a f k + 1)
theorem blU_s (a : Nat → Nat) (f k : Nat) : blU a f (k + 1) = blU a f k * (a (shL a f k + 1) - a (shL a f k)) := rfl
theorem blN_s (a : Nat → Nat) (f k : Nat) : blN a f (k + 1) = blN a f k * a (shL a f k + 1) := rfl
theorem shL_ok {a : Nat → Nat} {f k : Nat} (h : fdOk a f) (hs : shOk a) (hk : k < a (334 + 5 * f + 4)) : 1 ≤ a (shL a f k) ∧ a (shL a f k) < a (shL a f k + 1) ∧ a (shL a f k + 1) ≤ 5000 := by
  obtain ⟨h1, -, -, -, -, h2⟩ := h
  obtain ⟨h3, h4, -⟩ := h2 k hk
  exact hs _ _ _ h1 h3 h4
theorem bl_b {a : Nat → Nat} {f : Nat} (h : fdOk a f) (hs : shOk a) : ∀ k, k ≤ a (334 + 5 * f + 4) → blU a f k ≤ 100 * 5000 ^ k ∧ blN a f k ≤ 100 * 5000 ^ k ∧ 0 < blN a f k
  | 0, _ => by
    obtain ⟨-, h1, -⟩ := h
    simp only [blU, blN]
    omega
  | k + 1, hk => by
    obtain ⟨h1, h2, h3⟩ := bl_b h hs k (by omega)
    obtain ⟨h4, h5, h6⟩ := shL_ok h hs (k := k) (by omega)
    rw [blU_s, blN_s, Nat.pow_succ, ← Nat.mul_assoc]
    exact ⟨Nat.mul_le_mul h1 (by omega), Nat.mul_le_mul h2 h6, Nat.mul_pos h3 (by omega)⟩
theorem bl_e {a : Nat → Nat} {f : Nat} (h : fdOk a f) (hs : shOk a) : blU a f (a (334 + 5 * f + 4)) ≤ 62500000000000000 ∧ blN a f (a (334 + 5 * f + 4)) ≤ 62500000000000000 ∧ 0 < blN a f (a (334 + 5 * f + 4)) := by
  obtain ⟨h1, h2, h3⟩ := bl_b h hs _ (Nat.le_refl _)
  have h4 : 5000 ^ a (334 + 5 * f + 4) ≤ 5000 ^ 4 := Nat.pow_le_pow_right (by decide) h.2.2.2.2.1
  have h5 : 100 * 5000 ^ a (334 + 5 * f + 4) ≤ 100 * 5000 ^ 4 := Nat.mul_le_mul_left 100 h4
  exact ⟨Nat.le_trans h1 (Nat.le_trans h5 (by decide)), Nat.le_trans h2 (Nat.le_trans h5 (by decide)), h3⟩
def brv (a : Nat → Nat) (f cr dr : Nat) : Nat := if a (334 + 5 * f + 3) = 1 ∨ sn a f then 0 else 100 * a (334 + 5 * f + 1) * a (shC a f cr dr) / a (shC a f cr dr + 1)
theorem brv_0 {a : Nat → Nat} {f cr dr : Nat} (h : a (334 + 5 * f + 3) = 1 ∨ sn a f) : brv a f cr dr = 0 := if_pos h
theorem brv_1 {a : Nat → Nat} {f cr dr : Nat} (h : ¬ (a (334 + 5 * f + 3) = 1 ∨ sn a f)) : brv a f cr dr = 100 * a (334 + 5 * f + 1) * a (shC a f cr dr) / a (shC a f cr dr + 1) := if_neg h
theorem mul3_b {x y : Nat} (hx : x ≤ 99) (hy : y ≤ 5000) : 100 * x * y ≤ 49500000 := Nat.le_trans (Nat.mul_le_mul (Nat.mul_le_mul_left 100 hx) hy) (by decide)
theorem brv_b {a : Nat → Nat} {f cr dr : Nat} (h : fdOk a f) (hs : shOk a) (hc : cr ≤ 3) (hd : dr ≤ 3) : brv a f cr dr ≤ 49500000 := by
  rcases Classical.em (a (334 + 5 * f + 3) = 1 ∨ sn a f) with q | q
  · rw [brv_0 q]; omega
  · rw [brv_1 q]
    obtain ⟨h1, h2, h3⟩ := hs _ _ _ h.1 hc hd
    exact Nat.le_trans (Nat.div_le_self _ _) (mul3_b h.2.1.2 (by omega))
def dgA (a : Nat → Nat) (f : Nat) : Nat → Nat → Nat
  | 0 => upN a (334 + 5 * f + 3) 1
  | k + 1 => upN (upN (dgA a f k) (shL a f k) (dgA a f k (shL a f k) + a (374 + 12 * f + 3 * k + 2))) (shL a f k + 1) (dgA a f k (shL a f k + 1) + 1)
theorem dgA_s (a : Nat → Nat) (f k : Nat) : dgA a f (k + 1) = upN (upN (dgA a f k) (shL a f k) (dgA a f k (shL a f k) + a (374 + 12 * f + 3 * k + 2))) (shL a f k + 1) (dgA a f k (shL a f k + 1) + 1) := rfl
theorem dgA_lo {a : Nat → Nat} {f j : Nat} (hj : j < 470) (hn : j ≠ 334 + 5 * f + 3) : ∀ k, dgA a f k j = a j
  | 0 => upN_n hn
  | k + 1 => by rw [dgA_s, upN_n (by omega), upN_n (by omega), dgA_lo hj hn k]
def sumS (v : Nat → Nat) (st : Nat) : Nat → Nat
  | 0 => 0
  | f + 1 => sumS v st f + (if st / 2 ^ f % 2 = 1 then v f else 0)
theorem sumS_y {v : Nat → Nat} {st f : Nat} (h : 0 < st / 2 ^ f % 2 ^ 1) : sumS v st (f + 1) = sumS v st f + v f := by
  rw [sumS, if_pos (by omega)]
theorem sumS_n {v : Nat → Nat} {st f : Nat} (h : st / 2 ^ f % 2 ^ 1 = 0) : sumS v st (f + 1) = sumS v st f := by
  rw [sumS, if_neg (by omega)]
  rfl
theorem sumS_b {v : Nat → Nat} {st B : Nat} : ∀ {n : Nat}, (∀ f, f < n → v f ≤ B) → sumS v st n ≤ n * B
  | 0, _ => by simp [sumS]
  | n + 1, h => by
    have h1 := sumS_b (st := st) (n := n) (fun f hf => h f (by omega))
    have h2 := h n (by omega)
    rw [sumS, Nat.succ_mul]
    split <;> omega
def plB (S K : Nat → Nat) (hr : Nat) : Nat → Nat × Nat × Nat
  | 0 => (0, 0, 0)
  | k + 1 => if K k ≤ hr ∧ ((plB S K hr k).2.1 < S k ∨ (S k = (plB S K hr k).2.1 ∧ K k < (plB S K hr k).2.2)) then (k, S k, K k) else plB S K hr k
theorem plB_y {S K : Nat → Nat} {hr k x y z : Nat} (e : plB S K hr k = (x, y, z)) (h : K k ≤ hr ∧ (y < S k ∨ (S k = y ∧ K k < z))) : plB S K hr (k + 1) = (k, S k, K k) := by
  rw [plB, e]
  exact if_pos h
theorem plB_n {S K : Nat → Nat} {hr k x y z : Nat} (e : plB S K hr k = (x, y, z)) (h : ¬ (K k ≤ hr ∧ (y < S k ∨ (S k = y ∧ K k < z)))) : plB S K hr (k + 1) = (x, y, z) := by
  rw [plB, e]
  exact if_neg h
theorem sl31 : ∀ k, k < 32 → ((nI k &&& 31).toBitVec.smod 32).toNat = k := by decide +kernel
set_option maxHeartbeats 4000000 in
set_option maxRecDepth 100000 in
theorem cM_wasSeen (l : Launch) (D : va_G) (ad : Nat → Nat) (cI cJ : ClassId) (a kp bt sz : Nat → Nat) (sheets : Nat → Int32) (go ro : Nat → Nat) (car : Nat → Int32) (ke km fi gm bs bu : Nat) (n1 n2 n3 n4 n5 n6 n7 : Int64) (px py db : Nat → Int64) (f : Nat) (hf8 : f < 8) (hf : fdOk a f) : mq_i l D (mT cI cJ) yX12_wasSeen wsX12_wasSeen 1 0 0 22 [.ref (ad 0), .int (nI (f))] (mW ad cI cJ a kp bt sz sheets go ro car ke km fi gm bs bu n1 n2 n3 n4 n5 n6 n7 px py db) (fun r w1 => r = bI (sn a f) ∧ w1 = mW ad cI cJ a kp bt sz sheets go ro car ke km fi gm bs bu n1 n2 n3 n4 n5 n6 n7 px py db) := by
  refine mq_z_of (cc := cX12_wasSeen) (maxL := 3) (by decide) rfl (Nat.le_of_ble_eq_true rfl) ?_
  intro p e s m args below meth c A Q ls hx hb hts hown hml hnm hA hP hK hD hS hl hret
  have hown : s.vm.findClass RX12 = some m.cls := hown
  have hinX12 : ∀ w ∈ u_ws RX12 TX12 24, w ∈ wsX12_wasSeen := by decide +kernel
  have hl : lv_has ls 3 [(0, .ref (ad 0)), (1, .int (nI (f)))] := hl
  refine lv_iconst (v := (nI (0))) hx hb dX12_wasSeen_0 (by decide) ?_
  refine lv_istore_n (lv' := [(2, .int (nI (0))), (0, .ref (ad 0)), (1, .int (nI (f)))]) hx hb dX12_wasSeen_1 rfl hl (by decide) rfl (fun ls hl => ?_)
  have hfl := hf.2.2.2.2.1
  have lp : ∀ (n : Nat) (k : Nat), (k + n = a (334 + 5 * f + 4)) → (snB a f k = false) → ∀ (H : Heap) (locs : List Loc) (ls : Array Slot), va_P D vwCl (mW ad cI cJ a kp bt sz sheets go ro car ke km fi gm bs bu n1 n2 n3 n4 n5 n6 n7 px py db) H → va_D A (mW ad cI cJ a kp bt sz sheets go ro car ke km fi gm bs bu n1 n2 n3 n4 n5 n6 n7 px py db) → va_S A s.heap H locs → lv_has ls 3 [(2, .int (nI (k))), (0, .ref (ad 0)), (1, .int (nI (f)))] → W p l e (mq_R 1 0 0 22) s m args below meth c H locs 0 0 Q (F0 m 2 ls []) := by
    intro n
    induction n with
    | zero =>
      intro k hk hk2 H locs ls hP hD hS hl
      refine lv_iload_n hx hb dX12_wasSeen_2 rfl (lv_at hl 0 rfl) ?_
      refine lv_aload_n hx hb dX12_wasSeen_3 rfl (lv_at hl 1 rfl) ?_
      refine lv_iload_n hx hb dX12_wasSeen_4 rfl (lv_at hl 2 rfl) ?_
      refine lv_iconst (v := (nI (4))) hx hb dX12_wasSeen_5 (by decide) ?_
      refine mq_Vi (As := [.int (nI (f)), .int (nI (4))]) (rest := [.int (nI (k))]) (ci := 12) (k0 := 0) ⟨hx, hb, hml, hown, hts⟩ (cM_ofField l D ad cI cJ a kp bt sz sheets go ro car ke km fi gm bs bu n1 n2 n3 n4 n5 n6 n7 px py db (f) (4) (by omega)) (cwV 2 hts gX12_wasSeen_X12_ofField rfl rfl rfl (by decide +kernel) ⟨Nat.le_of_ble_eq_true rfl, Nat.le_of_ble_eq_true rfl⟩) rfl rfl hP hK hD hS hA rfl hl.1 rfl (Nat.le_of_ble_eq_true rfl) dX12_wasSeen_6 ⟨Nat.le_of_ble_eq_true rfl, Nat.le_of_ble_eq_true rfl⟩ (fun r w1 H locs hq hP hD hS => ?_)
      obtain ⟨rfl, rfl⟩ := hq
      refine ln_icmp_ge (tgt := 43) hx hb dX12_wasSeen_9 (by decide) (by omega) (by omega) (fun c1 => ?_) (fun c1 => ?_)
      · refine lv_iconst (v := (nI (0))) hx hb dX12_wasSeen_43 (by decide) ?_
        exact hret _ _ _ _ _ _ rfl ⟨bI_f' (by rw [sn, show a (334 + 5 * f + 4) = k by omega, hk2]; decide), rfl⟩ hP hD hS dX12_wasSeen_44
      · exact absurd hk (by omega)
    | succ n ih =>
      intro k hk hk2 H locs ls hP hD hS hl
      refine lv_iload_n hx hb dX12_wasSeen_2 rfl (lv_at hl 0 rfl) ?_
      refine lv_aload_n hx hb dX12_wasSeen_3 rfl (lv_at hl 1 rfl) ?_
      refine lv_iload_n hx hb dX12_wasSeen_4 rfl (lv_at hl 2 rfl) ?_
      refine lv_iconst (v := (nI (4))) hx hb dX12_wasSeen_5 (by decide) ?_
      refine mq_Vi (As := [.int (nI (f)), .int (nI (4))]) (rest := [.int (nI (k))]) (ci := 12) (k0 := 0) ⟨hx, hb, hml, hown, hts⟩ (cM_ofField l D ad cI cJ a kp bt sz sheets go ro car ke km fi gm bs bu n1 n2 n3 n4 n5 n6 n7 px py db (f) (4) (by omega)) (cwV 2 hts gX12_wasSeen_X12_ofField rfl rfl rfl (by decide +kernel) ⟨Nat.le_of_ble_eq_true rfl, Nat.le_of_ble_eq_true rfl⟩) rfl rfl hP hK hD hS hA rfl hl.1 rfl (Nat.le_of_ble_eq_true rfl) dX12_wasSeen_6 ⟨Nat.le_of_ble_eq_true rfl, Nat.le_of_ble_eq_true rfl⟩ (fun r w1 H locs hq hP hD hS => ?_)
      obtain ⟨rfl, rfl⟩ := hq
      refine ln_icmp_ge (tgt := 43) hx hb dX12_wasSeen_9 (by decide) (by omega) (by omega) (fun c1 => ?_) (fun c1 => ?_)
      · exact absurd hk (by omega)
      · refine lv_aload_n hx hb dX12_wasSeen_12 rfl (lv_at hl 1 rfl) ?_
        refine va_get (D := D) (ci := 12) (v := .ref (ad 1)) (C := RX12) (T := TX12) (N := 24) hx hb hts hinX12 hown hK hP 0 rfl rfl 0 (by decide) (hts (.fieldLink RX12 9 "CornDeskModel" "now" "[I") (by decide +kernel)) (fun _ h9 => h9) rfl dX12_wasSeen_13 ?_
        refine lv_sipush (v := (nI (374))) hx hb dX12_wasSeen_16 (by decide) ?_
        refine lv_bipush (v := (nI (12))) hx hb dX12_wasSeen_19 (by decide) ?_
        refine lv_iload_n hx hb dX12_wasSeen_21 rfl (lv_at hl 2 rfl) ?_
        refine ln_imul hx hb dX12_wasSeen_22 ?_
        refine ln_iadd hx hb dX12_wasSeen_23 ?_
        refine lv_iconst (v := (nI (3))) hx hb dX12_wasSeen_24 (by decide) ?_
        refine lv_iload_n hx hb dX12_wasSeen_25 rfl (lv_at hl 0 rfl) ?_
        refine ln_imul hx hb dX12_wasSeen_26 ?_
        refine ln_iadd hx hb dX12_wasSeen_27 ?_
        refine lv_iconst (v := (nI (2))) hx hb dX12_wasSeen_28 (by decide) ?_
        refine ln_iadd hx hb dX12_wasSeen_29 ?_
        refine ln_iald hx hb hK hP 1 0 rfl rfl (by decide) (by omega) dX12_wasSeen_30 ?_
        refine lv_iconst (v := (nI (1))) hx hb dX12_wasSeen_31 (by decide) ?_
        have hv : a (374 + 12 * f + 3 * k + 2) ≤ 1 := (hf.2.2.2.2.2 k (by omega)).2.2
        refine ln_icmp_ne (tgt := 37) hx hb dX12_wasSeen_32 (by decide) (by omega) (by omega) (fun c2 => ?_) (fun c2 => ?_)
        · refine lv_iinc (v := (nI (k + 1))) (lv' := [(2, .int (nI (k + 1))), (0, .ref (ad 0)), (1, .int (nI (f)))]) hx hb dX12_wasSeen_37 hl (k := 0) rfl (by rw [show (Int32.ofInt 1) = nI 1 from rfl, nI_add]) (by decide) rfl (fun ls hl => ?_)
          refine lv_goto (tgt := 2) hx hb dX12_wasSeen_40 (by decide) ?_
          exact ih (k + 1) (by omega) (snB_n hk2 c2) _ _ _ hP hD hS hl
        · refine lv_iconst (v := (nI (1))) hx hb dX12_wasSeen_35 (by decide) ?_
          exact hret _ _ _ _ _ _ rfl ⟨bI_t' (by rw [sn, show a (334 + 5 * f + 4) = k + 1 + (a (334 + 5 * f + 4) - (k + 1)) by omega]; exact snB_y c2 _), rfl⟩ hP hD hS dX12_wasSeen_36
  exact lp (a (334 + 5 * f + 4)) (0) (by omega) (rfl) _ _ _ hP hD hS hl
set_option maxHeartbeats 4000000 in
set_option maxRecDepth 100000 in
theorem cM_belief (l : Launch) (D : va_G) (ad : Nat → Nat) (cI cJ : ClassId) (a kp bt sz : Nat → Nat) (sheets : Nat → Int32) (go ro : Nat → Nat) (car : Nat → Int32) (ke km fi gm bs bu : Nat) (n1 n2 n3 n4 n5 n6 n7 : Int64) (px py db : Nat → Int64) (x : Int32) (zf : Int32) (h3 : a 3 ≤ 8) (hfd : ∀ i, i < a 3 → fdOk a i) (hsh : shOk a) : mq_l l D (mT cI cJ) yX12_belief wsX12_belief 2 0 0 55 [.ref (ad 0), .int (x), .int (zf)] (mW ad cI cJ a kp bt sz sheets go ro car ke km fi gm bs bu n1 n2 n3 n4 n5 n6 n7 px py db) (fun r w1 => (¬ ix (a 3) x ∧ r = -1000000001 ∧ w1 = mW ad cI cJ a kp bt sz sheets go ro car ke km (fi + 1) gm bs bu n1 n2 n3 n4 n5 n6 n7 px py db) ∨ (∃ i : Nat, (x = nI i ∧ i < a 3) ∧ ((sn a i ∧ r = 1 ∧ w1 = mW ad cI cJ a kp bt sz sheets go ro car ke km fi gm bs bu n1 n2 n3 n4 n5 n6 n7 px py db) ∨ (¬ sn a i ∧ r = pcI ((blU a i (a (334 + 5 * i + 4)) : Nat) : Int) (blU a i (a (334 + 5 * i + 4)) + blN a i (a (334 + 5 * i + 4))) zf ∧ w1 = mW ad cI cJ a kp bt sz sheets go ro car ke km fi gm bs bu n1 n2 n3 n4 n5 n6 n7 px py db)))) := by
  refine mq_l_of (cc := cX12_belief) (maxL := 9) (by decide) rfl (Nat.le_of_ble_eq_true rfl) ?_
  intro p e s m args below meth c A Q ls hx hb hts hown hml hnm hA hP hK hD hS hl hret
  have hown : s.vm.findClass RX12 = some m.cls := hown
  have hinX12 : ∀ w ∈ u_ws RX12 TX12 24, w ∈ wsX12_belief := by decide +kernel
  have hl : lv_has ls 9 [(0, .ref (ad 0)), (1, .int (x)), (2, .int (zf))] := hl
  refine lv_aload_n hx hb dX12_belief_0 rfl (lv_at hl 0 rfl) ?_
  refine lv_iload_n hx hb dX12_belief_1 rfl (lv_at hl 1 rfl) ?_
  refine mq_Vi (As := [.int (x)]) (rest := []) (ci := 12) (k0 := 0) ⟨hx, hb, hml, hown, hts⟩ (cM_isField l D ad cI cJ a kp bt sz sheets go ro car ke km fi gm bs bu n1 n2 n3 n4 n5 n6 n7 px py db (x) (by omega)) (cwV 1 hts gX12_belief_X12_isField rfl rfl rfl (by decide +kernel) ⟨Nat.le_of_ble_eq_true rfl, Nat.le_of_ble_eq_true rfl⟩) rfl rfl hP hK hD hS hA rfl hl.1 rfl (Nat.le_of_ble_eq_true rfl) dX12_belief_2 ⟨Nat.le_of_ble_eq_true rfl, Nat.le_of_ble_eq_true rfl⟩ (fun r w1 H locs hq hP hD hS => ?_)
  obtain ⟨rfl, rfl⟩ := hq
  refine lb_if_ne (tgt := 16) hx hb dX12_belief_5 (by decide) (fun c1 => ?_) (fun c1 => ?_)
  · obtain ⟨i, hi, rfl⟩ := ix_of c1 (by omega)
    have hf := hfd i hi
    have hfl := hf.2.2.2.2.1
    have hch := hf.2.1
    refine lv_aload_n hx hb dX12_belief_16 rfl (lv_at hl 0 rfl) ?_
    refine lv_iload_n hx hb dX12_belief_17 rfl (lv_at hl 1 rfl) ?_
    refine mq_Vi (As := [.int (nI (i))]) (rest := []) (ci := 12) (k0 := 0) ⟨hx, hb, hml, hown, hts⟩ (cM_wasSeen l D ad cI cJ a kp bt sz sheets go ro car ke km fi gm bs bu n1 n2 n3 n4 n5 n6 n7 px py db (i) (by omega) hf) (cwV 1 hts gX12_belief_X12_wasSeen rfl rfl rfl (by decide +kernel) ⟨Nat.le_of_ble_eq_true rfl, Nat.le_of_ble_eq_true rfl⟩) rfl rfl hP hK hD hS hA rfl hl.1 rfl (Nat.le_of_ble_eq_true rfl) dX12_belief_18 ⟨Nat.le_of_ble_eq_true rfl, Nat.le_of_ble_eq_true rfl⟩ (fun r w1 H locs hq hP hD hS => ?_)
    obtain ⟨rfl, rfl⟩ := hq
    refine lb_if_eq (tgt := 26) hx hb dX12_belief_21 (by decide) (fun c2 => ?_) (fun c2 => ?_)
    · refine lv_aload_n hx hb dX12_belief_26 rfl (lv_at hl 0 rfl) ?_
      refine lv_iload_n hx hb dX12_belief_27 rfl (lv_at hl 1 rfl) ?_
      refine lv_iconst (v := (nI (1))) hx hb dX12_belief_28 (by decide) ?_
      refine mq_Vi (As := [.int (nI (i)), .int (nI (1))]) (rest := []) (ci := 12) (k0 := 0) ⟨hx, hb, hml, hown, hts⟩ (cM_ofField l D ad cI cJ a kp bt sz sheets go ro car ke km fi gm bs bu n1 n2 n3 n4 n5 n6 n7 px py db (i) (1) (by omega)) (cwV 2 hts gX12_belief_X12_ofField rfl rfl rfl (by decide +kernel) ⟨Nat.le_of_ble_eq_true rfl, Nat.le_of_ble_eq_true rfl⟩) rfl rfl hP hK hD hS hA rfl hl.1 rfl (Nat.le_of_ble_eq_true rfl) dX12_belief_29 ⟨Nat.le_of_ble_eq_true rfl, Nat.le_of_ble_eq_true rfl⟩ (fun r w1 H locs hq hP hD hS => ?_)
      obtain ⟨rfl, rfl⟩ := hq
      refine lv_i2l hx hb dX12_belief_32 rfl ?_
      refine ln_eql (y := (lN (a (334 + 5 * i + 1)))) (nI_l (by omega)) ?_
      refine lv_lstore_n (lv' := [(3, .long (lN (a (334 + 5 * i + 1)))), (0, .ref (ad 0)), (1, .int (nI (i))), (2, .int (zf))]) hx hb dX12_belief_33 rfl hl (by decide) rfl (fun ls hl => ?_)
      refine lv_bipush (v := (nI (100))) hx hb dX12_belief_34 (by decide) ?_
      refine lv_aload_n hx hb dX12_belief_36 rfl (lv_at hl 1 rfl) ?_
      refine lv_iload_n hx hb dX12_belief_37 rfl (lv_at hl 2 rfl) ?_
      refine lv_iconst (v := (nI (1))) hx hb dX12_belief_38 (by decide) ?_
      refine mq_Vi (As := [.int (nI (i)), .int (nI (1))]) (rest := [.int (nI (100))]) (ci := 12) (k0 := 0) ⟨hx, hb, hml, hown, hts⟩ (cM_ofField l D ad cI cJ a kp bt sz sheets go ro car ke km fi gm bs bu n1 n2 n3 n4 n5 n6 n7 px py db (i) (1) (by omega)) (cwV 2 hts gX12_belief_X12_ofField rfl rfl rfl (by decide +kernel) ⟨Nat.le_of_ble_eq_true rfl, Nat.le_of_ble_eq_true rfl⟩) rfl rfl hP hK hD hS hA rfl hl.1 rfl (Nat.le_of_ble_eq_true rfl) dX12_belief_39 ⟨Nat.le_of_ble_eq_true rfl, Nat.le_of_ble_eq_true rfl⟩ (fun r w1 H locs hq hP hD hS => ?_)
      obtain ⟨rfl, rfl⟩ := hq
      refine ln_isub hx hb dX12_belief_42 (by omega) ?_
      refine lv_i2l hx hb dX12_belief_43 rfl ?_
      refine ln_eql (y := (lN (100 - a (334 + 5 * i + 1)))) (nI_l (by omega)) ?_
      refine lv_lstore (lv' := [(5, .long (lN (100 - a (334 + 5 * i + 1)))), (3, .long (lN (a (334 + 5 * i + 1)))), (0, .ref (ad 0)), (1, .int (nI (i))), (2, .int (zf))]) hx hb dX12_belief_44 hl (by decide) rfl (fun ls hl => ?_)
      refine lv_iconst (v := (nI (0))) hx hb dX12_belief_46 (by decide) ?_
      refine lv_istore (lv' := [(7, .int (nI (0))), (5, .long (lN (100 - a (334 + 5 * i + 1)))), (3, .long (lN (a (334 + 5 * i + 1)))), (0, .ref (ad 0)), (1, .int (nI (i))), (2, .int (zf))]) hx hb dX12_belief_47 hl (by decide) rfl (fun ls hl => ?_)
      have lp : ∀ (n : Nat) (k : Nat), (k + n = a (334 + 5 * i + 4)) → ∀ (H : Heap) (locs : List Loc) (ls : Array Slot), va_P D vwCl (mW ad cI cJ a kp bt sz sheets go ro car ke km fi gm bs bu n1 n2 n3 n4 n5 n6 n7 px py db) H → va_D A (mW ad cI cJ a kp bt sz sheets go ro car ke km fi gm bs bu n1 n2 n3 n4 n5 n6 n7 px py db) → va_S A s.heap H locs → lv_has ls 9 [(7, .int (nI (k))), (3, .long (lN (blU a i k))), (5, .long (lN (blN a i k))), (0, .ref (ad 0)), (1, .int (nI (i))), (2, .int (zf))] → W p l e (mq_R 2 0 0 55) s m args below meth c H locs 0 0 Q (F0 m 49 ls []) := by
        intro n
        induction n with
        | zero =>
          intro k hk H locs ls hP hD hS hl
          refine lv_iload hx hb dX12_belief_49 (lv_at hl 0 rfl) ?_
          refine lv_aload_n hx hb dX12_belief_51 rfl (lv_at hl 3 rfl) ?_
          refine lv_iload_n hx hb dX12_belief_52 rfl (lv_at hl 4 rfl) ?_
          refine lv_iconst (v := (nI (4))) hx hb dX12_belief_53 (by decide) ?_
          refine mq_Vi (As := [.int (nI (i)), .int (nI (4))]) (rest := [.int (nI (k))]) (ci := 12) (k0 := 0) ⟨hx, hb, hml, hown, hts⟩ (cM_ofField l D ad cI cJ a kp bt sz sheets go ro car ke km fi gm bs bu n1 n2 n3 n4 n5 n6 n7 px py db (i) (4) (by omega)) (cwV 2 hts gX12_belief_X12_ofField rfl rfl rfl (by decide +kernel) ⟨Nat.le_of_ble_eq_true rfl, Nat.le_of_ble_eq_true rfl⟩) rfl rfl hP hK hD hS hA rfl hl.1 rfl (Nat.le_of_ble_eq_true rfl) dX12_belief_54 ⟨Nat.le_of_ble_eq_true rfl, Nat.le_of_ble_eq_true rfl⟩ (fun r w1 H locs hq hP hD hS => ?_)
          obtain ⟨rfl, rfl⟩ := hq
          refine ln_icmp_ge (tgt := 151) hx hb dX12_belief_57 (by decide) (by omega) (by omega) (fun c3 => ?_) (fun c3 => ?_)
          · have hk0 : k = a (334 + 5 * i + 4) := by omega
            subst hk0
            obtain ⟨e1, e2, e3⟩ := bl_e hf hsh
            refine lv_lload_n hx hb dX12_belief_151 rfl (lv_at hl 1 rfl) ?_
            refine lv_lload_n hx hb dX12_belief_152 rfl (lv_at hl 1 rfl) ?_
            refine lv_lload hx hb dX12_belief_153 (lv_at hl 2 rfl) ?_
            refine lv_ladd hx hb dX12_belief_155 ?_
            refine ln_eql (y := (lN (blU a i (a (334 + 5 * i + 4)) + blN a i (a (334 + 5 * i + 4))))) (lN_add _ _) ?_
            refine lv_iload_n hx hb dX12_belief_156 rfl (lv_at hl 5 rfl) ?_
            have eU : lN (blU a i (a (334 + 5 * i + 4))) = lZ ((blU a i (a (334 + 5 * i + 4)) : Nat) : Int) := lZ_N _
            rw [eU]
            refine mq_Sl (As := [.long (lZ ((blU a i (a (334 + 5 * i + 4)) : Nat) : Int)), .long (lN (blU a i (a (334 + 5 * i + 4)) + blN a i (a (334 + 5 * i + 4)))), .int (zf)]) (rest := []) ⟨hx, hb, hml, hown, hts⟩ (cM_part l D _ ((blU a i (a (334 + 5 * i + 4)) : Nat) : Int) (blU a i (a (334 + 5 * i + 4)) + blN a i (a (334 + 5 * i + 4))) (zf) (by omega) (by omega) (by omega)) (cwS 3 hts gX12_belief_X12_part rfl rfl rfl (by decide +kernel) ⟨Nat.le_of_ble_eq_true rfl, Nat.le_of_ble_eq_true rfl⟩) hP hK hS hA rfl hl.1 rfl (Nat.le_of_ble_eq_true rfl) dX12_belief_157 ⟨Nat.le_of_ble_eq_true rfl, Nat.le_of_ble_eq_true rfl⟩ (fun r w1 H locs hq hP hS => ?_)
            subst hq
            exact hret _ _ _ _ _ _ (Or.inr ⟨i, ⟨rfl, hi⟩, Or.inr ⟨c2, rfl, rfl⟩⟩) hP hD hS dX12_belief_160
          · exact absurd hk (by omega)
        | succ n ih =>
          intro k hk H locs ls hP hD hS hl
          refine lv_iload hx hb dX12_belief_49 (lv_at hl 0 rfl) ?_
          refine lv_aload_n hx hb dX12_belief_51 rfl (lv_at hl 3 rfl) ?_
          refine lv_iload_n hx hb dX12_belief_52 rfl (lv_at hl 4 rfl) ?_
          refine lv_iconst (v := (nI (4))) hx hb dX12_belief_53 (by decide) ?_
          refine mq_Vi (As := [.int (nI (i)), .int (nI (4))]) (rest := [.int (nI (k))]) (ci := 12) (k0 := 0) ⟨hx, hb, hml, hown, hts⟩ (cM_ofField l D ad cI cJ a kp bt sz sheets go ro car ke km fi gm bs bu n1 n2 n3 n4 n5 n6 n7 px py db (i) (4) (by omega)) (cwV 2 hts gX12_belief_X12_ofField rfl rfl rfl (by decide +kernel) ⟨Nat.le_of_ble_eq_true rfl, Nat.le_of_ble_eq_true rfl⟩) rfl rfl hP hK hD hS hA rfl hl.1 rfl (Nat.le_of_ble_eq_true rfl) dX12_belief_54 ⟨Nat.le_of_ble_eq_true rfl, Nat.le_of_ble_eq_true rfl⟩ (fun r w1 H locs hq hP hD hS => ?_)
          obtain ⟨rfl, rfl⟩ := hq
          refine ln_icmp_ge (tgt := 151) hx hb dX12_belief_57 (by decide) (by omega) (by omega) (fun c3 => ?_) (fun c3 => ?_)
          · exact absurd hk (by omega)
          · obtain ⟨q1, q2, q3⟩ := shL_ok hf hsh (k := k) (by omega)
            refine lv_aload_n hx hb dX12_belief_60 rfl (lv_at hl 3 rfl) ?_
            refine lv_iload_n hx hb dX12_belief_61 rfl (lv_at hl 4 rfl) ?_
            refine lv_iconst (v := (nI (0))) hx hb dX12_belief_62 (by decide) ?_
            refine mq_Vi (As := [.int (nI (i)), .int (nI (0))]) (rest := []) (ci := 12) (k0 := 0) ⟨hx, hb, hml, hown, hts⟩ (cM_ofField l D ad cI cJ a kp bt sz sheets go ro car ke km fi gm bs bu n1 n2 n3 n4 n5 n6 n7 px py db (i) (0) (by omega)) (cwV 2 hts gX12_belief_X12_ofField rfl rfl rfl (by decide +kernel) ⟨Nat.le_of_ble_eq_true rfl, Nat.le_of_ble_eq_true rfl⟩) rfl rfl hP hK hD hS hA rfl hl.1 rfl (Nat.le_of_ble_eq_true rfl) dX12_belief_63 ⟨Nat.le_of_ble_eq_true rfl, Nat.le_of_ble_eq_true rfl⟩ (fun r w1 H locs hq hP hD hS => ?_)
            obtain ⟨rfl, rfl⟩ := hq
            refine ln_eqi (y := (nI (a (334 + 5 * i)))) rfl ?_
            refine lv_aload_n hx hb dX12_belief_66 rfl (lv_at hl 3 rfl) ?_
            refine va_get (D := D) (ci := 12) (v := .ref (ad 1)) (C := RX12) (T := TX12) (N := 24) hx hb hts hinX12 hown hK hP 0 rfl rfl 0 (by decide) (hts (.fieldLink RX12 9 "CornDeskModel" "now" "[I") (by decide +kernel)) (fun _ h9 => h9) rfl dX12_belief_67 ?_
            refine lv_sipush (v := (nI (374))) hx hb dX12_belief_70 (by decide) ?_
            refine lv_bipush (v := (nI (12))) hx hb dX12_belief_73 (by decide) ?_
            refine lv_iload_n hx hb dX12_belief_75 rfl (lv_at hl 4 rfl) ?_
            refine ln_imul hx hb dX12_belief_76 ?_
            refine ln_iadd hx hb dX12_belief_77 ?_
            refine lv_iconst (v := (nI (3))) hx hb dX12_belief_78 (by decide) ?_
            refine lv_iload hx hb dX12_belief_79 (lv_at hl 0 rfl) ?_
            refine ln_imul hx hb dX12_belief_81 ?_
            refine ln_iadd hx hb dX12_belief_82 ?_
            refine ln_iald hx hb hK hP 1 0 rfl rfl (by decide) (by omega) dX12_belief_83 ?_
            refine lv_aload_n hx hb dX12_belief_84 rfl (lv_at hl 3 rfl) ?_
            refine va_get (D := D) (ci := 12) (v := .ref (ad 1)) (C := RX12) (T := TX12) (N := 24) hx hb hts hinX12 hown hK hP 0 rfl rfl 0 (by decide) (hts (.fieldLink RX12 9 "CornDeskModel" "now" "[I") (by decide +kernel)) (fun _ h9 => h9) rfl dX12_belief_85 ?_
            refine lv_sipush (v := (nI (374))) hx hb dX12_belief_88 (by decide) ?_
            refine lv_bipush (v := (nI (12))) hx hb dX12_belief_91 (by decide) ?_
            refine lv_iload_n hx hb dX12_belief_93 rfl (lv_at hl 4 rfl) ?_
            refine ln_imul hx hb dX12_belief_94 ?_
            refine ln_iadd hx hb dX12_belief_95 ?_
            refine lv_iconst (v := (nI (3))) hx hb dX12_belief_96 (by decide) ?_
            refine lv_iload hx hb dX12_belief_97 (lv_at hl 0 rfl) ?_
            refine ln_imul hx hb dX12_belief_99 ?_
            refine ln_iadd hx hb dX12_belief_100 ?_
            refine lv_iconst (v := (nI (1))) hx hb dX12_belief_101 (by decide) ?_
            refine ln_iadd hx hb dX12_belief_102 ?_
            refine ln_iald hx hb hK hP 1 0 rfl rfl (by decide) (by omega) dX12_belief_103 ?_
            refine mq_Si (As := [.int (nI (a (334 + 5 * i))), .int (nI (a (374 + (12) * (i) + (3) * (k)))), .int (nI (a (374 + (12) * (i) + (3) * (k) + 1)))]) (rest := []) ⟨hx, hb, hml, hown, hts⟩ (cM_showAt l D _ (a (334 + 5 * i)) (a (374 + (12) * (i) + (3) * (k))) (a (374 + (12) * (i) + (3) * (k) + 1)) ) (cwS 3 hts gX12_belief_X12_showAt rfl rfl rfl (by decide +kernel) ⟨Nat.le_of_ble_eq_true rfl, Nat.le_of_ble_eq_true rfl⟩) hP hK hS hA rfl hl.1 rfl (Nat.le_of_ble_eq_true rfl) dX12_belief_104 ⟨Nat.le_of_ble_eq_true rfl, Nat.le_of_ble_eq_true rfl⟩ (fun r w1 H locs hq hP hS => ?_)
            subst hq
            refine ln_eqi (y := (nI (shL a i k))) rfl ?_
            refine lv_istore (lv' := [(8, .int (nI (shL a i k))), (7, .int (nI (k))), (3, .long (lN (blU a i k))), (5, .long (lN (blN a i k))), (0, .ref (ad 0)), (1, .int (nI (i))), (2, .int (zf))]) hx hb dX12_belief_107 hl (by decide) rfl (fun ls hl => ?_)
            obtain ⟨z1, z2, -⟩ := hf.2.2.2.2.2 k (by omega)
            have z3 := hf.1
            refine lv_lload_n hx hb dX12_belief_109 rfl (lv_at hl 2 rfl) ?_
            refine lv_aload_n hx hb dX12_belief_110 rfl (lv_at hl 4 rfl) ?_
            refine va_get (D := D) (ci := 12) (v := .ref (ad 1)) (C := RX12) (T := TX12) (N := 24) hx hb hts hinX12 hown hK hP 0 rfl rfl 0 (by decide) (hts (.fieldLink RX12 9 "CornDeskModel" "now" "[I") (by decide +kernel)) (fun _ h9 => h9) rfl dX12_belief_111 ?_
            refine lv_iload hx hb dX12_belief_114 (lv_at hl 0 rfl) ?_
            refine lv_iconst (v := (nI (1))) hx hb dX12_belief_116 (by decide) ?_
            refine ln_iadd hx hb dX12_belief_117 ?_
            refine ln_iald hx hb hK hP 1 0 rfl rfl (by decide) (by omega) dX12_belief_118 ?_
            refine lv_aload_n hx hb dX12_belief_119 rfl (lv_at hl 4 rfl) ?_
            refine va_get (D := D) (ci := 12) (v := .ref (ad 1)) (C := RX12) (T := TX12) (N := 24) hx hb hts hinX12 hown hK hP 0 rfl rfl 0 (by decide) (hts (.fieldLink RX12 9 "CornDeskModel" "now" "[I") (by decide +kernel)) (fun _ h9 => h9) rfl dX12_belief_120 ?_
            refine lv_iload hx hb dX12_belief_123 (lv_at hl 0 rfl) ?_
            refine ln_iald hx hb hK hP 1 0 rfl rfl (by decide) (by omega) dX12_belief_125 ?_
            refine ln_isub hx hb dX12_belief_126 (by omega) ?_
            refine lv_i2l hx hb dX12_belief_127 rfl ?_
            refine ln_eql (y := (lN (a (shL a i k + 1) - a (shL a i k)))) (nI_l (by omega)) ?_
            refine lv_lmul hx hb dX12_belief_128 ?_
            refine ln_eql (y := (lN (blU a i (k + 1)))) (by rw [lN_mul, blU_s]) ?_
            refine lv_lstore_n (lv' := [(3, .long (lN (blU a i (k + 1)))), (8, .int (nI (shL a i k))), (7, .int (nI (k))), (5, .long (lN (blN a i k))), (0, .ref (ad 0)), (1, .int (nI (i))), (2, .int (zf))]) hx hb dX12_belief_129 rfl hl (by decide) rfl (fun ls hl => ?_)
            refine lv_lload hx hb dX12_belief_130 (lv_at hl 3 rfl) ?_
            refine lv_aload_n hx hb dX12_belief_132 rfl (lv_at hl 4 rfl) ?_
            refine va_get (D := D) (ci := 12) (v := .ref (ad 1)) (C := RX12) (T := TX12) (N := 24) hx hb hts hinX12 hown hK hP 0 rfl rfl 0 (by decide) (hts (.fieldLink RX12 9 "CornDeskModel" "now" "[I") (by decide +kernel)) (fun _ h9 => h9) rfl dX12_belief_133 ?_
            refine lv_iload hx hb dX12_belief_136 (lv_at hl 1 rfl) ?_
            refine lv_iconst (v := (nI (1))) hx hb dX12_belief_138 (by decide) ?_
            refine ln_iadd hx hb dX12_belief_139 ?_
            refine ln_iald hx hb hK hP 1 0 rfl rfl (by decide) (by omega) dX12_belief_140 ?_
            refine lv_i2l hx hb dX12_belief_141 rfl ?_
            refine ln_eql (y := (lN (a (shL a i k + 1)))) (nI_l (by omega)) ?_
            refine lv_lmul hx hb dX12_belief_142 ?_
            refine ln_eql (y := (lN (blN a i (k + 1)))) (by rw [lN_mul, blN_s]) ?_
            refine lv_lstore (lv' := [(5, .long (lN (blN a i (k + 1)))), (3, .long (lN (blU a i (k + 1)))), (8, .int (nI (shL a i k))), (7, .int (nI (k))), (0, .ref (ad 0)), (1, .int (nI (i))), (2, .int (zf))]) hx hb dX12_belief_143 hl (by decide) rfl (fun ls hl => ?_)
            refine lv_iinc (v := (nI (k + 1))) (lv' := [(7, .int (nI (k + 1))), (5, .long (lN (blN a i (k + 1)))), (3, .long (lN (blU a i (k + 1)))), (8, .int (nI (shL a i k))), (0, .ref (ad 0)), (1, .int (nI (i))), (2, .int (zf))]) hx hb dX12_belief_145 hl (k := 3) rfl (by rw [show (Int32.ofInt 1) = nI 1 from rfl, nI_add]) (by decide) rfl (fun ls hl => ?_)
            refine lv_goto (tgt := 49) hx hb dX12_belief_148 (by decide) ?_
            exact ih (k + 1) (by omega) _ _ _ hP hD hS (lv_sub hl [0, 2, 1, 4, 5, 6] rfl)
      exact lp (a (334 + 5 * i + 4)) (0) (by omega) _ _ _ hP hD hS (lv_sub hl [0, 2, 1, 3, 4, 5] rfl)
    · refine lv_lconst (v := 1) hx hb dX12_belief_24 (by decide) ?_
      exact hret _ _ _ _ _ _ (Or.inr ⟨i, ⟨rfl, hi⟩, Or.inl ⟨c2, rfl, rfl⟩⟩) hP hD hS dX12_belief_25
  · refine lv_aload_n hx hb dX12_belief_8 rfl (lv_at hl 0 rfl) ?_
    refine lv_ldc2 (v := (-1000000001)) hx hb hown (hts (.constantLong RX12 76 (-1000000001)) (by decide +kernel)) dX12_belief_9 ?_
    refine mq_Vl (As := [.long ((-1000000001))]) (rest := []) (ci := 12) (k0 := 0) ⟨hx, hb, hml, hown, hts⟩ (cM_finds l D ad cI cJ a kp bt sz sheets go ro car ke km fi gm bs bu n1 n2 n3 n4 n5 n6 n7 px py db ((-1000000001)) ) (cwV 1 hts gX12_belief_X12_finds rfl rfl rfl (by decide +kernel) ⟨Nat.le_of_ble_eq_true rfl, Nat.le_of_ble_eq_true rfl⟩) rfl rfl hP hK hD hS hA rfl hl.1 rfl (Nat.le_of_ble_eq_true rfl) dX12_belief_12 ⟨Nat.le_of_ble_eq_true rfl, Nat.le_of_ble_eq_true rfl⟩ (fun r w1 H locs hq hP hD hS => ?_)
    obtain ⟨rfl, rfl⟩ := hq
    exact hret _ _ _ _ _ _ (Or.inl ⟨c1, rfl, rfl⟩) hP hD hS dX12_belief_15
