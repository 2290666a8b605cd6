abbrev cT (cy : Nat → ClassId) : List (ClassId × FieldType) := [(cy 0, .int), (cy 1, .long), (cy 2, .boolean), (cy 3, .object "CornDesk$Picture"), (cy 4, .object "CornDesk$Mark"), (cy 5, .object "CornDesk$Field"), (cy 6, .object "CornDesk$Sheet"), (cy 7, .object "CornDesk$Step")]
/-! ===== a line: sums over its places ===== -/
def vS (F : Nat → Nat) (n : Nat) : Int := zs (fun k => (F k : Int)) n
def vQ (F G : Nat → Nat) (n : Nat) : Int := zs (fun k => (F k : Int) * (G k : Int)) n
def vSp (F : Nat → Nat) (n : Nat) : Int := n * vQ F F n - vS F n * vS F n
def vSl (F T : Nat → Nat) (n : Nat) : Int := n * vQ F T n - vS F n * vS T n
def vBs (F T : Nat → Nat) (n : Nat) : Int := vS T n * vQ F F n - vS F n * vQ F T n
def vUp (F T : Nat → Nat) (n : Nat) (u : Int) : Int := vBs F T n + vSl F T n * u
def vLf (F T : Nat → Nat) (n k : Nat) : Int := (T k : Int) * vSp F n - vUp F T n (F k)
def vWF (F T : Nat → Nat) (n k : Nat) : Nat := cl (vLf F T n k).natAbs (vSp F n).toNat
def vWo (F T : Nat → Nat) (n : Nat) : Nat := if 0 < vSp F n then mxG (vWF F T n) 0 n else 0
theorem vS_s (F : Nat → Nat) (k : Nat) : vS F (k + 1) = vS F k + (F k : Int) := rfl
theorem vQ_s (F G : Nat → Nat) (k : Nat) : vQ F G (k + 1) = vQ F G k + (F k : Int) * (G k : Int) := rfl
abbrev w9 (F : Nat → Nat) (n : Nat) : Prop := ∀ k, k < n → F k ≤ 999
theorem vS_b {F : Nat → Nat} {n : Nat} (hn : n ≤ 8) (h : w9 F n) : (vS F n).natAbs ≤ 7992 := zs_na (c := 999) hn (fun k hk => by have := h k hk; omega)
theorem vQ_b {F G : Nat → Nat} {n : Nat} (hn : n ≤ 8) (h : w9 F n) (h2 : w9 G n) : (vQ F G n).natAbs ≤ 7984008 := zs_na (c := 998001) hn (fun k hk => zmul_b (by have := h k hk; omega) (by have := h2 k hk; omega))
theorem vn_b {n : Nat} (hn : n ≤ 8) : ((n : Nat) : Int).natAbs ≤ 8 := by omega
theorem vSp_b {F : Nat → Nat} {n : Nat} (hn : n ≤ 8) (h : w9 F n) : (vSp F n).natAbs ≤ 127744128 := na_sub (na_mul (vn_b hn) (vQ_b hn h h)) (na_mul (vS_b hn h) (vS_b hn h))
theorem vSl_b {F T : Nat → Nat} {n : Nat} (hn : n ≤ 8) (h : w9 F n) (h2 : w9 T n) : (vSl F T n).natAbs ≤ 127744128 := na_sub (na_mul (vn_b hn) (vQ_b hn h h2)) (na_mul (vS_b hn h) (vS_b hn h2))
theorem vBs_b {F T : Nat → Nat} {n : Nat} (hn : n ≤ 8) (h : w9 F n) (h2 : w9 T n) : (vBs F T n).natAbs ≤ 127616383872 := na_sub (na_mul (vS_b hn h2) (vQ_b hn h h)) (na_mul (vS_b hn h) (vQ_b hn h h2))
theorem vUp_b {F T : Nat → Nat} {n : Nat} {u : Int} (hn : n ≤ 8) (h : w9 F n) (h2 : w9 T n) (hu : u.natAbs ≤ 999) : (vUp F T n u).natAbs ≤ 255232767744 := na_add (vBs_b hn h h2) (na_mul (vSl_b hn h h2) hu)
theorem vLf_b {F T : Nat → Nat} {n k : Nat} (hn : n ≤ 8) (h : w9 F n) (h2 : w9 T n) (hk : k < n) : (vLf F T n k).natAbs ≤ 382849151616 := na_sub (na_mul (A := 999) (show ((T k : Nat) : Int).natAbs ≤ 999 by have := h2 k hk; omega) (vSp_b hn h)) (vUp_b hn h h2 (show ((F k : Nat) : Int).natAbs ≤ 999 by have := h k hk; omega))
theorem vWF_b {F T : Nat → Nat} {n k : Nat} (hn : n ≤ 8) (h : w9 F n) (h2 : w9 T n) (hk : k < n) (h0 : 0 < vSp F n) : vWF F T n k ≤ 400000000000 := by
  have h3 := vLf_b hn h h2 hk
  have h4 := vSp_b hn h
  have h5 := cl_b (x := (vLf F T n k).natAbs) (U := (vSp F n).toNat) (by omega)
  unfold vWF
  omega
theorem max_L {x y : Nat} (hx : x < 2 ^ 62) (hy : y < 2 ^ 62) : (if lN y < lN x then lN x else lN y) = lN (max x y) := by
  rcases Nat.lt_or_ge y x with q | q
  · rw [if_pos ((pk_lLT (by omega) (by omega)).mpr q), Nat.max_eq_left (by omega)]
  · rw [if_neg (fun g => by have := (pk_lLT (by omega) (by omega)).mp g; omega), Nat.max_eq_right q]
theorem abs_L {z : Int} (hz : z.natAbs < 2 ^ 62) : (if 0 < lZ z then lZ z else -lZ z) = lN z.natAbs := by
  rcases Int.lt_or_le 0 z with q | q
  · have e1 : (0 : Int64) < lZ z := (lZ_lt (x := 0) (y := z) (by omega) (by omega)).mpr q
    rw [if_pos e1, lZ_N]
    exact congrArg lZ (by omega)
  · have e1 : ¬ (0 : Int64) < lZ z := fun g => by have := (lZ_lt (x := 0) (y := z) (by omega) (by omega)).mp g; omega
    rw [if_neg e1, lZ_neg, lZ_N]
    exact congrArg lZ (by omega)
set_option maxHeartbeats 4000000 in
set_option maxRecDepth 100000 in
theorem qX4_size (l : Launch) (D : va_G) (cy : Nat → ClassId) (h : Nat) (f : Nat) (t : Nat) (n : Nat) (b : Int64) (sl : Int64) (sp : Int64) (so : Int64) (wo : Int64) (F : Nat → Nat) (T : Nat → Nat)   : nq_i l D (cT cy) yX4_size wsX4_size 0 0 0 0 [.ref (h)] ([(h, .inr (4, [.ref (f), .ref (t), .int (nI (n)), .long (b), .long (sl), .long (sp), .long (so), .long (wo)])), (f, .inl (cy 0, 8, .inl (nA F))), (t, .inl (cy 0, 8, .inl (nA T)))]) (fun r w1 => r = nI n ∧ w1 = [(h, .inr (4, [.ref (f), .ref (t), .int (nI (n)), .long (b), .long (sl), .long (sp), .long (so), .long (wo)])), (f, .inl (cy 0, 8, .inl (nA F))), (t, .inl (cy 0, 8, .inl (nA T)))]) := by
  refine nq_i_of (cc := cX4_size) (maxL := 1) (by decide) rfl (Nat.le_of_ble_eq_true rfl) ?_
  intro p e s m args below meth c A Q ls hx hb hts hown hml hnm hN hA hP hK hD hS hl hret
  have hown : s.vm.findClass RX4 = some m.cls := hown
  have hinX4 : ∀ w ∈ u_ws RX4 TX4 8, w ∈ wsX4_size := by decide +kernel
  have hl : lv_has ls 1 [(0, .ref (h))] := hl
  have hP : va_P D vwCl ([(h, .inr (4, [.ref (f), .ref (t), .int (nI (n)), .long (b), .long (sl), .long (sp), .long (so), .long (wo)])), (f, .inl (cy 0, 8, .inl (nA F))), (t, .inl (cy 0, 8, .inl (nA T)))]) s.heap := hP
  refine lv_aload_n hx hb dX4_size_0 rfl (lv_at hl 0 rfl) ?_
  refine va_get (D := D) (ci := 4) (v := .int (nI (n))) (C := RX4) (T := TX4) (N := 8) hx hb hts hinX4 hown hK hP 0 rfl rfl 2 (by decide) (hts (.fieldLink RX4 18 "CornDesk$Line" "count" "I") (by decide +kernel)) (fun _ h9 => h9) rfl dX4_size_1 ?_
  exact hret _ _ _ _ _ _ ⟨rfl, rfl⟩ hP hD hS dX4_size_4
set_option maxHeartbeats 4000000 in
set_option maxRecDepth 100000 in
theorem qX4_lower (l : Launch) (D : va_G) (cy : Nat → ClassId) (h : Nat) (f : Nat) (t : Nat) (n : Nat) (b : Int64) (sl : Int64) (sp : Int64) (so : Int64) (wo : Int64) (F : Nat → Nat) (T : Nat → Nat)   : nq_l l D (cT cy) yX4_lower wsX4_lower 0 0 0 0 [.ref (h)] ([(h, .inr (4, [.ref (f), .ref (t), .int (nI (n)), .long (b), .long (sl), .long (sp), .long (so), .long (wo)])), (f, .inl (cy 0, 8, .inl (nA F))), (t, .inl (cy 0, 8, .inl (nA T)))]) (fun r w1 => r = sp ∧ w1 = [(h, .inr (4, [.ref (f), .ref (t), .int (nI (n)), .long (b), .long (sl), .long (sp), .long (so), .long (wo)])), (f, .inl (cy 0, 8, .inl (nA F))), (t, .inl (cy 0, 8, .inl (nA T)))]) := by
  refine nq_l_of (cc := cX4_lower) (maxL := 1) (by decide) rfl (Nat.le_of_ble_eq_true rfl) ?_
  intro p e s m args below meth c A Q ls hx hb hts hown hml hnm hN hA hP hK hD hS hl hret
  have hown : s.vm.findClass RX4 = some m.cls := hown
  have hinX4 : ∀ w ∈ u_ws RX4 TX4 8, w ∈ wsX4_lower := by decide +kernel
  have hl : lv_has ls 1 [(0, .ref (h))] := hl
  have hP : va_P D vwCl ([(h, .inr (4, [.ref (f), .ref (t), .int (nI (n)), .long (b), .long (sl), .long (sp), .long (so), .long (wo)])), (f, .inl (cy 0, 8, .inl (nA F))), (t, .inl (cy 0, 8, .inl (nA T)))]) s.heap := hP
  refine lv_aload_n hx hb dX4_lower_0 rfl (lv_at hl 0 rfl) ?_
  refine va_get (D := D) (ci := 4) (v := .long (sp)) (C := RX4) (T := TX4) (N := 8) hx hb hts hinX4 hown hK hP 0 rfl rfl 5 (by decide) (hts (.fieldLink RX4 25 "CornDesk$Line" "spread" "J") (by decide +kernel)) (fun _ h9 => h9) rfl dX4_lower_1 ?_
  exact hret _ _ _ _ _ _ ⟨rfl, rfl⟩ hP hD hS dX4_lower_4
set_option maxHeartbeats 4000000 in
set_option maxRecDepth 100000 in
theorem qX4_worst (l : Launch) (D : va_G) (cy : Nat → ClassId) (h : Nat) (f : Nat) (t : Nat) (n : Nat) (b : Int64) (sl : Int64) (sp : Int64) (so : Int64) (wo : Int64) (F : Nat → Nat) (T : Nat → Nat)   : nq_l l D (cT cy) yX4_worst wsX4_worst 0 0 0 0 [.ref (h)] ([(h, .inr (4, [.ref (f), .ref (t), .int (nI (n)), .long (b), .long (sl), .long (sp), .long (so), .long (wo)])), (f, .inl (cy 0, 8, .inl (nA F))), (t, .inl (cy 0, 8, .inl (nA T)))]) (fun r w1 => r = wo ∧ w1 = [(h, .inr (4, [.ref (f), .ref (t), .int (nI (n)), .long (b), .long (sl), .long (sp), .long (so), .long (wo)])), (f, .inl (cy 0, 8, .inl (nA F))), (t, .inl (cy 0, 8, .inl (nA T)))]) := by
  refine nq_l_of (cc := cX4_worst) (maxL := 1) (by decide) rfl (Nat.le_of_ble_eq_true rfl) ?_
  intro p e s m args below meth c A Q ls hx hb hts hown hml hnm hN hA hP hK hD hS hl hret
  have hown : s.vm.findClass RX4 = some m.cls := hown
  have hinX4 : ∀ w ∈ u_ws RX4 TX4 8, w ∈ wsX4_worst := by decide +kernel
  have hl : lv_has ls 1 [(0, .ref (h))] := hl
  have hP : va_P D vwCl ([(h, .inr (4, [.ref (f), .ref (t), .int (nI (n)), .long (b), .long (sl), .long (sp), .long (so), .long (wo)])), (f, .inl (cy 0, 8, .inl (nA F))), (t, .inl (cy 0, 8, .inl (nA T)))]) s.heap := hP
  refine lv_aload_n hx hb dX4_worst_0 rfl (lv_at hl 0 rfl) ?_
  refine va_get (D := D) (ci := 4) (v := .long (wo)) (C := RX4) (T := TX4) (N := 8) hx hb hts hinX4 hown hK hP 0 rfl rfl 7 (by decide) (hts (.fieldLink RX4 48 "CornDesk$Line" "worst" "J") (by decide +kernel)) (fun _ h9 => h9) rfl dX4_worst_1 ?_
  exact hret _ _ _ _ _ _ ⟨rfl, rfl⟩ hP hD hS dX4_worst_4
set_option maxHeartbeats 4000000 in
set_option maxRecDepth 100000 in
theorem qX4_isThere (l : Launch) (D : va_G) (cy : Nat → ClassId) (h : Nat) (f : Nat) (t : Nat) (n : Nat) (b : Int64) (sl : Int64) (sp : Int64) (so : Int64) (wo : Int64) (F : Nat → Nat) (T : Nat → Nat)   : nq_i l D (cT cy) yX4_isThere wsX4_isThere 0 0 0 0 [.ref (h)] ([(h, .inr (4, [.ref (f), .ref (t), .int (nI (n)), .long (b), .long (sl), .long (sp), .long (so), .long (wo)])), (f, .inl (cy 0, 8, .inl (nA F))), (t, .inl (cy 0, 8, .inl (nA T)))]) (fun r w1 => r = bI (0 < sp) ∧ w1 = [(h, .inr (4, [.ref (f), .ref (t), .int (nI (n)), .long (b), .long (sl), .long (sp), .long (so), .long (wo)])), (f, .inl (cy 0, 8, .inl (nA F))), (t, .inl (cy 0, 8, .inl (nA T)))]) := by
  refine nq_z_of (cc := cX4_isThere) (maxL := 1) (by decide) rfl (Nat.le_of_ble_eq_true rfl) ?_
  intro p e s m args below meth c A Q ls hx hb hts hown hml hnm hN hA hP hK hD hS hl hret
  have hown : s.vm.findClass RX4 = some m.cls := hown
  have hinX4 : ∀ w ∈ u_ws RX4 TX4 8, w ∈ wsX4_isThere := by decide +kernel
  have hl : lv_has ls 1 [(0, .ref (h))] := hl
  have hP : va_P D vwCl ([(h, .inr (4, [.ref (f), .ref (t), .int (nI (n)), .long (b), .long (sl), .long (sp), .long (so), .long (wo)])), (f, .inl (cy 0, 8, .inl (nA F))), (t, .inl (cy 0, 8, .inl (nA T)))]) s.heap := hP
  refine lv_aload_n hx hb dX4_isThere_0 rfl (lv_at hl 0 rfl) ?_
  refine va_get (D := D) (ci := 4) (v := .long (sp)) (C := RX4) (T := TX4) (N := 8) hx hb hts hinX4 hown hK hP 0 rfl rfl 5 (by decide) (hts (.fieldLink RX4 25 "CornDesk$Line" "spread" "J") (by decide +kernel)) (fun _ h9 => h9) rfl dX4_isThere_1 ?_
  refine lv_lconst (v := 0) hx hb dX4_isThere_4 (by decide) ?_
  refine W.lcmp hx hb dX4_isThere_5 ?_
  refine lv_if_le (tgt := 13) hx hb dX4_isThere_6 (by decide) (fun c1 => ?_) (fun c1 => ?_)
  · refine lv_iconst (v := (nI (0))) hx hb dX4_isThere_13 (by decide) ?_
    exact hret _ _ _ _ _ _ rfl ⟨bI_f' (fun h => absurd h (Int64.not_lt.mpr ((lg_cmp_le _ _).mp c1))), rfl⟩ hP hD hS dX4_isThere_14
  · refine lv_iconst (v := (nI (1))) hx hb dX4_isThere_9 (by decide) ?_
    refine lv_goto (tgt := 14) hx hb dX4_isThere_10 (by decide) ?_
    exact hret _ _ _ _ _ _ rfl ⟨bI_t' (Int64.not_le.mp (fun h => c1 ((lg_cmp_le _ _).mpr h))), rfl⟩ hP hD hS dX4_isThere_14
set_option maxHeartbeats 4000000 in
set_option maxRecDepth 100000 in
theorem qX4_upperAt (l : Launch) (D : va_G) (cy : Nat → ClassId) (h : Nat) (f : Nat) (t : Nat) (n : Nat) (b : Int64) (sl : Int64) (sp : Int64) (so : Int64) (wo : Int64) (F : Nat → Nat) (T : Nat → Nat) (u : Int32)  : nq_l l D (cT cy) yX4_upperAt wsX4_upperAt 0 0 0 0 [.ref (h), .int (u)] ([(h, .inr (4, [.ref (f), .ref (t), .int (nI (n)), .long (b), .long (sl), .long (sp), .long (so), .long (wo)])), (f, .inl (cy 0, 8, .inl (nA F))), (t, .inl (cy 0, 8, .inl (nA T)))]) (fun r w1 => r = b + sl * u.toInt64 ∧ w1 = [(h, .inr (4, [.ref (f), .ref (t), .int (nI (n)), .long (b), .long (sl), .long (sp), .long (so), .long (wo)])), (f, .inl (cy 0, 8, .inl (nA F))), (t, .inl (cy 0, 8, .inl (nA T)))]) := by
  refine nq_l_of (cc := cX4_upperAt) (maxL := 2) (by decide) rfl (Nat.le_of_ble_eq_true rfl) ?_
  intro p e s m args below meth c A Q ls hx hb hts hown hml hnm hN hA hP hK hD hS hl hret
  have hown : s.vm.findClass RX4 = some m.cls := hown
  have hinX4 : ∀ w ∈ u_ws RX4 TX4 8, w ∈ wsX4_upperAt := by decide +kernel
  have hl : lv_has ls 2 [(0, .ref (h)), (1, .int (u))] := hl
  have hP : va_P D vwCl ([(h, .inr (4, [.ref (f), .ref (t), .int (nI (n)), .long (b), .long (sl), .long (sp), .long (so), .long (wo)])), (f, .inl (cy 0, 8, .inl (nA F))), (t, .inl (cy 0, 8, .inl (nA T)))]) s.heap := hP
  refine lv_aload_n hx hb dX4_upperAt_0 rfl (lv_at hl 0 rfl) ?_
  refine va_get (D := D) (ci := 4) (v := .long (b)) (C := RX4) (T := TX4) (N := 8) hx hb hts hinX4 hown hK hP 0 rfl rfl 3 (by decide) (hts (.fieldLink RX4 29 "CornDesk$Line" "base" "J") (by decide +kernel)) (fun _ h9 => h9) rfl dX4_upperAt_1 ?_
  refine lv_aload_n hx hb dX4_upperAt_4 rfl (lv_at hl 0 rfl) ?_
  refine va_get (D := D) (ci := 4) (v := .long (sl)) (C := RX4) (T := TX4) (N := 8) hx hb hts hinX4 hown hK hP 0 rfl rfl 4 (by decide) (hts (.fieldLink RX4 32 "CornDesk$Line" "slope" "J") (by decide +kernel)) (fun _ h9 => h9) rfl dX4_upperAt_5 ?_
  refine lv_iload_n hx hb dX4_upperAt_8 rfl (lv_at hl 1 rfl) ?_
  refine lv_i2l hx hb dX4_upperAt_9 rfl ?_
  refine lv_lmul hx hb dX4_upperAt_10 ?_
  refine lv_ladd hx hb dX4_upperAt_11 ?_
  exact hret _ _ _ _ _ _ ⟨rfl, rfl⟩ hP hD hS dX4_upperAt_12
set_option maxHeartbeats 4000000 in
set_option maxRecDepth 100000 in
theorem qX4_missUpper (l : Launch) (D : va_G) (cy : Nat → ClassId) (h : Nat) (f : Nat) (t : Nat) (n : Nat) (b : Int64) (sl : Int64) (sp : Int64) (so : Int64) (wo : Int64) (F : Nat → Nat) (T : Nat → Nat)   : nq_l l D (cT cy) yX4_missUpper wsX4_missUpper 0 0 0 0 [.ref (h)] ([(h, .inr (4, [.ref (f), .ref (t), .int (nI (n)), .long (b), .long (sl), .long (sp), .long (so), .long (wo)])), (f, .inl (cy 0, 8, .inl (nA F))), (t, .inl (cy 0, 8, .inl (nA T)))]) (fun r w1 => r = sp * so - sl * sl ∧ w1 = [(h, .inr (4, [.ref (f), .ref (t), .int (nI (n)), .long (b), .long (sl), .long (sp), .long (so), .long (wo)])), (f, .inl (cy 0, 8, .inl (nA F))), (t, .inl (cy 0, 8, .inl (nA T)))]) := by
  refine nq_l_of (cc := cX4_missUpper) (maxL := 1) (by decide) rfl (Nat.le_of_ble_eq_true rfl) ?_
  intro p e s m args below meth c A Q ls hx hb hts hown hml hnm hN hA hP hK hD hS hl hret
  have hown : s.vm.findClass RX4 = some m.cls := hown
  have hinX4 : ∀ w ∈ u_ws RX4 TX4 8, w ∈ wsX4_missUpper := by decide +kernel
  have hl : lv_has ls 1 [(0, .ref (h))] := hl
  have hP : va_P D vwCl ([(h, .inr (4, [.ref (f), .ref (t), .int (nI (n)), .long (b), .long (sl), .long (sp), .long (so), .long (wo)])), (f, .inl (cy 0, 8, .inl (nA F))), (t, .inl (cy 0, 8, .inl (nA T)))]) s.heap := hP
  refine lv_aload_n hx hb dX4_missUpper_0 rfl (lv_at hl 0 rfl) ?_
  refine va_get (D := D) (ci := 4) (v := .long (sp)) (C := RX4) (T := TX4) (N := 8) hx hb hts hinX4 hown hK hP 0 rfl rfl 5 (by decide) (hts (.fieldLink RX4 25 "CornDesk$Line" "spread" "J") (by decide +kernel)) (fun _ h9 => h9) rfl dX4_missUpper_1 ?_
  refine lv_aload_n hx hb dX4_missUpper_4 rfl (lv_at hl 0 rfl) ?_
  refine va_get (D := D) (ci := 4) (v := .long (so)) (C := RX4) (T := TX4) (N := 8) hx hb hts hinX4 hown hK hP 0 rfl rfl 6 (by decide) (hts (.fieldLink RX4 45 "CornDesk$Line" "spreadTo" "J") (by decide +kernel)) (fun _ h9 => h9) rfl dX4_missUpper_5 ?_
  refine lv_lmul hx hb dX4_missUpper_8 ?_
  refine lv_aload_n hx hb dX4_missUpper_9 rfl (lv_at hl 0 rfl) ?_
  refine va_get (D := D) (ci := 4) (v := .long (sl)) (C := RX4) (T := TX4) (N := 8) hx hb hts hinX4 hown hK hP 0 rfl rfl 4 (by decide) (hts (.fieldLink RX4 32 "CornDesk$Line" "slope" "J") (by decide +kernel)) (fun _ h9 => h9) rfl dX4_missUpper_10 ?_
  refine lv_aload_n hx hb dX4_missUpper_13 rfl (lv_at hl 0 rfl) ?_
  refine va_get (D := D) (ci := 4) (v := .long (sl)) (C := RX4) (T := TX4) (N := 8) hx hb hts hinX4 hown hK hP 0 rfl rfl 4 (by decide) (hts (.fieldLink RX4 32 "CornDesk$Line" "slope" "J") (by decide +kernel)) (fun _ h9 => h9) rfl dX4_missUpper_14 ?_
  refine lv_lmul hx hb dX4_missUpper_17 ?_
  refine lv_lsub hx hb dX4_missUpper_18 ?_
  exact hret _ _ _ _ _ _ ⟨rfl, rfl⟩ hP hD hS dX4_missUpper_19
set_option maxHeartbeats 4000000 in
set_option maxRecDepth 100000 in
theorem qX4_missLower (l : Launch) (D : va_G) (cy : Nat → ClassId) (h : Nat) (f : Nat) (t : Nat) (n : Nat) (b : Int64) (sl : Int64) (sp : Int64) (so : Int64) (wo : Int64) (F : Nat → Nat) (T : Nat → Nat)   : nq_l l D (cT cy) yX4_missLower wsX4_missLower 0 0 0 0 [.ref (h)] ([(h, .inr (4, [.ref (f), .ref (t), .int (nI (n)), .long (b), .long (sl), .long (sp), .long (so), .long (wo)])), (f, .inl (cy 0, 8, .inl (nA F))), (t, .inl (cy 0, 8, .inl (nA T)))]) (fun r w1 => r = sp * (nI n).toInt64 ∧ w1 = [(h, .inr (4, [.ref (f), .ref (t), .int (nI (n)), .long (b), .long (sl), .long (sp), .long (so), .long (wo)])), (f, .inl (cy 0, 8, .inl (nA F))), (t, .inl (cy 0, 8, .inl (nA T)))]) := by
  refine nq_l_of (cc := cX4_missLower) (maxL := 1) (by decide) rfl (Nat.le_of_ble_eq_true rfl) ?_
  intro p e s m args below meth c A Q ls hx hb hts hown hml hnm hN hA hP hK hD hS hl hret
  have hown : s.vm.findClass RX4 = some m.cls := hown
  have hinX4 : ∀ w ∈ u_ws RX4 TX4 8, w ∈ wsX4_missLower := by decide +kernel
  have hl : lv_has ls 1 [(0, .ref (h))] := hl
  have hP : va_P D vwCl ([(h, .inr (4, [.ref (f), .ref (t), .int (nI (n)), .long (b), .long (sl), .long (sp), .long (so), .long (wo)])), (f, .inl (cy 0, 8, .inl (nA F))), (t, .inl (cy 0, 8, .inl (nA T)))]) s.heap := hP
  refine lv_aload_n hx hb dX4_missLower_0 rfl (lv_at hl 0 rfl) ?_
  refine va_get (D := D) (ci := 4) (v := .long (sp)) (C := RX4) (T := TX4) (N := 8) hx hb hts hinX4 hown hK hP 0 rfl rfl 5 (by decide) (hts (.fieldLink RX4 25 "CornDesk$Line" "spread" "J") (by decide +kernel)) (fun _ h9 => h9) rfl dX4_missLower_1 ?_
  refine lv_aload_n hx hb dX4_missLower_4 rfl (lv_at hl 0 rfl) ?_
  refine va_get (D := D) (ci := 4) (v := .int (nI (n))) (C := RX4) (T := TX4) (N := 8) hx hb hts hinX4 hown hK hP 0 rfl rfl 2 (by decide) (hts (.fieldLink RX4 18 "CornDesk$Line" "count" "I") (by decide +kernel)) (fun _ h9 => h9) rfl dX4_missLower_5 ?_
  refine lv_i2l hx hb dX4_missLower_8 rfl ?_
  refine lv_lmul hx hb dX4_missLower_9 ?_
  exact hret _ _ _ _ _ _ ⟨rfl, rfl⟩ hP hD hS dX4_missLower_10
set_option maxHeartbeats 4000000 in
set_option maxRecDepth 100000 in
theorem qX4_latestFrom (l : Launch) (D : va_G) (cy : Nat → ClassId) (h : Nat) (f : Nat) (t : Nat) (n : Nat) (b : Int64) (sl : Int64) (sp : Int64) (so : Int64) (wo : Int64) (F : Nat → Nat) (T : Nat → Nat)  (hn : n ≤ 8) : nq_i l D (cT cy) yX4_latestFrom wsX4_latestFrom 0 0 0 0 [.ref (h)] ([(h, .inr (4, [.ref (f), .ref (t), .int (nI (n)), .long (b), .long (sl), .long (sp), .long (so), .long (wo)])), (f, .inl (cy 0, 8, .inl (nA F))), (t, .inl (cy 0, 8, .inl (nA T)))]) (fun r w1 => r = nI (if 0 < n then F (n - 1) else 0) ∧ w1 = [(h, .inr (4, [.ref (f), .ref (t), .int (nI (n)), .long (b), .long (sl), .long (sp), .long (so), .long (wo)])), (f, .inl (cy 0, 8, .inl (nA F))), (t, .inl (cy 0, 8, .inl (nA T)))]) := by
  refine nq_i_of (cc := cX4_latestFrom) (maxL := 1) (by decide) rfl (Nat.le_of_ble_eq_true rfl) ?_
  intro p e s m args below meth c A Q ls hx hb hts hown hml hnm hN hA hP hK hD hS hl hret
  have hown : s.vm.findClass RX4 = some m.cls := hown
  have hinX4 : ∀ w ∈ u_ws RX4 TX4 8, w ∈ wsX4_latestFrom := by decide +kernel
  have hl : lv_has ls 1 [(0, .ref (h))] := hl
  have hP : va_P D vwCl ([(h, .inr (4, [.ref (f), .ref (t), .int (nI (n)), .long (b), .long (sl), .long (sp), .long (so), .long (wo)])), (f, .inl (cy 0, 8, .inl (nA F))), (t, .inl (cy 0, 8, .inl (nA T)))]) s.heap := hP
  refine lv_aload_n hx hb dX4_latestFrom_0 rfl (lv_at hl 0 rfl) ?_
  refine va_get (D := D) (ci := 4) (v := .int (nI (n))) (C := RX4) (T := TX4) (N := 8) hx hb hts hinX4 hown hK hP 0 rfl rfl 2 (by decide) (hts (.fieldLink RX4 18 "CornDesk$Line" "count" "I") (by decide +kernel)) (fun _ h9 => h9) rfl dX4_latestFrom_1 ?_
  rcases Nat.eq_zero_or_pos n with q0 | q0
  · refine lv_if_le (tgt := 21) hx hb dX4_latestFrom_4 (by decide) (fun _ => ?_) (fun cc => absurd (show nI n ≤ 0 by rw [q0]; decide) cc)
    refine lv_iconst (v := (nI (0))) hx hb dX4_latestFrom_21 (by decide) ?_
    exact hret _ _ _ _ _ _ ⟨by rw [if_neg (by omega)], rfl⟩ hP hD hS dX4_latestFrom_22
  · refine lv_if_le (tgt := 21) hx hb dX4_latestFrom_4 (by decide) (fun cc => absurd cc (nI_nle q0 (by omega))) (fun _ => ?_)
    refine lv_aload_n hx hb dX4_latestFrom_7 rfl (lv_at hl 0 rfl) ?_
    refine va_get (D := D) (ci := 4) (v := .ref (f)) (C := RX4) (T := TX4) (N := 8) hx hb hts hinX4 hown hK hP 0 rfl rfl 0 (by decide) (hts (.fieldLink RX4 9 "CornDesk$Line" "from" "[I") (by decide +kernel)) (fun _ h9 => h9) rfl dX4_latestFrom_8 ?_
    refine lv_aload_n hx hb dX4_latestFrom_11 rfl (lv_at hl 0 rfl) ?_
    refine va_get (D := D) (ci := 4) (v := .int (nI (n))) (C := RX4) (T := TX4) (N := 8) hx hb hts hinX4 hown hK hP 0 rfl rfl 2 (by decide) (hts (.fieldLink RX4 18 "CornDesk$Line" "count" "I") (by decide +kernel)) (fun _ h9 => h9) rfl dX4_latestFrom_12 ?_
    refine lv_iconst (v := (nI (1))) hx hb dX4_latestFrom_15 (by decide) ?_
    refine ln_isub hx hb dX4_latestFrom_16 (by omega) ?_
    refine ln_iald hx hb hK hP 1 0 rfl rfl (by decide) (by omega) dX4_latestFrom_17 ?_
    refine lv_goto (tgt := 22) hx hb dX4_latestFrom_18 (by decide) ?_
    exact hret _ _ _ _ _ _ ⟨by rw [if_pos (by omega)]; rfl, rfl⟩ hP hD hS dX4_latestFrom_22
set_option maxHeartbeats 4000000 in
set_option maxRecDepth 100000 in
theorem qX4_latestTo (l : Launch) (D : va_G) (cy : Nat → ClassId) (h : Nat) (f : Nat) (t : Nat) (n : Nat) (b : Int64) (sl : Int64) (sp : Int64) (so : Int64) (wo : Int64) (F : Nat → Nat) (T : Nat → Nat)  (hn : n ≤ 8) : nq_i l D (cT cy) yX4_latestTo wsX4_latestTo 0 0 0 0 [.ref (h)] ([(h, .inr (4, [.ref (f), .ref (t), .int (nI (n)), .long (b), .long (sl), .long (sp), .long (so), .long (wo)])), (f, .inl (cy 0, 8, .inl (nA F))), (t, .inl (cy 0, 8, .inl (nA T)))]) (fun r w1 => r = nI (if 0 < n then T (n - 1) else 0) ∧ w1 = [(h, .inr (4, [.ref (f), .ref (t), .int (nI (n)), .long (b), .long (sl), .long (sp), .long (so), .long (wo)])), (f, .inl (cy 0, 8, .inl (nA F))), (t, .inl (cy 0, 8, .inl (nA T)))]) := by
  refine nq_i_of (cc := cX4_latestTo) (maxL := 1) (by decide) rfl (Nat.le_of_ble_eq_true rfl) ?_
  intro p e s m args below meth c A Q ls hx hb hts hown hml hnm hN hA hP hK hD hS hl hret
  have hown : s.vm.findClass RX4 = some m.cls := hown
  have hinX4 : ∀ w ∈ u_ws RX4 TX4 8, w ∈ wsX4_latestTo := by decide +kernel
  have hl : lv_has ls 1 [(0, .ref (h))] := hl
  have hP : va_P D vwCl ([(h, .inr (4, [.ref (f), .ref (t), .int (nI (n)), .long (b), .long (sl), .long (sp), .long (so), .long (wo)])), (f, .inl (cy 0, 8, .inl (nA F))), (t, .inl (cy 0, 8, .inl (nA T)))]) s.heap := hP
  refine lv_aload_n hx hb dX4_latestTo_0 rfl (lv_at hl 0 rfl) ?_
  refine va_get (D := D) (ci := 4) (v := .int (nI (n))) (C := RX4) (T := TX4) (N := 8) hx hb hts hinX4 hown hK hP 0 rfl rfl 2 (by decide) (hts (.fieldLink RX4 18 "CornDesk$Line" "count" "I") (by decide +kernel)) (fun _ h9 => h9) rfl dX4_latestTo_1 ?_
  rcases Nat.eq_zero_or_pos n with q0 | q0
  · refine lv_if_le (tgt := 21) hx hb dX4_latestTo_4 (by decide) (fun _ => ?_) (fun cc => absurd (show nI n ≤ 0 by rw [q0]; decide) cc)
    refine lv_iconst (v := (nI (0))) hx hb dX4_latestTo_21 (by decide) ?_
    exact hret _ _ _ _ _ _ ⟨by rw [if_neg (by omega)], rfl⟩ hP hD hS dX4_latestTo_22
  · refine lv_if_le (tgt := 21) hx hb dX4_latestTo_4 (by decide) (fun cc => absurd cc (nI_nle q0 (by omega))) (fun _ => ?_)
    refine lv_aload_n hx hb dX4_latestTo_7 rfl (lv_at hl 0 rfl) ?_
    refine va_get (D := D) (ci := 4) (v := .ref (t)) (C := RX4) (T := TX4) (N := 8) hx hb hts hinX4 hown hK hP 0 rfl rfl 1 (by decide) (hts (.fieldLink RX4 15 "CornDesk$Line" "to" "[I") (by decide +kernel)) (fun _ h9 => h9) rfl dX4_latestTo_8 ?_
    refine lv_aload_n hx hb dX4_latestTo_11 rfl (lv_at hl 0 rfl) ?_
    refine va_get (D := D) (ci := 4) (v := .int (nI (n))) (C := RX4) (T := TX4) (N := 8) hx hb hts hinX4 hown hK hP 0 rfl rfl 2 (by decide) (hts (.fieldLink RX4 18 "CornDesk$Line" "count" "I") (by decide +kernel)) (fun _ h9 => h9) rfl dX4_latestTo_12 ?_
    refine lv_iconst (v := (nI (1))) hx hb dX4_latestTo_15 (by decide) ?_
    refine ln_isub hx hb dX4_latestTo_16 (by omega) ?_
    refine ln_iald hx hb hK hP 2 0 rfl rfl (by decide) (by omega) dX4_latestTo_17 ?_
    refine lv_goto (tgt := 22) hx hb dX4_latestTo_18 (by decide) ?_
    exact hret _ _ _ _ _ _ ⟨by rw [if_pos (by omega)]; rfl, rfl⟩ hP hD hS dX4_latestTo_22
set_option maxHeartbeats 4000000 in
set_option maxRecDepth 100000 in
theorem qX4_measureWorst (l : Launch) (D : va_G) (cy : Nat → ClassId) (h : Nat) (f : Nat) (t : Nat) (n : Nat) (b : Int64) (sl : Int64) (sp : Int64) (so : Int64) (wo : Int64) (F : Nat → Nat) (T : Nat → Nat)  (hn : n ≤ 8) (hF : w9 F n) (hT : w9 T n) (ib : b = lZ (vBs F T n)) (il : sl = lZ (vSl F T n)) (ip : sp = lZ (vSp F n))  : nq_v l D (cT cy) yX4_measureWorst wsX4_measureWorst 1 0 0 26 [.ref (h)] ([(h, .inr (4, [.ref (f), .ref (t), .int (nI (n)), .long (b), .long (sl), .long (sp), .long (so), .long (wo)])), (f, .inl (cy 0, 8, .inl (nA F))), (t, .inl (cy 0, 8, .inl (nA T)))]) (fun w1 => w1 = [(h, .inr (4, [.ref (f), .ref (t), .int (nI (n)), .long (b), .long (sl), .long (sp), .long (so), .long (lN (vWo F T n))])), (f, .inl (cy 0, 8, .inl (nA F))), (t, .inl (cy 0, 8, .inl (nA T)))]) := by
  refine nq_v_of (cc := cX4_measureWorst) (maxL := 4) (by decide) rfl (Nat.le_of_ble_eq_true rfl) ?_
  intro p e s m args below meth c A Q ls hx hb hts hown hml hnm hN hA hP hK hD hS hl hret
  have hown : s.vm.findClass RX4 = some m.cls := hown
  have hinX4 : ∀ w ∈ u_ws RX4 TX4 8, w ∈ wsX4_measureWorst := by decide +kernel
  have hl : lv_has ls 4 [(0, .ref (h))] := hl
  have hP : va_P D vwCl ([(h, .inr (4, [.ref (f), .ref (t), .int (nI (n)), .long (b), .long (sl), .long (sp), .long (so), .long (wo)])), (f, .inl (cy 0, 8, .inl (nA F))), (t, .inl (cy 0, 8, .inl (nA T)))]) s.heap := hP
  subst ib
  subst il
  subst ip
  have bSp := vSp_b hn hF
  refine lv_aload_n hx hb dX4_measureWorst_0 rfl (lv_at hl 0 rfl) ?_
  refine lv_lconst (v := 0) hx hb dX4_measureWorst_1 (by decide) ?_
  refine va_put (D := D) (ci := 4) (v := .long (0)) (ty := .long) (C := RX4) (T := TX4) (N := 8) hx hb hts hinX4 tyX4 tyX4_ok nmX4 hown hK hP hD hS 0 rfl rfl 7 (by decide) (hts (.fieldLink RX4 48 "CornDesk$Line" "worst" "J") (by decide +kernel)) (fun _ h9 => h9) rfl (by decide +kernel) rfl rfl (Nat.le_of_ble_eq_true rfl) dX4_measureWorst_2 (fun H locs hP hD hS => ?_)
  have hP : va_P D vwCl ([(h, .inr (4, [.ref (f), .ref (t), .int (nI (n)), .long (lZ (vBs F T n)), .long (lZ (vSl F T n)), .long (lZ (vSp F n)), .long (so), .long (0)])), (f, .inl (cy 0, 8, .inl (nA F))), (t, .inl (cy 0, 8, .inl (nA T)))]) H := hP
  have hD : va_D A ([(h, .inr (4, [.ref (f), .ref (t), .int (nI (n)), .long (lZ (vBs F T n)), .long (lZ (vSl F T n)), .long (lZ (vSp F n)), .long (so), .long (0)])), (f, .inl (cy 0, 8, .inl (nA F))), (t, .inl (cy 0, 8, .inl (nA T)))]) := hD
  refine lv_aload_n hx hb dX4_measureWorst_5 rfl (lv_at hl 0 rfl) ?_
  refine va_get (D := D) (ci := 4) (v := .long (lZ (vSp F n))) (C := RX4) (T := TX4) (N := 8) hx hb hts hinX4 hown hK hP 0 rfl rfl 5 (by decide) (hts (.fieldLink RX4 25 "CornDesk$Line" "spread" "J") (by decide +kernel)) (fun _ h9 => h9) rfl dX4_measureWorst_6 ?_
  refine lv_lconst (v := 0) hx hb dX4_measureWorst_9 (by decide) ?_
  refine W.lcmp hx hb dX4_measureWorst_10 ?_
  refine lv_if_gt (tgt := 15) hx hb dX4_measureWorst_11 (by decide) (fun c1 => ?_) (fun c1 => ?_)
  · have h0 : 0 < vSp F n := (lZ_lt (x := 0) (y := vSp F n) (by omega) (by omega)).mp ((lg_cmp_gt _ _).mp c1)
    have eS : lZ (vSp F n) = lN (vSp F n).toNat := by rw [lZ_N]; exact congrArg lZ (by omega)
    refine lv_iconst (v := (nI (0))) hx hb dX4_measureWorst_15 (by decide) ?_
    refine lv_istore_n (lv' := [(1, .int (nI (0))), (0, .ref (h))]) hx hb dX4_measureWorst_16 rfl hl (by decide) rfl (fun ls hl => ?_)
    have lp : ∀ (i : Nat) (k : Nat), (k + i = n) → ∀ (H : Heap) (locs : List Loc) (ls : Array Slot), va_P D vwCl ([(h, .inr (4, [.ref (f), .ref (t), .int (nI (n)), .long (lZ (vBs F T n)), .long (lZ (vSl F T n)), .long (lZ (vSp F n)), .long (so), .long (lN (mxG (vWF F T n) 0 k))])), (f, .inl (cy 0, 8, .inl (nA F))), (t, .inl (cy 0, 8, .inl (nA T)))]) H → va_D A ([(h, .inr (4, [.ref (f), .ref (t), .int (nI (n)), .long (lZ (vBs F T n)), .long (lZ (vSl F T n)), .long (lZ (vSp F n)), .long (so), .long (lN (mxG (vWF F T n) 0 k))])), (f, .inl (cy 0, 8, .inl (nA F))), (t, .inl (cy 0, 8, .inl (nA T)))]) → va_S A s.heap H locs → lv_has ls 4 [(1, .int (nI (k))), (0, .ref (h))] → W p l e (mq_R 1 0 0 26) s m args below meth c H locs 0 0 Q (F0 m 17 ls []) := by
      intro i
      induction i with
      | zero =>
        intro k hk H locs ls hP hD hS hl
        refine lv_iload_n hx hb dX4_measureWorst_17 rfl (lv_at hl 0 rfl) ?_
        refine lv_aload_n hx hb dX4_measureWorst_18 rfl (lv_at hl 1 rfl) ?_
        refine va_get (D := D) (ci := 4) (v := .int (nI (n))) (C := RX4) (T := TX4) (N := 8) hx hb hts hinX4 hown hK hP 0 rfl rfl 2 (by decide) (hts (.fieldLink RX4 18 "CornDesk$Line" "count" "I") (by decide +kernel)) (fun _ h9 => h9) rfl dX4_measureWorst_19 ?_
        refine ln_icmp_ge (tgt := 82) hx hb dX4_measureWorst_22 (by decide) (by omega) (by omega) (fun c2 => ?_) (fun c2 => ?_)
        · have hk0 : k = n := by omega
          subst hk0
          exact hret _ _ _ _ _ (by rw [show vWo F T k = mxG (vWF F T k) 0 k from if_pos h0]) hP hD hS dX4_measureWorst_82
        · exact absurd hk (by omega)
      | succ i ih =>
        intro k hk H locs ls hP hD hS hl
        refine lv_iload_n hx hb dX4_measureWorst_17 rfl (lv_at hl 0 rfl) ?_
        refine lv_aload_n hx hb dX4_measureWorst_18 rfl (lv_at hl 1 rfl) ?_
        refine va_get (D := D) (ci := 4) (v := .int (nI (n))) (C := RX4) (T := TX4) (N := 8) hx hb hts hinX4 hown hK hP 0 rfl rfl 2 (by decide) (hts (.fieldLink RX4 18 "CornDesk$Line" "count" "I") (by decide +kernel)) (fun _ h9 => h9) rfl dX4_measureWorst_19 ?_
        refine ln_icmp_ge (tgt := 82) hx hb dX4_measureWorst_22 (by decide) (by omega) (by omega) (fun c2 => ?_) (fun c2 => ?_)
        · exact absurd hk (by omega)
        · have hkn : k < n := by omega
          have fk := hF k hkn
          have tk9 := hT k hkn
          have bL := vLf_b hn hF hT hkn
          have bW := vWF_b hn hF hT hkn h0
          have bM : mxG (vWF F T n) 0 k ≤ 400000000000 := mxG_b (by omega) (fun j hj => vWF_b hn hF hT (by omega) h0)
          refine lv_aload_n hx hb dX4_measureWorst_25 rfl (lv_at hl 1 rfl) ?_
          refine va_get (D := D) (ci := 4) (v := .ref (t)) (C := RX4) (T := TX4) (N := 8) hx hb hts hinX4 hown hK hP 0 rfl rfl 1 (by decide) (hts (.fieldLink RX4 15 "CornDesk$Line" "to" "[I") (by decide +kernel)) (fun _ h9 => h9) rfl dX4_measureWorst_26 ?_
          refine lv_iload_n hx hb dX4_measureWorst_29 rfl (lv_at hl 0 rfl) ?_
          refine ln_iald hx hb hK hP 2 0 rfl rfl (by decide) (by omega) dX4_measureWorst_30 ?_
          refine lv_i2l hx hb dX4_measureWorst_31 rfl ?_
          refine ln_eql (y := (lZ ((T k : Nat) : Int))) (nI_lZ (by omega)) ?_
          refine lv_aload_n hx hb dX4_measureWorst_32 rfl (lv_at hl 1 rfl) ?_
          refine va_get (D := D) (ci := 4) (v := .long (lZ (vSp F n))) (C := RX4) (T := TX4) (N := 8) hx hb hts hinX4 hown hK hP 0 rfl rfl 5 (by decide) (hts (.fieldLink RX4 25 "CornDesk$Line" "spread" "J") (by decide +kernel)) (fun _ h9 => h9) rfl dX4_measureWorst_33 ?_
          refine lv_lmul hx hb dX4_measureWorst_36 ?_
          refine lv_aload_n hx hb dX4_measureWorst_37 rfl (lv_at hl 1 rfl) ?_
          refine lv_aload_n hx hb dX4_measureWorst_38 rfl (lv_at hl 1 rfl) ?_
          refine va_get (D := D) (ci := 4) (v := .ref (f)) (C := RX4) (T := TX4) (N := 8) hx hb hts hinX4 hown hK hP 0 rfl rfl 0 (by decide) (hts (.fieldLink RX4 9 "CornDesk$Line" "from" "[I") (by decide +kernel)) (fun _ h9 => h9) rfl dX4_measureWorst_39 ?_
          refine lv_iload_n hx hb dX4_measureWorst_42 rfl (lv_at hl 0 rfl) ?_
          refine ln_iald hx hb hK hP 1 0 rfl rfl (by decide) (by omega) dX4_measureWorst_43 ?_
          refine nq_Vl (As := [.int (nI (F (k)))]) (rest := [.long ((lZ ((T k : Nat) : Int)) * (lZ (vSp F n)))]) (w := [(h, .inr (4, [.ref (f), .ref (t), .int (nI (n)), .long (lZ (vBs F T n)), .long (lZ (vSl F T n)), .long (lZ (vSp F n)), .long (so), .long (lN (mxG (vWF F T n) 0 k))])), (f, .inl (cy 0, 8, .inl (nA F))), (t, .inl (cy 0, 8, .inl (nA T)))]) (wr := []) (ci := 4) (k0 := 0) ⟨hx, hb, hml, hown, hts⟩ (qX4_upperAt l D cy h f t n (lZ (vBs F T n)) (lZ (vSl F T n)) (lZ (vSp F n)) so (lN (mxG (vWF F T n) 0 k)) F T (nI (F (k))) ) (cwV 1 hts gX4_measureWorst_X4_upperAt rfl rfl rfl (by decide +kernel) ⟨Nat.le_of_ble_eq_true rfl, Nat.le_of_ble_eq_true rfl⟩) rfl rfl hP hK hD hN hS hA rfl hl.1 rfl (Nat.le_of_ble_eq_true rfl) dX4_measureWorst_44 ⟨Nat.le_of_ble_eq_true rfl, Nat.le_of_ble_eq_true rfl⟩ (fun r w1 H locs hq hP hD hS => ?_)
          obtain ⟨rfl, rfl⟩ := hq
          have hP : va_P D vwCl ([(h, .inr (4, [.ref (f), .ref (t), .int (nI (n)), .long (lZ (vBs F T n)), .long (lZ (vSl F T n)), .long (lZ (vSp F n)), .long (so), .long (lN (mxG (vWF F T n) 0 k))])), (f, .inl (cy 0, 8, .inl (nA F))), (t, .inl (cy 0, 8, .inl (nA T)))]) H := hP
          have hD : va_D A ([(h, .inr (4, [.ref (f), .ref (t), .int (nI (n)), .long (lZ (vBs F T n)), .long (lZ (vSl F T n)), .long (lZ (vSp F n)), .long (so), .long (lN (mxG (vWF F T n) 0 k))])), (f, .inl (cy 0, 8, .inl (nA F))), (t, .inl (cy 0, 8, .inl (nA T)))]) := hD
          refine ln_eql (y := (lZ (vUp F T n (F k : Nat)))) (by rw [show (nI (F k)).toInt64 = lZ ((F k : Nat) : Int) from nI_lZ (by omega), lZ_mul, lZ_add]; rfl) ?_
          refine lv_lsub hx hb dX4_measureWorst_47 ?_
          refine ln_eql (y := (lZ (vLf F T n k))) (by rw [lZ_mul, lZ_sub]; rfl) ?_
          refine va_mabs_long hx hb (hml.trans hl.1.symm) hown (hts (.methodLink RX4 54 Lib.MathLoose.abs_long.x) (by decide +kernel)) (hts (.static Lib.MathLoose.abs_long.x) (by decide +kernel)) (hts (.initialized "java/lang/Math") (by decide +kernel)) (hts (.code Lib.MathLoose.abs_long.x Lib.MathLoose.abs_long.code 2 (some .long)) (by decide +kernel)) (Nat.le_of_ble_eq_true rfl) (Nat.le_of_ble_eq_true rfl) (Nat.le_of_ble_eq_true rfl) (Nat.le_of_ble_eq_true rfl) dX4_measureWorst_48 ?_
          refine ln_eql (y := (lN (vLf F T n k).natAbs)) (abs_L (by omega)) ?_
          refine lv_lstore_n (lv' := [(2, .long (lN (vLf F T n k).natAbs)), (1, .int (nI (k))), (0, .ref (h))]) hx hb dX4_measureWorst_51 rfl hl (by decide) rfl (fun ls hl => ?_)
          refine lv_aload_n hx hb dX4_measureWorst_52 rfl (lv_at hl 2 rfl) ?_
          refine lv_aload_n hx hb dX4_measureWorst_53 rfl (lv_at hl 2 rfl) ?_
          refine va_get (D := D) (ci := 4) (v := .long (lN (mxG (vWF F T n) 0 k))) (C := RX4) (T := TX4) (N := 8) hx hb hts hinX4 hown hK hP 0 rfl rfl 7 (by decide) (hts (.fieldLink RX4 48 "CornDesk$Line" "worst" "J") (by decide +kernel)) (fun _ h9 => h9) rfl dX4_measureWorst_54 ?_
          refine lv_lload_n hx hb dX4_measureWorst_57 rfl (lv_at hl 0 rfl) ?_
          refine lv_aload_n hx hb dX4_measureWorst_58 rfl (lv_at hl 2 rfl) ?_
          refine va_get (D := D) (ci := 4) (v := .long (lZ (vSp F n))) (C := RX4) (T := TX4) (N := 8) hx hb hts hinX4 hown hK hP 0 rfl rfl 5 (by decide) (hts (.fieldLink RX4 25 "CornDesk$Line" "spread" "J") (by decide +kernel)) (fun _ h9 => h9) rfl dX4_measureWorst_59 ?_
          refine ln_eql (y := (lN (vSp F n).toNat)) eS ?_
          refine lv_ladd hx hb dX4_measureWorst_62 ?_
          refine ln_eql (y := (lN ((vLf F T n k).natAbs + (vSp F n).toNat))) (lN_add _ _) ?_
          refine lv_lconst (v := 1) hx hb dX4_measureWorst_63 (by decide) ?_
          refine lv_lsub hx hb dX4_measureWorst_64 ?_
          refine ln_eql (y := (lN ((vLf F T n k).natAbs + (vSp F n).toNat - 1))) (lN_sub (b := 1) (by omega)) ?_
          refine lv_aload_n hx hb dX4_measureWorst_65 rfl (lv_at hl 2 rfl) ?_
          refine va_get (D := D) (ci := 4) (v := .long (lZ (vSp F n))) (C := RX4) (T := TX4) (N := 8) hx hb hts hinX4 hown hK hP 0 rfl rfl 5 (by decide) (hts (.fieldLink RX4 25 "CornDesk$Line" "spread" "J") (by decide +kernel)) (fun _ h9 => h9) rfl dX4_measureWorst_66 ?_
          refine ln_eql (y := (lN (vSp F n).toNat)) eS ?_
          refine lv_ldiv hx hb dX4_measureWorst_69 (fun q => by have := (lN0 (by omega)).mp q; omega) ?_
          refine ln_eql (y := (lN (vWF F T n k))) (pk_lDiv (by omega) (by omega) (by omega)) ?_
          refine va_mmax_long hx hb (hml.trans hl.1.symm) hown (hts (.methodLink RX4 58 Lib.MathLoose.max_long.x) (by decide +kernel)) (hts (.static Lib.MathLoose.max_long.x) (by decide +kernel)) (hts (.initialized "java/lang/Math") (by decide +kernel)) (hts (.code Lib.MathLoose.max_long.x Lib.MathLoose.max_long.code 4 (some .long)) (by decide +kernel)) (Nat.le_of_ble_eq_true rfl) (Nat.le_of_ble_eq_true rfl) (Nat.le_of_ble_eq_true rfl) (Nat.le_of_ble_eq_true rfl) dX4_measureWorst_70 ?_
          refine ln_eql (y := (lN (mxG (vWF F T n) 0 (k + 1)))) (max_L (by omega) (by omega)) ?_
          refine va_put (D := D) (ci := 4) (v := .long (lN (mxG (vWF F T n) 0 (k + 1)))) (ty := .long) (C := RX4) (T := TX4) (N := 8) hx hb hts hinX4 tyX4 tyX4_ok nmX4 hown hK hP hD hS 0 rfl rfl 7 (by decide) (hts (.fieldLink RX4 48 "CornDesk$Line" "worst" "J") (by decide +kernel)) (fun _ h9 => h9) rfl (by decide +kernel) rfl rfl (Nat.le_of_ble_eq_true rfl) dX4_measureWorst_73 (fun H locs hP hD hS => ?_)
          have hP : va_P D vwCl ([(h, .inr (4, [.ref (f), .ref (t), .int (nI (n)), .long (lZ (vBs F T n)), .long (lZ (vSl F T n)), .long (lZ (vSp F n)), .long (so), .long (lN (mxG (vWF F T n) 0 (k + 1)))])), (f, .inl (cy 0, 8, .inl (nA F))), (t, .inl (cy 0, 8, .inl (nA T)))]) H := hP
          have hD : va_D A ([(h, .inr (4, [.ref (f), .ref (t), .int (nI (n)), .long (lZ (vBs F T n)), .long (lZ (vSl F T n)), .long (lZ (vSp F n)), .long (so), .long (lN (mxG (vWF F T n) 0 (k + 1)))])), (f, .inl (cy 0, 8, .inl (nA F))), (t, .inl (cy 0, 8, .inl (nA T)))]) := hD
          refine lv_iinc (v := (nI (k + 1))) (lv' := [(1, .int (nI (k + 1))), (2, .long (lN (vLf F T n k).natAbs)), (0, .ref (h))]) hx hb dX4_measureWorst_76 hl (k := 1) rfl (by rw [show (Int32.ofInt 1) = nI 1 from rfl, nI_add]) (by decide) rfl (fun ls hl => ?_)
          refine lv_goto (tgt := 17) hx hb dX4_measureWorst_79 (by decide) ?_
          exact ih (k + 1) (by omega) _ _ _ hP hD hS (lv_sub hl [0, 2] rfl)
    exact lp (n) (0) (by omega) _ _ _ hP hD hS hl
  · exact hret _ _ _ _ _ (by rw [show vWo F T n = 0 from if_neg (fun q => c1 ((lg_cmp_gt _ _).mpr ((lZ_lt (x := 0) (y := vSp F n) (by omega) (by omega)).mpr q)))]; rfl) hP hD hS dX4_measureWorst_14
set_option maxHeartbeats 4000000 in
set_option maxRecDepth 100000 in
theorem qX4_fit (l : Launch) (D : va_G) (cy : Nat → ClassId) (h : Nat) (f : Nat) (t : Nat) (n : Nat) (b : Int64) (sl : Int64) (sp : Int64) (so : Int64) (wo : Int64) (F : Nat → Nat) (T : Nat → Nat)  (hn : n ≤ 8) (hF : w9 F n) (hT : w9 T n) : nq_v l D (cT cy) yX4_fit wsX4_fit 2 0 0 49 [.ref (h)] ([(h, .inr (4, [.ref (f), .ref (t), .int (nI (n)), .long (b), .long (sl), .long (sp), .long (so), .long (wo)])), (f, .inl (cy 0, 8, .inl (nA F))), (t, .inl (cy 0, 8, .inl (nA T)))]) (fun w1 => w1 = [(h, .inr (4, [.ref (f), .ref (t), .int (nI (n)), .long (lZ (vBs F T n)), .long (lZ (vSl F T n)), .long (lZ (vSp F n)), .long (lZ (vSp T n)), .long (lN (vWo F T n))])), (f, .inl (cy 0, 8, .inl (nA F))), (t, .inl (cy 0, 8, .inl (nA T)))]) := by
  refine nq_v_of (cc := cX4_fit) (maxL := 12) (by decide) rfl (Nat.le_of_ble_eq_true rfl) ?_
  intro p e s m args below meth c A Q ls hx hb hts hown hml hnm hN hA hP hK hD hS hl hret
  have hown : s.vm.findClass RX4 = some m.cls := hown
  have hinX4 : ∀ w ∈ u_ws RX4 TX4 8, w ∈ wsX4_fit := by decide +kernel
  have hl : lv_has ls 12 [(0, .ref (h))] := hl
  have hP : va_P D vwCl ([(h, .inr (4, [.ref (f), .ref (t), .int (nI (n)), .long (b), .long (sl), .long (sp), .long (so), .long (wo)])), (f, .inl (cy 0, 8, .inl (nA F))), (t, .inl (cy 0, 8, .inl (nA T)))]) s.heap := hP
  refine lv_lconst (v := 0) hx hb dX4_fit_0 (by decide) ?_
  refine lv_lstore_n (lv' := [(1, .long (0)), (0, .ref (h))]) hx hb dX4_fit_1 rfl hl (by decide) rfl (fun ls hl => ?_)
  refine lv_lconst (v := 0) hx hb dX4_fit_2 (by decide) ?_
  refine lv_lstore_n (lv' := [(3, .long (0)), (1, .long (0)), (0, .ref (h))]) hx hb dX4_fit_3 rfl hl (by decide) rfl (fun ls hl => ?_)
  refine lv_lconst (v := 0) hx hb dX4_fit_4 (by decide) ?_
  refine lv_lstore (lv' := [(5, .long (0)), (3, .long (0)), (1, .long (0)), (0, .ref (h))]) hx hb dX4_fit_5 hl (by decide) rfl (fun ls hl => ?_)
  refine lv_lconst (v := 0) hx hb dX4_fit_7 (by decide) ?_
  refine lv_lstore (lv' := [(7, .long (0)), (5, .long (0)), (3, .long (0)), (1, .long (0)), (0, .ref (h))]) hx hb dX4_fit_8 hl (by decide) rfl (fun ls hl => ?_)
  refine lv_lconst (v := 0) hx hb dX4_fit_10 (by decide) ?_
  refine lv_lstore (lv' := [(9, .long (0)), (7, .long (0)), (5, .long (0)), (3, .long (0)), (1, .long (0)), (0, .ref (h))]) hx hb dX4_fit_11 hl (by decide) rfl (fun ls hl => ?_)
  refine lv_iconst (v := (nI (0))) hx hb dX4_fit_13 (by decide) ?_
  refine lv_istore (lv' := [(11, .int (nI (0))), (9, .long (0)), (7, .long (0)), (5, .long (0)), (3, .long (0)), (1, .long (0)), (0, .ref (h))]) hx hb dX4_fit_14 hl (by decide) rfl (fun ls hl => ?_)
  have lp : ∀ (i : Nat) (k : Nat), (k + i = n) → ∀ (H : Heap) (locs : List Loc) (ls : Array Slot), va_P D vwCl ([(h, .inr (4, [.ref (f), .ref (t), .int (nI (n)), .long (b), .long (sl), .long (sp), .long (so), .long (wo)])), (f, .inl (cy 0, 8, .inl (nA F))), (t, .inl (cy 0, 8, .inl (nA T)))]) H → va_D A ([(h, .inr (4, [.ref (f), .ref (t), .int (nI (n)), .long (b), .long (sl), .long (sp), .long (so), .long (wo)])), (f, .inl (cy 0, 8, .inl (nA F))), (t, .inl (cy 0, 8, .inl (nA T)))]) → va_S A s.heap H locs → lv_has ls 12 [(11, .int (nI (k))), (1, .long (lZ (vS F k))), (3, .long (lZ (vS T k))), (5, .long (lZ (vQ F F k))), (7, .long (lZ (vQ T T k))), (9, .long (lZ (vQ F T k))), (0, .ref (h))] → W p l e (mq_R 2 0 0 49) s m args below meth c H locs 0 0 Q (F0 m 16 ls []) := by
    intro i
    induction i with
    | zero =>
      intro k hk H locs ls hP hD hS hl
      refine lv_iload hx hb dX4_fit_16 (lv_at hl 0 rfl) ?_
      refine lv_aload_n hx hb dX4_fit_18 rfl (lv_at hl 6 rfl) ?_
      refine va_get (D := D) (ci := 4) (v := .int (nI (n))) (C := RX4) (T := TX4) (N := 8) hx hb hts hinX4 hown hK hP 0 rfl rfl 2 (by decide) (hts (.fieldLink RX4 18 "CornDesk$Line" "count" "I") (by decide +kernel)) (fun _ h9 => h9) rfl dX4_fit_19 ?_
      refine ln_icmp_ge (tgt := 119) hx hb dX4_fit_22 (by decide) (by omega) (by omega) (fun c2 => ?_) (fun c2 => ?_)
      · have hk0 : k = n := by omega
        subst hk0
        have eN : (nI k).toInt64 = lZ ((k : Nat) : Int) := nI_lZ (by omega)
        refine lv_aload_n hx hb dX4_fit_119 rfl (lv_at hl 6 rfl) ?_
        refine lv_aload_n hx hb dX4_fit_120 rfl (lv_at hl 6 rfl) ?_
        refine va_get (D := D) (ci := 4) (v := .int (nI (k))) (C := RX4) (T := TX4) (N := 8) hx hb hts hinX4 hown hK hP 0 rfl rfl 2 (by decide) (hts (.fieldLink RX4 18 "CornDesk$Line" "count" "I") (by decide +kernel)) (fun _ h9 => h9) rfl dX4_fit_121 ?_
        refine lv_i2l hx hb dX4_fit_124 rfl ?_
        refine lv_lload hx hb dX4_fit_125 (lv_at hl 3 rfl) ?_
        refine lv_lmul hx hb dX4_fit_127 ?_
        refine lv_lload_n hx hb dX4_fit_128 rfl (lv_at hl 1 rfl) ?_
        refine lv_lload_n hx hb dX4_fit_129 rfl (lv_at hl 1 rfl) ?_
        refine lv_lmul hx hb dX4_fit_130 ?_
        refine lv_lsub hx hb dX4_fit_131 ?_
        refine ln_eql (y := (lZ (vSp F k))) (by rw [eN]; simp only [lZ_mul, lZ_sub]; rfl) ?_
        refine va_put (D := D) (ci := 4) (v := .long (lZ (vSp F k))) (ty := .long) (C := RX4) (T := TX4) (N := 8) hx hb hts hinX4 tyX4 tyX4_ok nmX4 hown hK hP hD hS 0 rfl rfl 5 (by decide) (hts (.fieldLink RX4 25 "CornDesk$Line" "spread" "J") (by decide +kernel)) (fun _ h9 => h9) rfl (by decide +kernel) rfl rfl (Nat.le_of_ble_eq_true rfl) dX4_fit_132 (fun H locs hP hD hS => ?_)
        have hP : va_P D vwCl ([(h, .inr (4, [.ref (f), .ref (t), .int (nI (k)), .long (b), .long (sl), .long (lZ (vSp F k)), .long (so), .long (wo)])), (f, .inl (cy 0, 8, .inl (nA F))), (t, .inl (cy 0, 8, .inl (nA T)))]) H := hP
        have hD : va_D A ([(h, .inr (4, [.ref (f), .ref (t), .int (nI (k)), .long (b), .long (sl), .long (lZ (vSp F k)), .long (so), .long (wo)])), (f, .inl (cy 0, 8, .inl (nA F))), (t, .inl (cy 0, 8, .inl (nA T)))]) := hD
        refine lv_aload_n hx hb dX4_fit_135 rfl (lv_at hl 6 rfl) ?_
        refine lv_aload_n hx hb dX4_fit_136 rfl (lv_at hl 6 rfl) ?_
        refine va_get (D := D) (ci := 4) (v := .int (nI (k))) (C := RX4) (T := TX4) (N := 8) hx hb hts hinX4 hown hK hP 0 rfl rfl 2 (by decide) (hts (.fieldLink RX4 18 "CornDesk$Line" "count" "I") (by decide +kernel)) (fun _ h9 => h9) rfl dX4_fit_137 ?_
        refine lv_i2l hx hb dX4_fit_140 rfl ?_
        refine lv_lload hx hb dX4_fit_141 (lv_at hl 4 rfl) ?_
        refine lv_lmul hx hb dX4_fit_143 ?_
        refine lv_lload_n hx hb dX4_fit_144 rfl (lv_at hl 2 rfl) ?_
        refine lv_lload_n hx hb dX4_fit_145 rfl (lv_at hl 2 rfl) ?_
        refine lv_lmul hx hb dX4_fit_146 ?_
        refine lv_lsub hx hb dX4_fit_147 ?_
        refine ln_eql (y := (lZ (vSp T k))) (by rw [eN]; simp only [lZ_mul, lZ_sub]; rfl) ?_
        refine va_put (D := D) (ci := 4) (v := .long (lZ (vSp T k))) (ty := .long) (C := RX4) (T := TX4) (N := 8) hx hb hts hinX4 tyX4 tyX4_ok nmX4 hown hK hP hD hS 0 rfl rfl 6 (by decide) (hts (.fieldLink RX4 45 "CornDesk$Line" "spreadTo" "J") (by decide +kernel)) (fun _ h9 => h9) rfl (by decide +kernel) rfl rfl (Nat.le_of_ble_eq_true rfl) dX4_fit_148 (fun H locs hP hD hS => ?_)
        have hP : va_P D vwCl ([(h, .inr (4, [.ref (f), .ref (t), .int (nI (k)), .long (b), .long (sl), .long (lZ (vSp F k)), .long (lZ (vSp T k)), .long (wo)])), (f, .inl (cy 0, 8, .inl (nA F))), (t, .inl (cy 0, 8, .inl (nA T)))]) H := hP
        have hD : va_D A ([(h, .inr (4, [.ref (f), .ref (t), .int (nI (k)), .long (b), .long (sl), .long (lZ (vSp F k)), .long (lZ (vSp T k)), .long (wo)])), (f, .inl (cy 0, 8, .inl (nA F))), (t, .inl (cy 0, 8, .inl (nA T)))]) := hD
        refine lv_aload_n hx hb dX4_fit_151 rfl (lv_at hl 6 rfl) ?_
        refine lv_aload_n hx hb dX4_fit_152 rfl (lv_at hl 6 rfl) ?_
        refine va_get (D := D) (ci := 4) (v := .int (nI (k))) (C := RX4) (T := TX4) (N := 8) hx hb hts hinX4 hown hK hP 0 rfl rfl 2 (by decide) (hts (.fieldLink RX4 18 "CornDesk$Line" "count" "I") (by decide +kernel)) (fun _ h9 => h9) rfl dX4_fit_153 ?_
        refine lv_i2l hx hb dX4_fit_156 rfl ?_
        refine lv_lload hx hb dX4_fit_157 (lv_at hl 5 rfl) ?_
        refine lv_lmul hx hb dX4_fit_159 ?_
        refine lv_lload_n hx hb dX4_fit_160 rfl (lv_at hl 1 rfl) ?_
        refine lv_lload_n hx hb dX4_fit_161 rfl (lv_at hl 2 rfl) ?_
        refine lv_lmul hx hb dX4_fit_162 ?_
        refine lv_lsub hx hb dX4_fit_163 ?_
        refine ln_eql (y := (lZ (vSl F T k))) (by rw [eN]; simp only [lZ_mul, lZ_sub]; rfl) ?_
        refine va_put (D := D) (ci := 4) (v := .long (lZ (vSl F T k))) (ty := .long) (C := RX4) (T := TX4) (N := 8) hx hb hts hinX4 tyX4 tyX4_ok nmX4 hown hK hP hD hS 0 rfl rfl 4 (by decide) (hts (.fieldLink RX4 32 "CornDesk$Line" "slope" "J") (by decide +kernel)) (fun _ h9 => h9) rfl (by decide +kernel) rfl rfl (Nat.le_of_ble_eq_true rfl) dX4_fit_164 (fun H locs hP hD hS => ?_)
        have hP : va_P D vwCl ([(h, .inr (4, [.ref (f), .ref (t), .int (nI (k)), .long (b), .long (lZ (vSl F T k)), .long (lZ (vSp F k)), .long (lZ (vSp T k)), .long (wo)])), (f, .inl (cy 0, 8, .inl (nA F))), (t, .inl (cy 0, 8, .inl (nA T)))]) H := hP
        have hD : va_D A ([(h, .inr (4, [.ref (f), .ref (t), .int (nI (k)), .long (b), .long (lZ (vSl F T k)), .long (lZ (vSp F k)), .long (lZ (vSp T k)), .long (wo)])), (f, .inl (cy 0, 8, .inl (nA F))), (t, .inl (cy 0, 8, .inl (nA T)))]) := hD
        refine lv_aload_n hx hb dX4_fit_167 rfl (lv_at hl 6 rfl) ?_
        refine lv_lload_n hx hb dX4_fit_168 rfl (lv_at hl 2 rfl) ?_
        refine lv_lload hx hb dX4_fit_169 (lv_at hl 3 rfl) ?_
        refine lv_lmul hx hb dX4_fit_171 ?_
        refine lv_lload_n hx hb dX4_fit_172 rfl (lv_at hl 1 rfl) ?_
        refine lv_lload hx hb dX4_fit_173 (lv_at hl 5 rfl) ?_
        refine lv_lmul hx hb dX4_fit_175 ?_
        refine lv_lsub hx hb dX4_fit_176 ?_
        refine ln_eql (y := (lZ (vBs F T k))) (by simp only [lZ_mul, lZ_sub]; rfl) ?_
        refine va_put (D := D) (ci := 4) (v := .long (lZ (vBs F T k))) (ty := .long) (C := RX4) (T := TX4) (N := 8) hx hb hts hinX4 tyX4 tyX4_ok nmX4 hown hK hP hD hS 0 rfl rfl 3 (by decide) (hts (.fieldLink RX4 29 "CornDesk$Line" "base" "J") (by decide +kernel)) (fun _ h9 => h9) rfl (by decide +kernel) rfl rfl (Nat.le_of_ble_eq_true rfl) dX4_fit_177 (fun H locs hP hD hS => ?_)
        have hP : va_P D vwCl ([(h, .inr (4, [.ref (f), .ref (t), .int (nI (k)), .long (lZ (vBs F T k)), .long (lZ (vSl F T k)), .long (lZ (vSp F k)), .long (lZ (vSp T k)), .long (wo)])), (f, .inl (cy 0, 8, .inl (nA F))), (t, .inl (cy 0, 8, .inl (nA T)))]) H := hP
        have hD : va_D A ([(h, .inr (4, [.ref (f), .ref (t), .int (nI (k)), .long (lZ (vBs F T k)), .long (lZ (vSl F T k)), .long (lZ (vSp F k)), .long (lZ (vSp T k)), .long (wo)])), (f, .inl (cy 0, 8, .inl (nA F))), (t, .inl (cy 0, 8, .inl (nA T)))]) := hD
        refine lv_aload_n hx hb dX4_fit_180 rfl (lv_at hl 6 rfl) ?_
        refine nq_Vv (As := []) (rest := []) (w := [(h, .inr (4, [.ref (f), .ref (t), .int (nI (k)), .long (lZ (vBs F T k)), .long (lZ (vSl F T k)), .long (lZ (vSp F k)), .long (lZ (vSp T k)), .long (wo)])), (f, .inl (cy 0, 8, .inl (nA F))), (t, .inl (cy 0, 8, .inl (nA T)))]) (wr := []) (ci := 4) (k0 := 0) ⟨hx, hb, hml, hown, hts⟩ (qX4_measureWorst l D cy h f t k (lZ (vBs F T k)) (lZ (vSl F T k)) (lZ (vSp F k)) (lZ (vSp T k)) wo F T  hn hF hT rfl rfl rfl) (cwV 0 hts gX4_fit_X4_measureWorst rfl rfl rfl (by decide +kernel) ⟨Nat.le_of_ble_eq_true rfl, Nat.le_of_ble_eq_true rfl⟩) rfl rfl hP hK hD hN hS hA rfl hl.1 rfl (Nat.le_of_ble_eq_true rfl) dX4_fit_181 ⟨Nat.le_of_ble_eq_true rfl, Nat.le_of_ble_eq_true rfl⟩ (fun w1 H locs hq hP hD hS => ?_)
        subst hq
        have hP : va_P D vwCl ([(h, .inr (4, [.ref (f), .ref (t), .int (nI (k)), .long (lZ (vBs F T k)), .long (lZ (vSl F T k)), .long (lZ (vSp F k)), .long (lZ (vSp T k)), .long (lN (vWo F T k))])), (f, .inl (cy 0, 8, .inl (nA F))), (t, .inl (cy 0, 8, .inl (nA T)))]) H := hP
        have hD : va_D A ([(h, .inr (4, [.ref (f), .ref (t), .int (nI (k)), .long (lZ (vBs F T k)), .long (lZ (vSl F T k)), .long (lZ (vSp F k)), .long (lZ (vSp T k)), .long (lN (vWo F T k))])), (f, .inl (cy 0, 8, .inl (nA F))), (t, .inl (cy 0, 8, .inl (nA T)))]) := hD
        exact hret _ _ _ _ _ rfl hP hD hS dX4_fit_184
      · exact absurd hk (by omega)
    | succ i ih =>
      intro k hk H locs ls hP hD hS hl
      refine lv_iload hx hb dX4_fit_16 (lv_at hl 0 rfl) ?_
      refine lv_aload_n hx hb dX4_fit_18 rfl (lv_at hl 6 rfl) ?_
      refine va_get (D := D) (ci := 4) (v := .int (nI (n))) (C := RX4) (T := TX4) (N := 8) hx hb hts hinX4 hown hK hP 0 rfl rfl 2 (by decide) (hts (.fieldLink RX4 18 "CornDesk$Line" "count" "I") (by decide +kernel)) (fun _ h9 => h9) rfl dX4_fit_19 ?_
      refine ln_icmp_ge (tgt := 119) hx hb dX4_fit_22 (by decide) (by omega) (by omega) (fun c2 => ?_) (fun c2 => ?_)
      · exact absurd hk (by omega)
      · have hkn : k < n := by omega
        have fk := hF k hkn
        have tk9 := hT k hkn
        have eF : (nA F k).toInt64 = lZ ((F k : Nat) : Int) := nI_lZ (by omega)
        have eT : (nA T k).toInt64 = lZ ((T k : Nat) : Int) := nI_lZ (by omega)
        refine lv_lload_n hx hb dX4_fit_25 rfl (lv_at hl 1 rfl) ?_
        refine lv_aload_n hx hb dX4_fit_26 rfl (lv_at hl 6 rfl) ?_
        refine va_get (D := D) (ci := 4) (v := .ref (f)) (C := RX4) (T := TX4) (N := 8) hx hb hts hinX4 hown hK hP 0 rfl rfl 0 (by decide) (hts (.fieldLink RX4 9 "CornDesk$Line" "from" "[I") (by decide +kernel)) (fun _ h9 => h9) rfl dX4_fit_27 ?_
        refine lv_iload hx hb dX4_fit_30 (lv_at hl 0 rfl) ?_
        refine ln_iald hx hb hK hP 1 0 rfl rfl (by decide) (by omega) dX4_fit_32 ?_
        refine lv_i2l hx hb dX4_fit_33 rfl ?_
        refine ln_eql (y := (lZ ((F k : Nat) : Int))) eF ?_
        refine lv_ladd hx hb dX4_fit_34 ?_
        refine ln_eql (y := (lZ (vS F (k + 1)))) (lZ_add _ _) ?_
        refine lv_lstore_n (lv' := [(1, .long (lZ (vS F (k + 1)))), (11, .int (nI (k))), (3, .long (lZ (vS T k))), (5, .long (lZ (vQ F F k))), (7, .long (lZ (vQ T T k))), (9, .long (lZ (vQ F T k))), (0, .ref (h))]) hx hb dX4_fit_35 rfl hl (by decide) rfl (fun ls hl => ?_)
        refine lv_lload_n hx hb dX4_fit_36 rfl (lv_at hl 2 rfl) ?_
        refine lv_aload_n hx hb dX4_fit_37 rfl (lv_at hl 6 rfl) ?_
        refine va_get (D := D) (ci := 4) (v := .ref (t)) (C := RX4) (T := TX4) (N := 8) hx hb hts hinX4 hown hK hP 0 rfl rfl 1 (by decide) (hts (.fieldLink RX4 15 "CornDesk$Line" "to" "[I") (by decide +kernel)) (fun _ h9 => h9) rfl dX4_fit_38 ?_
        refine lv_iload hx hb dX4_fit_41 (lv_at hl 1 rfl) ?_
        refine ln_iald hx hb hK hP 2 0 rfl rfl (by decide) (by omega) dX4_fit_43 ?_
        refine lv_i2l hx hb dX4_fit_44 rfl ?_
        refine ln_eql (y := (lZ ((T k : Nat) : Int))) eT ?_
        refine lv_ladd hx hb dX4_fit_45 ?_
        refine ln_eql (y := (lZ (vS T (k + 1)))) (lZ_add _ _) ?_
        refine lv_lstore_n (lv' := [(3, .long (lZ (vS T (k + 1)))), (1, .long (lZ (vS F (k + 1)))), (11, .int (nI (k))), (5, .long (lZ (vQ F F k))), (7, .long (lZ (vQ T T k))), (9, .long (lZ (vQ F T k))), (0, .ref (h))]) hx hb dX4_fit_46 rfl hl (by decide) rfl (fun ls hl => ?_)
        refine lv_lload hx hb dX4_fit_47 (lv_at hl 3 rfl) ?_
        refine lv_aload_n hx hb dX4_fit_49 rfl (lv_at hl 6 rfl) ?_
        refine va_get (D := D) (ci := 4) (v := .ref (f)) (C := RX4) (T := TX4) (N := 8) hx hb hts hinX4 hown hK hP 0 rfl rfl 0 (by decide) (hts (.fieldLink RX4 9 "CornDesk$Line" "from" "[I") (by decide +kernel)) (fun _ h9 => h9) rfl dX4_fit_50 ?_
        refine lv_iload hx hb dX4_fit_53 (lv_at hl 2 rfl) ?_
        refine ln_iald hx hb hK hP 1 0 rfl rfl (by decide) (by omega) dX4_fit_55 ?_
        refine lv_i2l hx hb dX4_fit_56 rfl ?_
        refine ln_eql (y := (lZ ((F k : Nat) : Int))) eF ?_
        refine lv_aload_n hx hb dX4_fit_57 rfl (lv_at hl 6 rfl) ?_
        refine va_get (D := D) (ci := 4) (v := .ref (f)) (C := RX4) (T := TX4) (N := 8) hx hb hts hinX4 hown hK hP 0 rfl rfl 0 (by decide) (hts (.fieldLink RX4 9 "CornDesk$Line" "from" "[I") (by decide +kernel)) (fun _ h9 => h9) rfl dX4_fit_58 ?_
        refine lv_iload hx hb dX4_fit_61 (lv_at hl 2 rfl) ?_
        refine ln_iald hx hb hK hP 1 0 rfl rfl (by decide) (by omega) dX4_fit_63 ?_
        refine lv_i2l hx hb dX4_fit_64 rfl ?_
        refine ln_eql (y := (lZ ((F k : Nat) : Int))) eF ?_
        refine lv_lmul hx hb dX4_fit_65 ?_
        refine ln_eql (y := (lZ ((F k : Int) * (F k : Int)))) (lZ_mul _ _) ?_
        refine lv_ladd hx hb dX4_fit_66 ?_
        refine ln_eql (y := (lZ (vQ F F (k + 1)))) (lZ_add _ _) ?_
        refine lv_lstore (lv' := [(5, .long (lZ (vQ F F (k + 1)))), (3, .long (lZ (vS T (k + 1)))), (1, .long (lZ (vS F (k + 1)))), (11, .int (nI (k))), (7, .long (lZ (vQ T T k))), (9, .long (lZ (vQ F T k))), (0, .ref (h))]) hx hb dX4_fit_67 hl (by decide) rfl (fun ls hl => ?_)
        refine lv_lload hx hb dX4_fit_69 (lv_at hl 4 rfl) ?_
        refine lv_aload_n hx hb dX4_fit_71 rfl (lv_at hl 6 rfl) ?_
        refine va_get (D := D) (ci := 4) (v := .ref (t)) (C := RX4) (T := TX4) (N := 8) hx hb hts hinX4 hown hK hP 0 rfl rfl 1 (by decide) (hts (.fieldLink RX4 15 "CornDesk$Line" "to" "[I") (by decide +kernel)) (fun _ h9 => h9) rfl dX4_fit_72 ?_
        refine lv_iload hx hb dX4_fit_75 (lv_at hl 3 rfl) ?_
        refine ln_iald hx hb hK hP 2 0 rfl rfl (by decide) (by omega) dX4_fit_77 ?_
        refine lv_i2l hx hb dX4_fit_78 rfl ?_
        refine ln_eql (y := (lZ ((T k : Nat) : Int))) eT ?_
        refine lv_aload_n hx hb dX4_fit_79 rfl (lv_at hl 6 rfl) ?_
        refine va_get (D := D) (ci := 4) (v := .ref (t)) (C := RX4) (T := TX4) (N := 8) hx hb hts hinX4 hown hK hP 0 rfl rfl 1 (by decide) (hts (.fieldLink RX4 15 "CornDesk$Line" "to" "[I") (by decide +kernel)) (fun _ h9 => h9) rfl dX4_fit_80 ?_
        refine lv_iload hx hb dX4_fit_83 (lv_at hl 3 rfl) ?_
        refine ln_iald hx hb hK hP 2 0 rfl rfl (by decide) (by omega) dX4_fit_85 ?_
        refine lv_i2l hx hb dX4_fit_86 rfl ?_
        refine ln_eql (y := (lZ ((T k : Nat) : Int))) eT ?_
        refine lv_lmul hx hb dX4_fit_87 ?_
        refine ln_eql (y := (lZ ((T k : Int) * (T k : Int)))) (lZ_mul _ _) ?_
        refine lv_ladd hx hb dX4_fit_88 ?_
        refine ln_eql (y := (lZ (vQ T T (k + 1)))) (lZ_add _ _) ?_
        refine lv_lstore (lv' := [(7, .long (lZ (vQ T T (k + 1)))), (5, .long (lZ (vQ F F (k + 1)))), (3, .long (lZ (vS T (k + 1)))), (1, .long (lZ (vS F (k + 1)))), (11, .int (nI (k))), (9, .long (lZ (vQ F T k))), (0, .ref (h))]) hx hb dX4_fit_89 hl (by decide) rfl (fun ls hl => ?_)
        refine lv_lload hx hb dX4_fit_91 (lv_at hl 5 rfl) ?_
        refine lv_aload_n hx hb dX4_fit_93 rfl (lv_at hl 6 rfl) ?_
        refine va_get (D := D) (ci := 4) (v := .ref (f)) (C := RX4) (T := TX4) (N := 8) hx hb hts hinX4 hown hK hP 0 rfl rfl 0 (by decide) (hts (.fieldLink RX4 9 "CornDesk$Line" "from" "[I") (by decide +kernel)) (fun _ h9 => h9) rfl dX4_fit_94 ?_
        refine lv_iload hx hb dX4_fit_97 (lv_at hl 4 rfl) ?_
        refine ln_iald hx hb hK hP 1 0 rfl rfl (by decide) (by omega) dX4_fit_99 ?_
        refine lv_i2l hx hb dX4_fit_100 rfl ?_
        refine ln_eql (y := (lZ ((F k : Nat) : Int))) eF ?_
        refine lv_aload_n hx hb dX4_fit_101 rfl (lv_at hl 6 rfl) ?_
        refine va_get (D := D) (ci := 4) (v := .ref (t)) (C := RX4) (T := TX4) (N := 8) hx hb hts hinX4 hown hK hP 0 rfl rfl 1 (by decide) (hts (.fieldLink RX4 15 "CornDesk$Line" "to" "[I") (by decide +kernel)) (fun _ h9 => h9) rfl dX4_fit_102 ?_
        refine lv_iload hx hb dX4_fit_105 (lv_at hl 4 rfl) ?_
        refine ln_iald hx hb hK hP 2 0 rfl rfl (by decide) (by omega) dX4_fit_107 ?_
        refine lv_i2l hx hb dX4_fit_108 rfl ?_
        refine ln_eql (y := (lZ ((T k : Nat) : Int))) eT ?_
        refine lv_lmul hx hb dX4_fit_109 ?_
        refine ln_eql (y := (lZ ((F k : Int) * (T k : Int)))) (lZ_mul _ _) ?_
        refine lv_ladd hx hb dX4_fit_110 ?_
        refine ln_eql (y := (lZ (vQ F T (k + 1)))) (lZ_add _ _) ?_
        refine lv_lstore (lv' := [(9, .long (lZ (vQ F T (k + 1)))), (7, .long (lZ (vQ T T (k + 1)))), (5, .long (lZ (vQ F F (k + 1)))), (3, .long (lZ (vS T (k + 1)))), (1, .long (lZ (vS F (k + 1)))), (11, .int (nI (k))), (0, .ref (h))]) hx hb dX4_fit_111 hl (by decide) rfl (fun ls hl => ?_)
        refine lv_iinc (v := (nI (k + 1))) (lv' := [(11, .int (nI (k + 1))), (9, .long (lZ (vQ F T (k + 1)))), (7, .long (lZ (vQ T T (k + 1)))), (5, .long (lZ (vQ F F (k + 1)))), (3, .long (lZ (vS T (k + 1)))), (1, .long (lZ (vS F (k + 1)))), (0, .ref (h))]) hx hb dX4_fit_113 hl (k := 5) rfl (by rw [show (Int32.ofInt 1) = nI 1 from rfl, nI_add]) (by decide) rfl (fun ls hl => ?_)
        refine lv_goto (tgt := 16) hx hb dX4_fit_116 (by decide) ?_
        exact ih (k + 1) (by omega) _ _ _ hP hD hS (lv_sub hl [0, 5, 4, 3, 2, 1, 6] rfl)
  exact lp (n) (0) (by omega) _ _ _ hP hD hS (lv_sub hl [0, 5, 4, 3, 2, 1, 6] rfl)
theorem w9_up {F : Nat → Nat} {n u : Nat} (h : w9 F n) (hu : u ≤ 999) : w9 (upN F n u) (n + 1) := fun k hk => by
  simp only [upN]
  split
  · exact hu
  · exact h k (by omega)
set_option maxHeartbeats 4000000 in
set_option maxRecDepth 100000 in
theorem qX4_add (l : Launch) (D : va_G) (cy : Nat → ClassId) (h : Nat) (f : Nat) (t : Nat) (n : Nat) (b : Int64) (sl : Int64) (sp : Int64) (so : Int64) (wo : Int64) (F : Nat → Nat) (T : Nat → Nat) (u : Nat) (x : Nat) (hn7 : n < 8) (hF : w9 F n) (hT : w9 T n) (hu : u ≤ 999) (hx9 : x ≤ 999) : nq_v l D (cT cy) yX4_add wsX4_add 3 0 0 80 [.ref (h), .int (nI (u)), .int (nI (x))] ([(h, .inr (4, [.ref (f), .ref (t), .int (nI (n)), .long (b), .long (sl), .long (sp), .long (so), .long (wo)])), (f, .inl (cy 0, 8, .inl (nA F))), (t, .inl (cy 0, 8, .inl (nA T)))]) (fun w1 => w1 = [(h, .inr (4, [.ref (f), .ref (t), .int (nI (n + 1)), .long (lZ (vBs (upN F n u) (upN T n x) (n + 1))), .long (lZ (vSl (upN F n u) (upN T n x) (n + 1))), .long (lZ (vSp (upN F n u) (n + 1))), .long (lZ (vSp (upN T n x) (n + 1))), .long (lN (vWo (upN F n u) (upN T n x) (n + 1)))])), (f, .inl (cy 0, 8, .inl (nA (upN F n u)))), (t, .inl (cy 0, 8, .inl (nA (upN T n x))))]) := by
  refine nq_v_of (cc := cX4_add) (maxL := 3) (by decide) rfl (Nat.le_of_ble_eq_true rfl) ?_
  intro p e s m args below meth c A Q ls hx hb hts hown hml hnm hN hA hP hK hD hS hl hret
  have hown : s.vm.findClass RX4 = some m.cls := hown
  have hinX4 : ∀ w ∈ u_ws RX4 TX4 8, w ∈ wsX4_add := by decide +kernel
  have hl : lv_has ls 3 [(0, .ref (h)), (1, .int (nI (u))), (2, .int (nI (x)))] := hl
  have hP : va_P D vwCl ([(h, .inr (4, [.ref (f), .ref (t), .int (nI (n)), .long (b), .long (sl), .long (sp), .long (so), .long (wo)])), (f, .inl (cy 0, 8, .inl (nA F))), (t, .inl (cy 0, 8, .inl (nA T)))]) s.heap := hP
  refine lv_aload_n hx hb dX4_add_0 rfl (lv_at hl 0 rfl) ?_
  refine va_get (D := D) (ci := 4) (v := .int (nI (n))) (C := RX4) (T := TX4) (N := 8) hx hb hts hinX4 hown hK hP 0 rfl rfl 2 (by decide) (hts (.fieldLink RX4 18 "CornDesk$Line" "count" "I") (by decide +kernel)) (fun _ h9 => h9) rfl dX4_add_1 ?_
  refine lv_bipush (v := (nI (8))) hx hb dX4_add_4 (by decide) ?_
  refine ln_icmp_ge (tgt := 43) hx hb dX4_add_6 (by decide) (by omega) (by omega) (fun c1 => ?_) (fun c1 => ?_)
  · exact absurd hn7 (by omega)
  · refine lv_aload_n hx hb dX4_add_9 rfl (lv_at hl 0 rfl) ?_
    refine va_get (D := D) (ci := 4) (v := .ref (f)) (C := RX4) (T := TX4) (N := 8) hx hb hts hinX4 hown hK hP 0 rfl rfl 0 (by decide) (hts (.fieldLink RX4 9 "CornDesk$Line" "from" "[I") (by decide +kernel)) (fun _ h9 => h9) rfl dX4_add_10 ?_
    refine lv_aload_n hx hb dX4_add_13 rfl (lv_at hl 0 rfl) ?_
    refine va_get (D := D) (ci := 4) (v := .int (nI (n))) (C := RX4) (T := TX4) (N := 8) hx hb hts hinX4 hown hK hP 0 rfl rfl 2 (by decide) (hts (.fieldLink RX4 18 "CornDesk$Line" "count" "I") (by decide +kernel)) (fun _ h9 => h9) rfl dX4_add_14 ?_
    refine lv_iload_n hx hb dX4_add_17 rfl (lv_at hl 1 rfl) ?_
    refine ln_iastN hx hb hK hP hD hS 1 0 rfl rfl (by decide) (by omega) dX4_add_18 (fun H locs hP hD hS => ?_)
    have hP : va_P D vwCl ([(h, .inr (4, [.ref (f), .ref (t), .int (nI (n)), .long (b), .long (sl), .long (sp), .long (so), .long (wo)])), (f, .inl (cy 0, 8, .inl (nA (upN F (n) (u))))), (t, .inl (cy 0, 8, .inl (nA T)))]) H := hP
    have hD : va_D A ([(h, .inr (4, [.ref (f), .ref (t), .int (nI (n)), .long (b), .long (sl), .long (sp), .long (so), .long (wo)])), (f, .inl (cy 0, 8, .inl (nA (upN F (n) (u))))), (t, .inl (cy 0, 8, .inl (nA T)))]) := hD
    refine lv_aload_n hx hb dX4_add_19 rfl (lv_at hl 0 rfl) ?_
    refine va_get (D := D) (ci := 4) (v := .ref (t)) (C := RX4) (T := TX4) (N := 8) hx hb hts hinX4 hown hK hP 0 rfl rfl 1 (by decide) (hts (.fieldLink RX4 15 "CornDesk$Line" "to" "[I") (by decide +kernel)) (fun _ h9 => h9) rfl dX4_add_20 ?_
    refine lv_aload_n hx hb dX4_add_23 rfl (lv_at hl 0 rfl) ?_
    refine va_get (D := D) (ci := 4) (v := .int (nI (n))) (C := RX4) (T := TX4) (N := 8) hx hb hts hinX4 hown hK hP 0 rfl rfl 2 (by decide) (hts (.fieldLink RX4 18 "CornDesk$Line" "count" "I") (by decide +kernel)) (fun _ h9 => h9) rfl dX4_add_24 ?_
    refine lv_iload_n hx hb dX4_add_27 rfl (lv_at hl 2 rfl) ?_
    refine ln_iastN hx hb hK hP hD hS 2 0 rfl rfl (by decide) (by omega) dX4_add_28 (fun H locs hP hD hS => ?_)
    have hP : va_P D vwCl ([(h, .inr (4, [.ref (f), .ref (t), .int (nI (n)), .long (b), .long (sl), .long (sp), .long (so), .long (wo)])), (f, .inl (cy 0, 8, .inl (nA (upN F (n) (u))))), (t, .inl (cy 0, 8, .inl (nA (upN T (n) (x)))))]) H := hP
    have hD : va_D A ([(h, .inr (4, [.ref (f), .ref (t), .int (nI (n)), .long (b), .long (sl), .long (sp), .long (so), .long (wo)])), (f, .inl (cy 0, 8, .inl (nA (upN F (n) (u))))), (t, .inl (cy 0, 8, .inl (nA (upN T (n) (x)))))]) := hD
    refine lv_aload_n hx hb dX4_add_29 rfl (lv_at hl 0 rfl) ?_
    refine lv_dup hx hb dX4_add_30 rfl ?_
    refine va_get (D := D) (ci := 4) (v := .int (nI (n))) (C := RX4) (T := TX4) (N := 8) hx hb hts hinX4 hown hK hP 0 rfl rfl 2 (by decide) (hts (.fieldLink RX4 18 "CornDesk$Line" "count" "I") (by decide +kernel)) (fun _ h9 => h9) rfl dX4_add_31 ?_
    refine lv_iconst (v := (nI (1))) hx hb dX4_add_34 (by decide) ?_
    refine ln_iadd hx hb dX4_add_35 ?_
    refine va_put (D := D) (ci := 4) (v := .int (nI (n + 1))) (ty := .int) (C := RX4) (T := TX4) (N := 8) hx hb hts hinX4 tyX4 tyX4_ok nmX4 hown hK hP hD hS 0 rfl rfl 2 (by decide) (hts (.fieldLink RX4 18 "CornDesk$Line" "count" "I") (by decide +kernel)) (fun _ h9 => h9) rfl (by decide +kernel) rfl rfl (Nat.le_of_ble_eq_true rfl) dX4_add_36 (fun H locs hP hD hS => ?_)
    have hP : va_P D vwCl ([(h, .inr (4, [.ref (f), .ref (t), .int (nI (n + 1)), .long (b), .long (sl), .long (sp), .long (so), .long (wo)])), (f, .inl (cy 0, 8, .inl (nA (upN F (n) (u))))), (t, .inl (cy 0, 8, .inl (nA (upN T (n) (x)))))]) H := hP
    have hD : va_D A ([(h, .inr (4, [.ref (f), .ref (t), .int (nI (n + 1)), .long (b), .long (sl), .long (sp), .long (so), .long (wo)])), (f, .inl (cy 0, 8, .inl (nA (upN F (n) (u))))), (t, .inl (cy 0, 8, .inl (nA (upN T (n) (x)))))]) := hD
    refine lv_aload_n hx hb dX4_add_39 rfl (lv_at hl 0 rfl) ?_
    refine nq_Vv (As := []) (rest := []) (w := [(h, .inr (4, [.ref (f), .ref (t), .int (nI (n + 1)), .long (b), .long (sl), .long (sp), .long (so), .long (wo)])), (f, .inl (cy 0, 8, .inl (nA (upN F (n) (u))))), (t, .inl (cy 0, 8, .inl (nA (upN T (n) (x)))))]) (wr := []) (ci := 4) (k0 := 0) ⟨hx, hb, hml, hown, hts⟩ (qX4_fit l D cy h f t (n + 1) b sl sp so wo (upN F (n) (u)) (upN T (n) (x))  (by omega) (w9_up hF hu) (w9_up hT hx9)) (cwV 0 hts gX4_add_X4_fit rfl rfl rfl (by decide +kernel) ⟨Nat.le_of_ble_eq_true rfl, Nat.le_of_ble_eq_true rfl⟩) rfl rfl hP hK hD hN hS hA rfl hl.1 rfl (Nat.le_of_ble_eq_true rfl) dX4_add_40 ⟨Nat.le_of_ble_eq_true rfl, Nat.le_of_ble_eq_true rfl⟩ (fun w1 H locs hq hP hD hS => ?_)
    subst hq
    have hP : va_P D vwCl ([(h, .inr (4, [.ref (f), .ref (t), .int (nI (n + 1)), .long (lZ (vBs (upN F (n) (u)) (upN T (n) (x)) (n + 1))), .long (lZ (vSl (upN F (n) (u)) (upN T (n) (x)) (n + 1))), .long (lZ (vSp (upN F (n) (u)) (n + 1))), .long (lZ (vSp (upN T (n) (x)) (n + 1))), .long (lN (vWo (upN F (n) (u)) (upN T (n) (x)) (n + 1)))])), (f, .inl (cy 0, 8, .inl (nA (upN F (n) (u))))), (t, .inl (cy 0, 8, .inl (nA (upN T (n) (x)))))]) H := hP
    have hD : va_D A ([(h, .inr (4, [.ref (f), .ref (t), .int (nI (n + 1)), .long (lZ (vBs (upN F (n) (u)) (upN T (n) (x)) (n + 1))), .long (lZ (vSl (upN F (n) (u)) (upN T (n) (x)) (n + 1))), .long (lZ (vSp (upN F (n) (u)) (n + 1))), .long (lZ (vSp (upN T (n) (x)) (n + 1))), .long (lN (vWo (upN F (n) (u)) (upN T (n) (x)) (n + 1)))])), (f, .inl (cy 0, 8, .inl (nA (upN F (n) (u))))), (t, .inl (cy 0, 8, .inl (nA (upN T (n) (x)))))]) := hD
    exact hret _ _ _ _ _ rfl hP hD hS dX4_add_43
