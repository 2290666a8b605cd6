/-! ===== DOUBT ===== -/
def cl (x U : Nat) : Nat := (x + U - 1) / U
def zLf (a : Nat → Nat) (pi w k : Nat) : Int := zX a pi w k * (zUn a pi w (a (4 + pi)) : Nat) - zAb a pi w (a (4 + pi)) (zU a pi w k)
def dbF (a : Nat → Nat) (pi w k : Nat) : Nat := cl (zLf a pi w k).natAbs (zUn a pi w (a (4 + pi)))
def mxG (f : Nat → Nat) (m : Nat) : Nat → Nat
  | 0 => m
  | k + 1 => max (mxG f m k) (f k)
theorem mxG_s (f : Nat → Nat) (m k : Nat) : mxG f m (k + 1) = max (mxG f m k) (f k) := rfl
def dbZ (a : Nat → Nat) (pi : Nat) : Int := if 0 < zSp a pi 0 (a (4 + pi)) ∧ 0 < zSp a pi 1 (a (4 + pi)) then ((mxG (dbF a pi 1) (mxG (dbF a pi 0) 0 (a (4 + pi))) (a (4 + pi)) + 1 : Nat) : Int) else -1
theorem zLf_b {a : Nat → Nat} {pi w k : Nat} (h : plOk a pi) (hw : w < 2) (hk : k < a (4 + pi)) : (zLf a pi w k).natAbs ≤ 5000000000000 := by
  have h1 := zX_b h hw hk
  have h2 := zU_b h hw hk
  have h3 := zUn_le h hw
  have h4 := zAb_b h hw (u := zU a pi w k) (by omega)
  have h5 : (zX a pi w k * (zUn a pi w (a (4 + pi)) : Nat)).natAbs ≤ 999 * 1021953024 := na_mul (by omega) (by omega)
  unfold zLf
  omega
theorem cl_b {x U : Nat} (hU : 0 < U) : cl x U ≤ x + U := Nat.le_trans (Nat.div_le_self _ _) (by omega)
theorem dbF_b {a : Nat → Nat} {pi w k : Nat} (h : plOk a pi) (hw : w < 2) (hk : k < a (4 + pi)) (h0 : 0 < zSp a pi w (a (4 + pi))) : dbF a pi w k ≤ 9000000000000 := by
  have h1 := zLf_b h hw hk
  have h2 := zUn_le h hw
  have h3 := cl_b (x := (zLf a pi w k).natAbs) (zUn_pos h hw h0)
  unfold dbF
  omega
theorem mxG_b {f : Nat → Nat} {m B : Nat} (hm : m ≤ B) : ∀ {n : Nat}, (∀ k, k < n → f k ≤ B) → mxG f m n ≤ B
  | 0, _ => hm
  | n + 1, h => Nat.max_le.mpr ⟨mxG_b hm (fun k hk => h k (by omega)), h n (by omega)⟩
theorem dbZ_y {a : Nat → Nat} {pi : Nat} (h0 : 0 < zSp a pi 0 (a (4 + pi))) (h1 : 0 < zSp a pi 1 (a (4 + pi))) : dbZ a pi = ((mxG (dbF a pi 1) (mxG (dbF a pi 0) 0 (a (4 + pi))) (a (4 + pi)) + 1 : Nat) : Int) := if_pos ⟨h0, h1⟩
theorem dbZ_n {a : Nat → Nat} {pi : Nat} (h : ¬ (0 < zSp a pi 0 (a (4 + pi)) ∧ 0 < zSp a pi 1 (a (4 + pi)))) : dbZ a pi = -1 := if_neg h
theorem dbZ_b {a : Nat → Nat} {pi : Nat} (h : plOk a pi) : -1 ≤ dbZ a pi ∧ dbZ a pi ≤ 9000000000001 := by
  rcases Classical.em (0 < zSp a pi 0 (a (4 + pi)) ∧ 0 < zSp a pi 1 (a (4 + pi))) with q | q
  · rw [dbZ_y q.1 q.2]
    have := mxG_b (f := dbF a pi 1) (m := mxG (dbF a pi 0) 0 (a (4 + pi))) (B := 9000000000000) (mxG_b (by omega) (fun k hk => dbF_b h (by decide) hk q.1)) (n := a (4 + pi)) (fun k hk => dbF_b h (by decide) hk q.2)
    omega
  · rw [dbZ_n q]
    omega
set_option maxHeartbeats 4000000 in
set_option maxRecDepth 100000 in
theorem cM_doubtOf (l : Launch) (D : va_G) (ad : Nat → Nat) (cI cJ : ClassId) (a kp bt sz : Nat → Nat) (sheets : Nat → Int32) (go ro : Nat → Nat) (car : Nat → Int32) (ke km fi gm bs bu : Nat) (n1 n2 n3 n4 n5 n6 n7 : Int64) (px py db : Nat → Int64) (pi : Nat) (hp0 : pi < 6) (hp : plOk a pi) : mq_l l D (mT cI cJ) yX12_doubtOf wsX12_doubtOf 1 0 0 27 [.ref (ad 0), .int (nI (pi))] (mW ad cI cJ a kp bt sz sheets go ro car ke km fi gm bs bu n1 n2 n3 n4 n5 n6 n7 px py db) (fun r w1 => r = lZ (dbZ a pi) ∧ ∃ m1 m2 m3 m4 m5 m6 m7 : Int64, w1 = mW ad cI cJ a kp bt sz sheets go ro car ke km fi gm bs bu m1 m2 m3 m4 m5 m6 m7 px py db) := by
  refine mq_l_of (cc := cX12_doubtOf) (maxL := 13) (by decide) rfl (Nat.le_of_ble_eq_true rfl) ?_
  intro p e s m args below meth c A Q ls hx hb hts hown hml hnm hA hP hK hD hS hl hret
  have hown : s.vm.findClass RX12 = some m.cls := hown
  have hinX12 : ∀ w ∈ u_ws RX12 TX12 24, w ∈ wsX12_doubtOf := by decide +kernel
  have hl : lv_has ls 13 [(0, .ref (ad 0)), (1, .int (nI (pi)))] := hl
  refine lv_lconst (v := 0) hx hb dX12_doubtOf_0 (by decide) ?_
  refine lv_lstore_n (lv' := [(2, .long (0)), (0, .ref (ad 0)), (1, .int (nI (pi)))]) hx hb dX12_doubtOf_1 rfl hl (by decide) rfl (fun ls hl => ?_)
  refine lv_iconst (v := (nI (0))) hx hb dX12_doubtOf_2 (by decide) ?_
  refine lv_istore (lv' := [(4, .int (nI (0))), (2, .long (0)), (0, .ref (ad 0)), (1, .int (nI (pi)))]) hx hb dX12_doubtOf_3 hl (by decide) rfl (fun ls hl => ?_)
  refine lv_iload hx hb dX12_doubtOf_5 (lv_at hl 0 rfl) ?_
  refine lv_iconst (v := (nI (2))) hx hb dX12_doubtOf_7 (by decide) ?_
  have hpn := hp.1
  refine ln_icmp_ge (tgt := 150) hx hb dX12_doubtOf_8 (by decide) (by omega) (by omega) (fun c9 => ?_) (fun c9 => ?_)
  · exact absurd c9 (by decide)
  · refine lv_aload_n hx hb dX12_doubtOf_11 rfl (lv_at hl 2 rfl) ?_
    refine lv_iload_n hx hb dX12_doubtOf_12 rfl (lv_at hl 3 rfl) ?_
    refine lv_iload hx hb dX12_doubtOf_13 (lv_at hl 0 rfl) ?_
    refine mq_Vi (As := [.int (nI (pi)), .int (nI (0))]) (rest := []) (ci := 12) (k0 := 0) ⟨hx, hb, hml, hown, hts⟩ (cM_leads l D ad cI cJ a kp bt sz sheets go ro car ke km fi gm bs bu n1 n2 n3 n4 n5 n6 n7 px py db (pi) (0) hp0 (by decide) hp.1) (cwV 2 hts gX12_doubtOf_X12_leads rfl rfl rfl (by decide +kernel) ⟨Nat.le_of_ble_eq_true rfl, Nat.le_of_ble_eq_true rfl⟩) rfl rfl hP hK hD hS hA rfl hl.1 rfl (Nat.le_of_ble_eq_true rfl) dX12_doubtOf_15 ⟨Nat.le_of_ble_eq_true rfl, Nat.le_of_ble_eq_true rfl⟩ (fun r w1 H locs hq hP hD hS => ?_)
    obtain ⟨rfl, rfl⟩ := hq
    refine lb_if_ne (tgt := 25) hx hb dX12_doubtOf_18 (by decide) (fun c10 => ?_) (fun c10 => ?_)
    · have hs0 : 0 < zSp a pi 0 (a (4 + pi)) := (lSp_pos hp (by decide)).mp c10
      refine lv_aload_n hx hb dX12_doubtOf_25 rfl (lv_at hl 2 rfl) ?_
      refine va_get (D := D) (ci := 12) (v := .long ((nI (a (4 + (pi)))).toInt64)) (C := RX12) (T := TX12) (N := 24) hx hb hts hinX12 hown hK hP 0 rfl rfl 8 (by decide) (hts (.fieldLink RX12 78 "CornDeskModel" "n" "J") (by decide +kernel)) (fun _ h9 => h9) rfl dX12_doubtOf_26 ?_
      refine lv_aload_n hx hb dX12_doubtOf_29 rfl (lv_at hl 2 rfl) ?_
      refine va_get (D := D) (ci := 12) (v := .long (lSp a (pi) (0) (a (4 + (pi))))) (C := RX12) (T := TX12) (N := 24) hx hb hts hinX12 hown hK hP 0 rfl rfl 14 (by decide) (hts (.fieldLink RX12 97 "CornDeskModel" "spread" "J") (by decide +kernel)) (fun _ h9 => h9) rfl dX12_doubtOf_30 ?_
      refine lv_lmul hx hb dX12_doubtOf_33 ?_
      refine ln_eql (y := (lN (zUn a pi 0 (a (4 + pi))))) (lUn_z hp (by decide) hs0) ?_
      have hU0 := zUn_pos hp (show 0 < 2 by decide) hs0
      have hU1 := zUn_le hp (show 0 < 2 by decide)
      refine lv_lstore (lv' := [(5, .long (lN (zUn a pi 0 (a (4 + pi))))), (4, .int (nI (0))), (2, .long (0)), (0, .ref (ad 0)), (1, .int (nI (pi)))]) hx hb dX12_doubtOf_34 hl (by decide) rfl (fun ls hl => ?_)
      refine lv_iconst (v := (nI (0))) hx hb dX12_doubtOf_36 (by decide) ?_
      refine lv_istore (lv' := [(7, .int (nI (0))), (5, .long (lN (zUn a pi 0 (a (4 + pi))))), (4, .int (nI (0))), (2, .long (0)), (0, .ref (ad 0)), (1, .int (nI (pi)))]) hx hb dX12_doubtOf_37 hl (by decide) rfl (fun ls hl => ?_)
      have lp0 : ∀ (n : Nat) (k : Nat) (mo : Nat), (k + n = a (4 + pi)) → (mo = mxG (dbF a pi 0) 0 k) → (mo ≤ 9000000000000) → ∀ (H : Heap) (locs : List Loc) (ls : Array Slot), va_P D vwCl (mW ad cI cJ a kp bt sz sheets go ro car ke km fi gm bs bu ((nI (a (4 + (pi)))).toInt64) (lSU a (pi) (0) (a (4 + (pi)))) (lSX a (pi) (0) (a (4 + (pi)))) (lUU a (pi) (0) (a (4 + (pi)))) (lUX a (pi) (0) (a (4 + (pi)))) (lXX a (pi) (0) (a (4 + (pi)))) (lSp a (pi) (0) (a (4 + (pi)))) px py db) H → va_D A (mW ad cI cJ a kp bt sz sheets go ro car ke km fi gm bs bu ((nI (a (4 + (pi)))).toInt64) (lSU a (pi) (0) (a (4 + (pi)))) (lSX a (pi) (0) (a (4 + (pi)))) (lUU a (pi) (0) (a (4 + (pi)))) (lUX a (pi) (0) (a (4 + (pi)))) (lXX a (pi) (0) (a (4 + (pi)))) (lSp a (pi) (0) (a (4 + (pi)))) px py db) → va_S A s.heap H locs → lv_has ls 13 [(7, .int (nI (k))), (2, .long (lN mo)), (0, .ref (ad 0)), (1, .int (nI (pi))), (4, .int (nI (0))), (5, .long (lN (zUn a pi 0 (a (4 + pi)))))] → W p l e (mq_R 1 0 0 27) s m args below meth c H locs 0 0 Q (F0 m 39 ls []) := by
        intro n
        induction n with
        | zero =>
          intro k mo hk hmo hmb H locs ls hP hD hS hl
          refine lv_iload hx hb dX12_doubtOf_39 (lv_at hl 0 rfl) ?_
          refine lv_i2l hx hb dX12_doubtOf_41 rfl ?_
          refine lv_aload_n hx hb dX12_doubtOf_42 rfl (lv_at hl 2 rfl) ?_
          refine va_get (D := D) (ci := 12) (v := .long ((nI (a (4 + (pi)))).toInt64)) (C := RX12) (T := TX12) (N := 24) hx hb hts hinX12 hown hK hP 0 rfl rfl 8 (by decide) (hts (.fieldLink RX12 78 "CornDeskModel" "n" "J") (by decide +kernel)) (fun _ h9 => h9) rfl dX12_doubtOf_43 ?_
          refine W.lcmp hx hb dX12_doubtOf_46 ?_
          refine lv_if_ge (tgt := 144) hx hb dX12_doubtOf_47 (by decide) (fun c1 => ?_) (fun c1 => ?_)
          · have hk0 : k = a (4 + pi) := by omega
            subst hk0
            refine lv_iinc (v := (nI (1))) (lv' := [(4, .int (nI (1))), (7, .int (nI (a (4 + pi)))), (2, .long (lN mo)), (0, .ref (ad 0)), (1, .int (nI (pi))), (5, .long (lN (zUn a pi 0 (a (4 + pi)))))]) hx hb dX12_doubtOf_144 hl (k := 4) rfl (by decide) (by decide) rfl (fun ls hl => ?_)
            refine lv_goto (tgt := 5) hx hb dX12_doubtOf_147 (by decide) ?_
            refine lv_iload hx hb dX12_doubtOf_5 (lv_at hl 0 rfl) ?_
            refine lv_iconst (v := (nI (2))) hx hb dX12_doubtOf_7 (by decide) ?_
            refine ln_icmp_ge (tgt := 150) hx hb dX12_doubtOf_8 (by decide) (by omega) (by omega) (fun c20 => ?_) (fun c20 => ?_)
            · exact absurd c20 (by decide)
            · refine lv_aload_n hx hb dX12_doubtOf_11 rfl (lv_at hl 3 rfl) ?_
              refine lv_iload_n hx hb dX12_doubtOf_12 rfl (lv_at hl 4 rfl) ?_
              refine lv_iload hx hb dX12_doubtOf_13 (lv_at hl 0 rfl) ?_
              refine mq_Vi (As := [.int (nI (pi)), .int (nI (1))]) (rest := []) (ci := 12) (k0 := 0) ⟨hx, hb, hml, hown, hts⟩ (cM_leads l D ad cI cJ a kp bt sz sheets go ro car ke km fi gm bs bu ((nI (a (4 + (pi)))).toInt64) (lSU a (pi) (0) (a (4 + (pi)))) (lSX a (pi) (0) (a (4 + (pi)))) (lUU a (pi) (0) (a (4 + (pi)))) (lUX a (pi) (0) (a (4 + (pi)))) (lXX a (pi) (0) (a (4 + (pi)))) (lSp a (pi) (0) (a (4 + (pi)))) px py db (pi) (1) hp0 (by decide) hp.1) (cwV 2 hts gX12_doubtOf_X12_leads rfl rfl rfl (by decide +kernel) ⟨Nat.le_of_ble_eq_true rfl, Nat.le_of_ble_eq_true rfl⟩) rfl rfl hP hK hD hS hA rfl hl.1 rfl (Nat.le_of_ble_eq_true rfl) dX12_doubtOf_15 ⟨Nat.le_of_ble_eq_true rfl, Nat.le_of_ble_eq_true rfl⟩ (fun r w1 H locs hq hP hD hS => ?_)
              obtain ⟨rfl, rfl⟩ := hq
              refine lb_if_ne (tgt := 25) hx hb dX12_doubtOf_18 (by decide) (fun c11 => ?_) (fun c11 => ?_)
              · have hs1 : 0 < zSp a pi 1 (a (4 + pi)) := (lSp_pos hp (by decide)).mp c11
                refine lv_aload_n hx hb dX12_doubtOf_25 rfl (lv_at hl 3 rfl) ?_
                refine va_get (D := D) (ci := 12) (v := .long ((nI (a (4 + (pi)))).toInt64)) (C := RX12) (T := TX12) (N := 24) hx hb hts hinX12 hown hK hP 0 rfl rfl 8 (by decide) (hts (.fieldLink RX12 78 "CornDeskModel" "n" "J") (by decide +kernel)) (fun _ h9 => h9) rfl dX12_doubtOf_26 ?_
                refine lv_aload_n hx hb dX12_doubtOf_29 rfl (lv_at hl 3 rfl) ?_
                refine va_get (D := D) (ci := 12) (v := .long (lSp a (pi) (1) (a (4 + (pi))))) (C := RX12) (T := TX12) (N := 24) hx hb hts hinX12 hown hK hP 0 rfl rfl 14 (by decide) (hts (.fieldLink RX12 97 "CornDeskModel" "spread" "J") (by decide +kernel)) (fun _ h9 => h9) rfl dX12_doubtOf_30 ?_
                refine lv_lmul hx hb dX12_doubtOf_33 ?_
                refine ln_eql (y := (lN (zUn a pi 1 (a (4 + pi))))) (lUn_z hp (by decide) hs1) ?_
                have hU0 := zUn_pos hp (show 1 < 2 by decide) hs1
                have hU1 := zUn_le hp (show 1 < 2 by decide)
                refine lv_lstore (lv' := [(5, .long (lN (zUn a pi 1 (a (4 + pi))))), (4, .int (nI (1))), (7, .int (nI (a (4 + pi)))), (2, .long (lN mo)), (0, .ref (ad 0)), (1, .int (nI (pi)))]) hx hb dX12_doubtOf_34 hl (by decide) rfl (fun ls hl => ?_)
                refine lv_iconst (v := (nI (0))) hx hb dX12_doubtOf_36 (by decide) ?_
                refine lv_istore (lv' := [(7, .int (nI (0))), (5, .long (lN (zUn a pi 1 (a (4 + pi))))), (4, .int (nI (1))), (2, .long (lN mo)), (0, .ref (ad 0)), (1, .int (nI (pi)))]) hx hb dX12_doubtOf_37 hl (by decide) rfl (fun ls hl => ?_)
                have hm0 := hmo
                have lp1 : ∀ (n : Nat) (k : Nat) (mo : Nat), (k + n = a (4 + pi)) → (mo = mxG (dbF a pi 1) (mxG (dbF a pi 0) 0 (a (4 + pi))) k) → (mo ≤ 9000000000000) → ∀ (H : Heap) (locs : List Loc) (ls : Array Slot), va_P D vwCl (mW ad cI cJ a kp bt sz sheets go ro car ke km fi gm bs bu ((nI (a (4 + (pi)))).toInt64) (lSU a (pi) (1) (a (4 + (pi)))) (lSX a (pi) (1) (a (4 + (pi)))) (lUU a (pi) (1) (a (4 + (pi)))) (lUX a (pi) (1) (a (4 + (pi)))) (lXX a (pi) (1) (a (4 + (pi)))) (lSp a (pi) (1) (a (4 + (pi)))) px py db) H → va_D A (mW ad cI cJ a kp bt sz sheets go ro car ke km fi gm bs bu ((nI (a (4 + (pi)))).toInt64) (lSU a (pi) (1) (a (4 + (pi)))) (lSX a (pi) (1) (a (4 + (pi)))) (lUU a (pi) (1) (a (4 + (pi)))) (lUX a (pi) (1) (a (4 + (pi)))) (lXX a (pi) (1) (a (4 + (pi)))) (lSp a (pi) (1) (a (4 + (pi)))) px py db) → va_S A s.heap H locs → lv_has ls 13 [(7, .int (nI (k))), (2, .long (lN mo)), (0, .ref (ad 0)), (1, .int (nI (pi))), (4, .int (nI (1))), (5, .long (lN (zUn a pi 1 (a (4 + pi)))))] → W p l e (mq_R 1 0 0 27) s m args below meth c H locs 0 0 Q (F0 m 39 ls []) := by
                  intro n
                  induction n with
                  | zero =>
                    intro k mo hk hmo hmb H locs ls hP hD hS hl
                    refine lv_iload hx hb dX12_doubtOf_39 (lv_at hl 0 rfl) ?_
                    refine lv_i2l hx hb dX12_doubtOf_41 rfl ?_
                    refine lv_aload_n hx hb dX12_doubtOf_42 rfl (lv_at hl 2 rfl) ?_
                    refine va_get (D := D) (ci := 12) (v := .long ((nI (a (4 + (pi)))).toInt64)) (C := RX12) (T := TX12) (N := 24) hx hb hts hinX12 hown hK hP 0 rfl rfl 8 (by decide) (hts (.fieldLink RX12 78 "CornDeskModel" "n" "J") (by decide +kernel)) (fun _ h9 => h9) rfl dX12_doubtOf_43 ?_
                    refine W.lcmp hx hb dX12_doubtOf_46 ?_
                    refine lv_if_ge (tgt := 144) hx hb dX12_doubtOf_47 (by decide) (fun c1 => ?_) (fun c1 => ?_)
                    · have hk0 : k = a (4 + pi) := by omega
                      subst hk0
                      refine lv_iinc (v := (nI (2))) (lv' := [(4, .int (nI (2))), (7, .int (nI (a (4 + pi)))), (2, .long (lN mo)), (0, .ref (ad 0)), (1, .int (nI (pi))), (5, .long (lN (zUn a pi 1 (a (4 + pi)))))]) hx hb dX12_doubtOf_144 hl (k := 4) rfl (by decide) (by decide) rfl (fun ls hl => ?_)
                      refine lv_goto (tgt := 5) hx hb dX12_doubtOf_147 (by decide) ?_
                      refine lv_iload hx hb dX12_doubtOf_5 (lv_at hl 0 rfl) ?_
                      refine lv_iconst (v := (nI (2))) hx hb dX12_doubtOf_7 (by decide) ?_
                      refine ln_icmp_ge (tgt := 150) hx hb dX12_doubtOf_8 (by decide) (by omega) (by omega) (fun c21 => ?_) (fun c21 => ?_)
                      · refine lv_lload_n hx hb dX12_doubtOf_150 rfl (lv_at hl 2 rfl) ?_
                        refine lv_lconst (v := 1) hx hb dX12_doubtOf_151 (by decide) ?_
                        refine lv_ladd hx hb dX12_doubtOf_152 ?_
                        exact hret _ _ _ _ _ _ ⟨by rw [dbZ_y hs0 hs1, ← hmo, show (1 : Int64) = lN 1 from rfl, lN_add]; exact lZ_N _, ⟨_, _, _, _, _, _, _, rfl⟩⟩ hP hD hS dX12_doubtOf_153
                      · exact absurd c21 (by decide)
                    · exact absurd (show 0 ≤ lg_cmp (nI k).toInt64 (nI (a (4 + pi))).toInt64 by rw [show k = a (4 + pi) by omega, lg_cmp_ge]; exact Int64.le_refl _) c1
                  | succ n ih =>
                    intro k mo hk hmo hmb H locs ls hP hD hS hl
                    refine lv_iload hx hb dX12_doubtOf_39 (lv_at hl 0 rfl) ?_
                    refine lv_i2l hx hb dX12_doubtOf_41 rfl ?_
                    refine lv_aload_n hx hb dX12_doubtOf_42 rfl (lv_at hl 2 rfl) ?_
                    refine va_get (D := D) (ci := 12) (v := .long ((nI (a (4 + (pi)))).toInt64)) (C := RX12) (T := TX12) (N := 24) hx hb hts hinX12 hown hK hP 0 rfl rfl 8 (by decide) (hts (.fieldLink RX12 78 "CornDeskModel" "n" "J") (by decide +kernel)) (fun _ h9 => h9) rfl dX12_doubtOf_43 ?_
                    refine W.lcmp hx hb dX12_doubtOf_46 ?_
                    refine lv_if_ge (tgt := 144) hx hb dX12_doubtOf_47 (by decide) (fun c1 => ?_) (fun c1 => ?_)
                    · have c1 : 0 ≤ lg_cmp (nI k).toInt64 (nI (a (4 + pi))).toInt64 := c1
                      rw [nI_l (show k < 2 ^ 31 by omega), nI_l (show a (4 + pi) < 2 ^ 31 by omega), lg_cmp_ge, pk_lLE (by omega) (by omega)] at c1
                      exact absurd c1 (by omega)
                    · have hkn : k < a (4 + pi) := by omega
                      refine lv_bipush (v := (nI (10))) hx hb dX12_doubtOf_50 (by decide) ?_
                      refine lv_bipush (v := (nI (32))) hx hb dX12_doubtOf_52 (by decide) ?_
                      refine lv_iload_n hx hb dX12_doubtOf_54 rfl (lv_at hl 3 rfl) ?_
                      refine ln_imul hx hb dX12_doubtOf_55 ?_
                      refine ln_iadd hx hb dX12_doubtOf_56 ?_
                      refine lv_iconst (v := (nI (4))) hx hb dX12_doubtOf_57 (by decide) ?_
                      refine lv_iload hx hb dX12_doubtOf_58 (lv_at hl 0 rfl) ?_
                      refine ln_imul hx hb dX12_doubtOf_60 ?_
                      refine ln_iadd hx hb dX12_doubtOf_61 ?_
                      refine lv_iload hx hb dX12_doubtOf_62 (lv_at hl 4 rfl) ?_
                      refine ln_iadd hx hb dX12_doubtOf_64 ?_
                      refine lv_istore (lv' := [(8, .int (nI (10 + (32) * (pi) + (4) * (k) + 1))), (7, .int (nI (k))), (2, .long (lN mo)), (0, .ref (ad 0)), (1, .int (nI (pi))), (4, .int (nI (1))), (5, .long (lN (zUn a pi 1 (a (4 + pi)))))]) hx hb dX12_doubtOf_65 hl (by decide) rfl (fun ls hl => ?_)
                      refine lv_aload_n hx hb dX12_doubtOf_67 rfl (lv_at hl 3 rfl) ?_
                      refine va_get (D := D) (ci := 12) (v := .ref (ad 1)) (C := RX12) (T := TX12) (N := 24) hx hb hts hinX12 hown hK hP 0 rfl rfl 0 (by decide) (hts (.fieldLink RX12 9 "CornDeskModel" "now" "[I") (by decide +kernel)) (fun _ h9 => h9) rfl dX12_doubtOf_68 ?_
                      refine lv_iload hx hb dX12_doubtOf_71 (lv_at hl 0 rfl) ?_
                      refine lv_iconst (v := (nI (2))) hx hb dX12_doubtOf_73 (by decide) ?_
                      refine ln_iadd hx hb dX12_doubtOf_74 ?_
                      refine ln_iald hx hb hK hP 1 0 rfl rfl (by decide) (by omega) dX12_doubtOf_75 ?_
                      refine lv_i2l hx hb dX12_doubtOf_76 rfl ?_
                      refine ln_eql (y := (lZ (zX a pi 1 k))) (by rw [show 10 + 32 * pi + 4 * k + 1 + 2 = 10 + 32 * pi + 4 * k + 2 + 1 by omega]; exact lX_z hp (by decide) hkn) ?_
                      refine lv_lload hx hb dX12_doubtOf_77 (lv_at hl 6 rfl) ?_
                      refine lv_lmul hx hb dX12_doubtOf_79 ?_
                      refine lv_aload_n hx hb dX12_doubtOf_80 rfl (lv_at hl 3 rfl) ?_
                      refine lv_aload_n hx hb dX12_doubtOf_81 rfl (lv_at hl 3 rfl) ?_
                      refine va_get (D := D) (ci := 12) (v := .ref (ad 1)) (C := RX12) (T := TX12) (N := 24) hx hb hts hinX12 hown hK hP 0 rfl rfl 0 (by decide) (hts (.fieldLink RX12 9 "CornDeskModel" "now" "[I") (by decide +kernel)) (fun _ h9 => h9) rfl dX12_doubtOf_82 ?_
                      refine lv_iload hx hb dX12_doubtOf_85 (lv_at hl 0 rfl) ?_
                      refine ln_iald hx hb hK hP 1 0 rfl rfl (by decide) (by omega) dX12_doubtOf_87 ?_
                      refine lv_i2l hx hb dX12_doubtOf_88 rfl ?_
                      refine ln_eql (y := (lZ (zU a pi 1 k))) (lU_z hp (by decide) hkn) ?_
                      refine mq_Vl (As := [.long (lZ (zU a pi 1 k))]) (rest := [.long ((lZ (zX a pi 1 k)) * (lN (zUn a pi 1 (a (4 + pi)))))]) (ci := 12) (k0 := 0) ⟨hx, hb, hml, hown, hts⟩ (cM_aboveAt l D ad cI cJ a kp bt sz sheets go ro car ke km fi gm bs bu ((nI (a (4 + (pi)))).toInt64) (lSU a (pi) (1) (a (4 + (pi)))) (lSX a (pi) (1) (a (4 + (pi)))) (lUU a (pi) (1) (a (4 + (pi)))) (lUX a (pi) (1) (a (4 + (pi)))) (lXX a (pi) (1) (a (4 + (pi)))) (lSp a (pi) (1) (a (4 + (pi)))) px py db (lZ (zU a pi 1 k)) ) (cwV 1 hts gX12_doubtOf_X12_aboveAt rfl rfl rfl (by decide +kernel) ⟨Nat.le_of_ble_eq_true rfl, Nat.le_of_ble_eq_true rfl⟩) rfl rfl hP hK hD hS hA rfl hl.1 rfl (Nat.le_of_ble_eq_true rfl) dX12_doubtOf_89 ⟨Nat.le_of_ble_eq_true rfl, Nat.le_of_ble_eq_true rfl⟩ (fun r w1 H locs hq hP hD hS => ?_)
                      obtain ⟨rfl, rfl⟩ := hq
                      refine ln_eql (y := (lZ (zAb a pi 1 (a (4 + pi)) (zU a pi 1 k)))) (lAb_z hp (by decide) _) ?_
                      refine lv_lsub hx hb dX12_doubtOf_92 ?_
                      refine ln_eql (y := (lZ (zLf a pi 1 k))) (by rw [lZ_N, lZ_mul, lZ_sub]; rfl) ?_
                      refine lv_lstore (lv' := [(9, .long (lZ (zLf a pi 1 k))), (8, .int (nI (10 + (32) * (pi) + (4) * (k) + 1))), (7, .int (nI (k))), (2, .long (lN mo)), (0, .ref (ad 0)), (1, .int (nI (pi))), (4, .int (nI (1))), (5, .long (lN (zUn a pi 1 (a (4 + pi)))))]) hx hb dX12_doubtOf_93 hl (by decide) rfl (fun ls hl => ?_)
                      have hLb := zLf_b hp (show 1 < 2 by decide) hkn
                      have tl1 : ∀ (H : Heap) (locs : List Loc) (ls : Array Slot), va_P D vwCl (mW ad cI cJ a kp bt sz sheets go ro car ke km fi gm bs bu ((nI (a (4 + (pi)))).toInt64) (lSU a (pi) (1) (a (4 + (pi)))) (lSX a (pi) (1) (a (4 + (pi)))) (lUU a (pi) (1) (a (4 + (pi)))) (lUX a (pi) (1) (a (4 + (pi)))) (lXX a (pi) (1) (a (4 + (pi)))) (lSp a (pi) (1) (a (4 + (pi)))) px py db) H → va_D A (mW ad cI cJ a kp bt sz sheets go ro car ke km fi gm bs bu ((nI (a (4 + (pi)))).toInt64) (lSU a (pi) (1) (a (4 + (pi)))) (lSX a (pi) (1) (a (4 + (pi)))) (lUU a (pi) (1) (a (4 + (pi)))) (lUX a (pi) (1) (a (4 + (pi)))) (lXX a (pi) (1) (a (4 + (pi)))) (lSp a (pi) (1) (a (4 + (pi)))) px py db) → va_S A s.heap H locs → lv_has ls 13 [(7, .int (nI (k))), (2, .long (lN mo)), (0, .ref (ad 0)), (1, .int (nI (pi))), (4, .int (nI (1))), (5, .long (lN (zUn a pi 1 (a (4 + pi)))))] → W p l e (mq_R 1 0 0 27) s m args below meth c H locs 0 0 Q (F0 m 110 ls [.long (lN (zLf a pi 1 k).natAbs)]) := by
                        intro   H locs ls hP hD hS hl
                        refine lv_lstore (lv' := [(9, .long (lN (zLf a pi 1 k).natAbs)), (7, .int (nI (k))), (2, .long (lN mo)), (0, .ref (ad 0)), (1, .int (nI (pi))), (4, .int (nI (1))), (5, .long (lN (zUn a pi 1 (a (4 + pi)))))]) hx hb dX12_doubtOf_110 hl (by decide) rfl (fun ls hl => ?_)
                        refine lv_lload hx hb dX12_doubtOf_112 (lv_at hl 0 rfl) ?_
                        refine lv_lload hx hb dX12_doubtOf_114 (lv_at hl 6 rfl) ?_
                        refine lv_ladd hx hb dX12_doubtOf_116 ?_
                        refine ln_eql (y := (lN ((zLf a pi 1 k).natAbs + zUn a pi 1 (a (4 + pi))))) (lN_add _ _) ?_
                        refine lv_lconst (v := 1) hx hb dX12_doubtOf_117 (by decide) ?_
                        refine lv_lsub hx hb dX12_doubtOf_118 ?_
                        refine ln_eql (y := (lN ((zLf a pi 1 k).natAbs + zUn a pi 1 (a (4 + pi)) - 1))) (lN_sub (b := 1) (by omega)) ?_
                        refine lv_lload hx hb dX12_doubtOf_119 (lv_at hl 6 rfl) ?_
                        refine lv_ldiv hx hb dX12_doubtOf_121 (fun q => by have := (lN0 (by omega)).mp q; omega) ?_
                        refine ln_eql (y := (lN (dbF a pi 1 k))) (pk_lDiv (by omega) hU0 (by omega)) ?_
                        have hdb := dbF_b hp (show 1 < 2 by decide) hkn hs1
                        refine lv_lstore (lv' := [(11, .long (lN (dbF a pi 1 k))), (9, .long (lN (zLf a pi 1 k).natAbs)), (7, .int (nI (k))), (2, .long (lN mo)), (0, .ref (ad 0)), (1, .int (nI (pi))), (4, .int (nI (1))), (5, .long (lN (zUn a pi 1 (a (4 + pi)))))]) hx hb dX12_doubtOf_122 hl (by decide) rfl (fun ls hl => ?_)
                        refine lv_lload hx hb dX12_doubtOf_124 (lv_at hl 0 rfl) ?_
                        refine lv_lload_n hx hb dX12_doubtOf_126 rfl (lv_at hl 3 rfl) ?_
                        refine W.lcmp hx hb dX12_doubtOf_127 ?_
                        refine lv_if_le (tgt := 136) hx hb dX12_doubtOf_128 (by decide) (fun c3 => ?_) (fun c3 => ?_)
                        · have c3 : dbF a pi 1 k ≤ mo := (pk_lLE (by omega) (by omega)).mp ((lg_cmp_le _ _).mp c3)
                          refine lv_lload_n hx hb dX12_doubtOf_136 rfl (lv_at hl 3 rfl) ?_
                          refine ln_eql (y := (lN (max mo (dbF a pi 1 k)))) (by rw [Nat.max_eq_left c3]) ?_
                          refine lv_lstore_n (lv' := [(2, .long (lN (max mo (dbF a pi 1 k)))), (11, .long (lN (dbF a pi 1 k))), (9, .long (lN (zLf a pi 1 k).natAbs)), (7, .int (nI (k))), (0, .ref (ad 0)), (1, .int (nI (pi))), (4, .int (nI (1))), (5, .long (lN (zUn a pi 1 (a (4 + pi)))))]) hx hb dX12_doubtOf_137 rfl hl (by decide) rfl (fun ls hl => ?_)
                          refine lv_iinc (v := (nI (k + 1))) (lv' := [(7, .int (nI (k + 1))), (2, .long (lN (max mo (dbF a pi 1 k)))), (11, .long (lN (dbF a pi 1 k))), (9, .long (lN (zLf a pi 1 k).natAbs)), (0, .ref (ad 0)), (1, .int (nI (pi))), (4, .int (nI (1))), (5, .long (lN (zUn a pi 1 (a (4 + pi)))))]) hx hb dX12_doubtOf_138 hl (k := 3) rfl (by rw [show (Int32.ofInt 1) = nI 1 from rfl, nI_add]) (by decide) rfl (fun ls hl => ?_)
                          refine lv_goto (tgt := 39) hx hb dX12_doubtOf_141 (by decide) ?_
                          exact ih (k + 1) (max mo (dbF a pi 1 k)) (by omega) (by rw [mxG_s, hmo]) (by omega) _ _ _ hP hD hS (lv_sub hl [0, 1, 4, 5, 6, 7] rfl)
                        · have c3 : mo ≤ dbF a pi 1 k := Nat.le_of_not_le (fun q => c3 ((lg_cmp_le _ _).mpr ((pk_lLE (by omega) (by omega)).mpr q)))
                          refine lv_lload hx hb dX12_doubtOf_131 (lv_at hl 0 rfl) ?_
                          refine lv_goto (tgt := 137) hx hb dX12_doubtOf_133 (by decide) ?_
                          refine ln_eql (y := (lN (max mo (dbF a pi 1 k)))) (by rw [Nat.max_eq_right c3]) ?_
                          refine lv_lstore_n (lv' := [(2, .long (lN (max mo (dbF a pi 1 k)))), (11, .long (lN (dbF a pi 1 k))), (9, .long (lN (zLf a pi 1 k).natAbs)), (7, .int (nI (k))), (0, .ref (ad 0)), (1, .int (nI (pi))), (4, .int (nI (1))), (5, .long (lN (zUn a pi 1 (a (4 + pi)))))]) hx hb dX12_doubtOf_137 rfl hl (by decide) rfl (fun ls hl => ?_)
                          refine lv_iinc (v := (nI (k + 1))) (lv' := [(7, .int (nI (k + 1))), (2, .long (lN (max mo (dbF a pi 1 k)))), (11, .long (lN (dbF a pi 1 k))), (9, .long (lN (zLf a pi 1 k).natAbs)), (0, .ref (ad 0)), (1, .int (nI (pi))), (4, .int (nI (1))), (5, .long (lN (zUn a pi 1 (a (4 + pi)))))]) hx hb dX12_doubtOf_138 hl (k := 3) rfl (by rw [show (Int32.ofInt 1) = nI 1 from rfl, nI_add]) (by decide) rfl (fun ls hl => ?_)
                          refine lv_goto (tgt := 39) hx hb dX12_doubtOf_141 (by decide) ?_
                          exact ih (k + 1) (max mo (dbF a pi 1 k)) (by omega) (by rw [mxG_s, hmo]) (by omega) _ _ _ hP hD hS (lv_sub hl [0, 1, 4, 5, 6, 7] rfl)
                      refine lv_lload hx hb dX12_doubtOf_95 (lv_at hl 0 rfl) ?_
                      refine lv_lconst (v := 0) hx hb dX12_doubtOf_97 (by decide) ?_
                      refine W.lcmp hx hb dX12_doubtOf_98 ?_
                      refine lv_if_ge (tgt := 108) hx hb dX12_doubtOf_99 (by decide) (fun c2 => ?_) (fun c2 => ?_)
                      · refine lv_lload hx hb dX12_doubtOf_108 (lv_at hl 0 rfl) ?_
                        refine ln_eql (y := (lN (zLf a pi 1 k).natAbs)) (by rw [lZ_N]; exact congrArg lZ (by have := (lZ_le (x := 0) (y := zLf a pi 1 k) (by omega) (by omega)).mp ((lg_cmp_ge _ _).mp c2); omega)) ?_
                        exact tl1   _ _ _ hP hD hS (lv_sub hl [2, 3, 4, 5, 6, 7] rfl)
                      · refine lv_lload hx hb dX12_doubtOf_102 (lv_at hl 0 rfl) ?_
                        refine lv_lneg hx hb dX12_doubtOf_104 ?_
                        refine lv_goto (tgt := 110) hx hb dX12_doubtOf_105 (by decide) ?_
                        refine ln_eql (y := (lN (zLf a pi 1 k).natAbs)) (by rw [lZ_neg, lZ_N]; exact congrArg lZ (by have : ¬ 0 ≤ zLf a pi 1 k := fun q => c2 ((lg_cmp_ge _ _).mpr ((lZ_le (x := 0) (y := zLf a pi 1 k) (by omega) (by omega)).mpr q)); omega)) ?_
                        exact tl1   _ _ _ hP hD hS (lv_sub hl [2, 3, 4, 5, 6, 7] rfl)
                exact lp1 (a (4 + pi)) (0) (mo) (by omega) (hmo) (hmb) _ _ _ hP hD hS (lv_sub hl [0, 3, 4, 5, 2, 1] rfl)
              · refine lv_ldc2 (v := (-1)) hx hb hown (hts (.constantLong RX12 115 (-1)) (by decide +kernel)) dX12_doubtOf_21 ?_
                exact hret _ _ _ _ _ _ ⟨by rw [dbZ_n (fun q => c11 ((lSp_pos hp (by decide)).mpr q.2))]; rfl, ⟨_, _, _, _, _, _, _, rfl⟩⟩ hP hD hS dX12_doubtOf_24
          · exact absurd (show 0 ≤ lg_cmp (nI k).toInt64 (nI (a (4 + pi))).toInt64 by rw [show k = a (4 + pi) by omega, lg_cmp_ge]; exact Int64.le_refl _) c1
        | succ n ih =>
          intro k mo hk hmo hmb H locs ls hP hD hS hl
          refine lv_iload hx hb dX12_doubtOf_39 (lv_at hl 0 rfl) ?_
          refine lv_i2l hx hb dX12_doubtOf_41 rfl ?_
          refine lv_aload_n hx hb dX12_doubtOf_42 rfl (lv_at hl 2 rfl) ?_
          refine va_get (D := D) (ci := 12) (v := .long ((nI (a (4 + (pi)))).toInt64)) (C := RX12) (T := TX12) (N := 24) hx hb hts hinX12 hown hK hP 0 rfl rfl 8 (by decide) (hts (.fieldLink RX12 78 "CornDeskModel" "n" "J") (by decide +kernel)) (fun _ h9 => h9) rfl dX12_doubtOf_43 ?_
          refine W.lcmp hx hb dX12_doubtOf_46 ?_
          refine lv_if_ge (tgt := 144) hx hb dX12_doubtOf_47 (by decide) (fun c1 => ?_) (fun c1 => ?_)
          · have c1 : 0 ≤ lg_cmp (nI k).toInt64 (nI (a (4 + pi))).toInt64 := c1
            rw [nI_l (show k < 2 ^ 31 by omega), nI_l (show a (4 + pi) < 2 ^ 31 by omega), lg_cmp_ge, pk_lLE (by omega) (by omega)] at c1
            exact absurd c1 (by omega)
          · have hkn : k < a (4 + pi) := by omega
            refine lv_bipush (v := (nI (10))) hx hb dX12_doubtOf_50 (by decide) ?_
            refine lv_bipush (v := (nI (32))) hx hb dX12_doubtOf_52 (by decide) ?_
            refine lv_iload_n hx hb dX12_doubtOf_54 rfl (lv_at hl 3 rfl) ?_
            refine ln_imul hx hb dX12_doubtOf_55 ?_
            refine ln_iadd hx hb dX12_doubtOf_56 ?_
            refine lv_iconst (v := (nI (4))) hx hb dX12_doubtOf_57 (by decide) ?_
            refine lv_iload hx hb dX12_doubtOf_58 (lv_at hl 0 rfl) ?_
            refine ln_imul hx hb dX12_doubtOf_60 ?_
            refine ln_iadd hx hb dX12_doubtOf_61 ?_
            refine lv_iload hx hb dX12_doubtOf_62 (lv_at hl 4 rfl) ?_
            refine ln_iadd hx hb dX12_doubtOf_64 ?_
            refine lv_istore (lv' := [(8, .int (nI (10 + (32) * (pi) + (4) * (k) + 0))), (7, .int (nI (k))), (2, .long (lN mo)), (0, .ref (ad 0)), (1, .int (nI (pi))), (4, .int (nI (0))), (5, .long (lN (zUn a pi 0 (a (4 + pi)))))]) hx hb dX12_doubtOf_65 hl (by decide) rfl (fun ls hl => ?_)
            refine lv_aload_n hx hb dX12_doubtOf_67 rfl (lv_at hl 3 rfl) ?_
            refine va_get (D := D) (ci := 12) (v := .ref (ad 1)) (C := RX12) (T := TX12) (N := 24) hx hb hts hinX12 hown hK hP 0 rfl rfl 0 (by decide) (hts (.fieldLink RX12 9 "CornDeskModel" "now" "[I") (by decide +kernel)) (fun _ h9 => h9) rfl dX12_doubtOf_68 ?_
            refine lv_iload hx hb dX12_doubtOf_71 (lv_at hl 0 rfl) ?_
            refine lv_iconst (v := (nI (2))) hx hb dX12_doubtOf_73 (by decide) ?_
            refine ln_iadd hx hb dX12_doubtOf_74 ?_
            refine ln_iald hx hb hK hP 1 0 rfl rfl (by decide) (by omega) dX12_doubtOf_75 ?_
            refine lv_i2l hx hb dX12_doubtOf_76 rfl ?_
            refine ln_eql (y := (lZ (zX a pi 0 k))) (by rw [show 10 + 32 * pi + 4 * k + 0 + 2 = 10 + 32 * pi + 4 * k + 2 + 0 by omega]; exact lX_z hp (by decide) hkn) ?_
            refine lv_lload hx hb dX12_doubtOf_77 (lv_at hl 6 rfl) ?_
            refine lv_lmul hx hb dX12_doubtOf_79 ?_
            refine lv_aload_n hx hb dX12_doubtOf_80 rfl (lv_at hl 3 rfl) ?_
            refine lv_aload_n hx hb dX12_doubtOf_81 rfl (lv_at hl 3 rfl) ?_
            refine va_get (D := D) (ci := 12) (v := .ref (ad 1)) (C := RX12) (T := TX12) (N := 24) hx hb hts hinX12 hown hK hP 0 rfl rfl 0 (by decide) (hts (.fieldLink RX12 9 "CornDeskModel" "now" "[I") (by decide +kernel)) (fun _ h9 => h9) rfl dX12_doubtOf_82 ?_
            refine lv_iload hx hb dX12_doubtOf_85 (lv_at hl 0 rfl) ?_
            refine ln_iald hx hb hK hP 1 0 rfl rfl (by decide) (by omega) dX12_doubtOf_87 ?_
            refine lv_i2l hx hb dX12_doubtOf_88 rfl ?_
            refine ln_eql (y := (lZ (zU a pi 0 k))) (lU_z hp (by decide) hkn) ?_
            refine mq_Vl (As := [.long (lZ (zU a pi 0 k))]) (rest := [.long ((lZ (zX a pi 0 k)) * (lN (zUn a pi 0 (a (4 + pi)))))]) (ci := 12) (k0 := 0) ⟨hx, hb, hml, hown, hts⟩ (cM_aboveAt l D ad cI cJ a kp bt sz sheets go ro car ke km fi gm bs bu ((nI (a (4 + (pi)))).toInt64) (lSU a (pi) (0) (a (4 + (pi)))) (lSX a (pi) (0) (a (4 + (pi)))) (lUU a (pi) (0) (a (4 + (pi)))) (lUX a (pi) (0) (a (4 + (pi)))) (lXX a (pi) (0) (a (4 + (pi)))) (lSp a (pi) (0) (a (4 + (pi)))) px py db (lZ (zU a pi 0 k)) ) (cwV 1 hts gX12_doubtOf_X12_aboveAt rfl rfl rfl (by decide +kernel) ⟨Nat.le_of_ble_eq_true rfl, Nat.le_of_ble_eq_true rfl⟩) rfl rfl hP hK hD hS hA rfl hl.1 rfl (Nat.le_of_ble_eq_true rfl) dX12_doubtOf_89 ⟨Nat.le_of_ble_eq_true rfl, Nat.le_of_ble_eq_true rfl⟩ (fun r w1 H locs hq hP hD hS => ?_)
            obtain ⟨rfl, rfl⟩ := hq
            refine ln_eql (y := (lZ (zAb a pi 0 (a (4 + pi)) (zU a pi 0 k)))) (lAb_z hp (by decide) _) ?_
            refine lv_lsub hx hb dX12_doubtOf_92 ?_
            refine ln_eql (y := (lZ (zLf a pi 0 k))) (by rw [lZ_N, lZ_mul, lZ_sub]; rfl) ?_
            refine lv_lstore (lv' := [(9, .long (lZ (zLf a pi 0 k))), (8, .int (nI (10 + (32) * (pi) + (4) * (k) + 0))), (7, .int (nI (k))), (2, .long (lN mo)), (0, .ref (ad 0)), (1, .int (nI (pi))), (4, .int (nI (0))), (5, .long (lN (zUn a pi 0 (a (4 + pi)))))]) hx hb dX12_doubtOf_93 hl (by decide) rfl (fun ls hl => ?_)
            have hLb := zLf_b hp (show 0 < 2 by decide) hkn
            have tl0 : ∀ (H : Heap) (locs : List Loc) (ls : Array Slot), va_P D vwCl (mW ad cI cJ a kp bt sz sheets go ro car ke km fi gm bs bu ((nI (a (4 + (pi)))).toInt64) (lSU a (pi) (0) (a (4 + (pi)))) (lSX a (pi) (0) (a (4 + (pi)))) (lUU a (pi) (0) (a (4 + (pi)))) (lUX a (pi) (0) (a (4 + (pi)))) (lXX a (pi) (0) (a (4 + (pi)))) (lSp a (pi) (0) (a (4 + (pi)))) px py db) H → va_D A (mW ad cI cJ a kp bt sz sheets go ro car ke km fi gm bs bu ((nI (a (4 + (pi)))).toInt64) (lSU a (pi) (0) (a (4 + (pi)))) (lSX a (pi) (0) (a (4 + (pi)))) (lUU a (pi) (0) (a (4 + (pi)))) (lUX a (pi) (0) (a (4 + (pi)))) (lXX a (pi) (0) (a (4 + (pi)))) (lSp a (pi) (0) (a (4 + (pi)))) px py db) → va_S A s.heap H locs → lv_has ls 13 [(7, .int (nI (k))), (2, .long (lN mo)), (0, .ref (ad 0)), (1, .int (nI (pi))), (4, .int (nI (0))), (5, .long (lN (zUn a pi 0 (a (4 + pi)))))] → W p l e (mq_R 1 0 0 27) s m args below meth c H locs 0 0 Q (F0 m 110 ls [.long (lN (zLf a pi 0 k).natAbs)]) := by
              intro   H locs ls hP hD hS hl
              refine lv_lstore (lv' := [(9, .long (lN (zLf a pi 0 k).natAbs)), (7, .int (nI (k))), (2, .long (lN mo)), (0, .ref (ad 0)), (1, .int (nI (pi))), (4, .int (nI (0))), (5, .long (lN (zUn a pi 0 (a (4 + pi)))))]) hx hb dX12_doubtOf_110 hl (by decide) rfl (fun ls hl => ?_)
              refine lv_lload hx hb dX12_doubtOf_112 (lv_at hl 0 rfl) ?_
              refine lv_lload hx hb dX12_doubtOf_114 (lv_at hl 6 rfl) ?_
              refine lv_ladd hx hb dX12_doubtOf_116 ?_
              refine ln_eql (y := (lN ((zLf a pi 0 k).natAbs + zUn a pi 0 (a (4 + pi))))) (lN_add _ _) ?_
              refine lv_lconst (v := 1) hx hb dX12_doubtOf_117 (by decide) ?_
              refine lv_lsub hx hb dX12_doubtOf_118 ?_
              refine ln_eql (y := (lN ((zLf a pi 0 k).natAbs + zUn a pi 0 (a (4 + pi)) - 1))) (lN_sub (b := 1) (by omega)) ?_
              refine lv_lload hx hb dX12_doubtOf_119 (lv_at hl 6 rfl) ?_
              refine lv_ldiv hx hb dX12_doubtOf_121 (fun q => by have := (lN0 (by omega)).mp q; omega) ?_
              refine ln_eql (y := (lN (dbF a pi 0 k))) (pk_lDiv (by omega) hU0 (by omega)) ?_
              have hdb := dbF_b hp (show 0 < 2 by decide) hkn hs0
              refine lv_lstore (lv' := [(11, .long (lN (dbF a pi 0 k))), (9, .long (lN (zLf a pi 0 k).natAbs)), (7, .int (nI (k))), (2, .long (lN mo)), (0, .ref (ad 0)), (1, .int (nI (pi))), (4, .int (nI (0))), (5, .long (lN (zUn a pi 0 (a (4 + pi)))))]) hx hb dX12_doubtOf_122 hl (by decide) rfl (fun ls hl => ?_)
              refine lv_lload hx hb dX12_doubtOf_124 (lv_at hl 0 rfl) ?_
              refine lv_lload_n hx hb dX12_doubtOf_126 rfl (lv_at hl 3 rfl) ?_
              refine W.lcmp hx hb dX12_doubtOf_127 ?_
              refine lv_if_le (tgt := 136) hx hb dX12_doubtOf_128 (by decide) (fun c3 => ?_) (fun c3 => ?_)
              · have c3 : dbF a pi 0 k ≤ mo := (pk_lLE (by omega) (by omega)).mp ((lg_cmp_le _ _).mp c3)
                refine lv_lload_n hx hb dX12_doubtOf_136 rfl (lv_at hl 3 rfl) ?_
                refine ln_eql (y := (lN (max mo (dbF a pi 0 k)))) (by rw [Nat.max_eq_left c3]) ?_
                refine lv_lstore_n (lv' := [(2, .long (lN (max mo (dbF a pi 0 k)))), (11, .long (lN (dbF a pi 0 k))), (9, .long (lN (zLf a pi 0 k).natAbs)), (7, .int (nI (k))), (0, .ref (ad 0)), (1, .int (nI (pi))), (4, .int (nI (0))), (5, .long (lN (zUn a pi 0 (a (4 + pi)))))]) hx hb dX12_doubtOf_137 rfl hl (by decide) rfl (fun ls hl => ?_)
                refine lv_iinc (v := (nI (k + 1))) (lv' := [(7, .int (nI (k + 1))), (2, .long (lN (max mo (dbF a pi 0 k)))), (11, .long (lN (dbF a pi 0 k))), (9, .long (lN (zLf a pi 0 k).natAbs)), (0, .ref (ad 0)), (1, .int (nI (pi))), (4, .int (nI (0))), (5, .long (lN (zUn a pi 0 (a (4 + pi)))))]) hx hb dX12_doubtOf_138 hl (k := 3) rfl (by rw [show (Int32.ofInt 1) = nI 1 from rfl, nI_add]) (by decide) rfl (fun ls hl => ?_)
                refine lv_goto (tgt := 39) hx hb dX12_doubtOf_141 (by decide) ?_
                exact ih (k + 1) (max mo (dbF a pi 0 k)) (by omega) (by rw [mxG_s, hmo]) (by omega) _ _ _ hP hD hS (lv_sub hl [0, 1, 4, 5, 6, 7] rfl)
              · have c3 : mo ≤ dbF a pi 0 k := Nat.le_of_not_le (fun q => c3 ((lg_cmp_le _ _).mpr ((pk_lLE (by omega) (by omega)).mpr q)))
                refine lv_lload hx hb dX12_doubtOf_131 (lv_at hl 0 rfl) ?_
                refine lv_goto (tgt := 137) hx hb dX12_doubtOf_133 (by decide) ?_
                refine ln_eql (y := (lN (max mo (dbF a pi 0 k)))) (by rw [Nat.max_eq_right c3]) ?_
                refine lv_lstore_n (lv' := [(2, .long (lN (max mo (dbF a pi 0 k)))), (11, .long (lN (dbF a pi 0 k))), (9, .long (lN (zLf a pi 0 k).natAbs)), (7, .int (nI (k))), (0, .ref (ad 0)), (1, .int (nI (pi))), (4, .int (nI (0))), (5, .long (lN (zUn a pi 0 (a (4 + pi)))))]) hx hb dX12_doubtOf_137 rfl hl (by decide) rfl (fun ls hl => ?_)
                refine lv_iinc (v := (nI (k + 1))) (lv' := [(7, .int (nI (k + 1))), (2, .long (lN (max mo (dbF a pi 0 k)))), (11, .long (lN (dbF a pi 0 k))), (9, .long (lN (zLf a pi 0 k).natAbs)), (0, .ref (ad 0)), (1, .int (nI (pi))), (4, .int (nI (0))), (5, .long (lN (zUn a pi 0 (a (4 + pi)))))]) hx hb dX12_doubtOf_138 hl (k := 3) rfl (by rw [show (Int32.ofInt 1) = nI 1 from rfl, nI_add]) (by decide) rfl (fun ls hl => ?_)
                refine lv_goto (tgt := 39) hx hb dX12_doubtOf_141 (by decide) ?_
                exact ih (k + 1) (max mo (dbF a pi 0 k)) (by omega) (by rw [mxG_s, hmo]) (by omega) _ _ _ hP hD hS (lv_sub hl [0, 1, 4, 5, 6, 7] rfl)
            refine lv_lload hx hb dX12_doubtOf_95 (lv_at hl 0 rfl) ?_
            refine lv_lconst (v := 0) hx hb dX12_doubtOf_97 (by decide) ?_
            refine W.lcmp hx hb dX12_doubtOf_98 ?_
            refine lv_if_ge (tgt := 108) hx hb dX12_doubtOf_99 (by decide) (fun c2 => ?_) (fun c2 => ?_)
            · refine lv_lload hx hb dX12_doubtOf_108 (lv_at hl 0 rfl) ?_
              refine ln_eql (y := (lN (zLf a pi 0 k).natAbs)) (by rw [lZ_N]; exact congrArg lZ (by have := (lZ_le (x := 0) (y := zLf a pi 0 k) (by omega) (by omega)).mp ((lg_cmp_ge _ _).mp c2); omega)) ?_
              exact tl0   _ _ _ hP hD hS (lv_sub hl [2, 3, 4, 5, 6, 7] rfl)
            · refine lv_lload hx hb dX12_doubtOf_102 (lv_at hl 0 rfl) ?_
              refine lv_lneg hx hb dX12_doubtOf_104 ?_
              refine lv_goto (tgt := 110) hx hb dX12_doubtOf_105 (by decide) ?_
              refine ln_eql (y := (lN (zLf a pi 0 k).natAbs)) (by rw [lZ_neg, lZ_N]; exact congrArg lZ (by have : ¬ 0 ≤ zLf a pi 0 k := fun q => c2 ((lg_cmp_ge _ _).mpr ((lZ_le (x := 0) (y := zLf a pi 0 k) (by omega) (by omega)).mpr q)); omega)) ?_
              exact tl0   _ _ _ hP hD hS (lv_sub hl [2, 3, 4, 5, 6, 7] rfl)
      exact lp0 (a (4 + pi)) (0) (0) (by omega) (rfl) (by omega) _ _ _ hP hD hS (lv_sub hl [0, 3, 4, 5, 2, 1] rfl)
    · refine lv_ldc2 (v := (-1)) hx hb hown (hts (.constantLong RX12 115 (-1)) (by decide +kernel)) dX12_doubtOf_21 ?_
      exact hret _ _ _ _ _ _ ⟨by rw [dbZ_n (fun q => c10 ((lSp_pos hp (by decide)).mpr q.1))]; rfl, ⟨_, _, _, _, _, _, _, rfl⟩⟩ hP hD hS dX12_doubtOf_24
set_option maxHeartbeats 4000000 in
set_option maxRecDepth 100000 in
theorem cM_doubt (l : Launch) (D : va_G) (ad : Nat → Nat) (cI cJ : ClassId) (a kp bt sz : Nat → Nat) (sheets : Nat → Int32) (go ro : Nat → Nat) (car : Nat → Int32) (ke km fi gm bs bu : Nat) (n1 n2 n3 n4 n5 n6 n7 : Int64) (px py db : Nat → Int64) (x : Int32) (h0 : a 0 ≤ 6) (hpl : ∀ i, i < a 0 → plOk a i) : mq_l l D (mT cI cJ) yX12_doubt wsX12_doubt 2 0 0 59 [.ref (ad 0), .int (x)] (mW ad cI cJ a kp bt sz sheets go ro car ke km fi gm bs bu n1 n2 n3 n4 n5 n6 n7 px py db) (fun r w1 => (¬ ix (a 0) x ∧ r = -1000000001 ∧ w1 = mW ad cI cJ a kp bt sz sheets go ro car ke km (fi + 1) gm bs bu n1 n2 n3 n4 n5 n6 n7 px py db) ∨ (∃ i : Nat, (x = nI i ∧ i < a 0) ∧ ((0 ≤ dbZ a i ∧ r = lZ (dbZ a i) ∧ ∃ m1 m2 m3 m4 m5 m6 m7 : Int64, w1 = mW ad cI cJ a kp bt sz sheets go ro car ke km fi gm bs bu m1 m2 m3 m4 m5 m6 m7 px py db) ∨ (¬ 0 ≤ dbZ a i ∧ r = -1000000006 ∧ ∃ m1 m2 m3 m4 m5 m6 m7 : Int64, w1 = mW ad cI cJ a kp bt sz sheets go ro car ke km (fi + 1) gm bs bu m1 m2 m3 m4 m5 m6 m7 px py db)))) := by
  refine mq_l_of (cc := cX12_doubt) (maxL := 4) (by decide) rfl (Nat.le_of_ble_eq_true rfl) ?_
  intro p e s m args below meth c A Q ls hx hb hts hown hml hnm hA hP hK hD hS hl hret
  have hown : s.vm.findClass RX12 = some m.cls := hown
  have hinX12 : ∀ w ∈ u_ws RX12 TX12 24, w ∈ wsX12_doubt := by decide +kernel
  have hl : lv_has ls 4 [(0, .ref (ad 0)), (1, .int (x))] := hl
  refine lv_aload_n hx hb dX12_doubt_0 rfl (lv_at hl 0 rfl) ?_
  refine lv_iload_n hx hb dX12_doubt_1 rfl (lv_at hl 1 rfl) ?_
  refine mq_Vi (As := [.int (x)]) (rest := []) (ci := 12) (k0 := 0) ⟨hx, hb, hml, hown, hts⟩ (cM_isPicture l D ad cI cJ a kp bt sz sheets go ro car ke km fi gm bs bu n1 n2 n3 n4 n5 n6 n7 px py db (x) (by omega)) (cwV 1 hts gX12_doubt_X12_isPicture rfl rfl rfl (by decide +kernel) ⟨Nat.le_of_ble_eq_true rfl, Nat.le_of_ble_eq_true rfl⟩) rfl rfl hP hK hD hS hA rfl hl.1 rfl (Nat.le_of_ble_eq_true rfl) dX12_doubt_2 ⟨Nat.le_of_ble_eq_true rfl, Nat.le_of_ble_eq_true rfl⟩ (fun r w1 H locs hq hP hD hS => ?_)
  obtain ⟨rfl, rfl⟩ := hq
  refine lb_if_ne (tgt := 16) hx hb dX12_doubt_5 (by decide) (fun c1 => ?_) (fun c1 => ?_)
  · obtain ⟨i, hi, rfl⟩ := ix_of c1 (by omega)
    have hp := hpl i hi
    have hdz := dbZ_b hp
    refine lv_aload_n hx hb dX12_doubt_16 rfl (lv_at hl 0 rfl) ?_
    refine lv_iload_n hx hb dX12_doubt_17 rfl (lv_at hl 1 rfl) ?_
    refine mq_Vl (As := [.int (nI (i))]) (rest := []) (ci := 12) (k0 := 0) ⟨hx, hb, hml, hown, hts⟩ (cM_doubtOf l D ad cI cJ a kp bt sz sheets go ro car ke km fi gm bs bu n1 n2 n3 n4 n5 n6 n7 px py db (i) (by omega) hp) (cwV 1 hts gX12_doubt_X12_doubtOf rfl rfl rfl (by decide +kernel) ⟨Nat.le_of_ble_eq_true rfl, Nat.le_of_ble_eq_true rfl⟩) rfl rfl hP hK hD hS hA rfl hl.1 rfl (Nat.le_of_ble_eq_true rfl) dX12_doubt_18 ⟨Nat.le_of_ble_eq_true rfl, Nat.le_of_ble_eq_true rfl⟩ (fun r w1 H locs hq hP hD hS => ?_)
    obtain ⟨rfl, j_1, j_2, j_3, j_4, j_5, j_6, j_7, rfl⟩ := hq
    refine lv_lstore_n (lv' := [(2, .long (lZ (dbZ a i))), (0, .ref (ad 0)), (1, .int (nI (i)))]) hx hb dX12_doubt_21 rfl hl (by decide) rfl (fun ls hl => ?_)
    refine lv_lload_n hx hb dX12_doubt_22 rfl (lv_at hl 0 rfl) ?_
    refine lv_lconst (v := 0) hx hb dX12_doubt_23 (by decide) ?_
    refine W.lcmp hx hb dX12_doubt_24 ?_
    refine lv_if_ge (tgt := 38) hx hb dX12_doubt_25 (by decide) (fun c2 => ?_) (fun c2 => ?_)
    · refine lv_lload_n hx hb dX12_doubt_38 rfl (lv_at hl 0 rfl) ?_
      exact hret _ _ _ _ _ _ (Or.inr ⟨i, ⟨rfl, hi⟩, Or.inl ⟨(lZ_le (x := 0) (by omega) (by omega)).mp ((lg_cmp_ge _ _).mp c2), rfl, ⟨_, _, _, _, _, _, _, rfl⟩⟩⟩) hP hD hS dX12_doubt_39
    · refine lv_aload_n hx hb dX12_doubt_28 rfl (lv_at hl 1 rfl) ?_
      refine lv_ldc2 (v := (-1000000006)) hx hb hown (hts (.constantLong RX12 54 (-1000000006)) (by decide +kernel)) dX12_doubt_29 ?_
      refine mq_Vl (As := [.long ((-1000000006))]) (rest := []) (ci := 12) (k0 := 0) ⟨hx, hb, hml, hown, hts⟩ (cM_finds l D ad cI cJ a kp bt sz sheets go ro car ke km fi gm bs bu j_1 j_2 j_3 j_4 j_5 j_6 j_7 px py db ((-1000000006)) ) (cwV 1 hts gX12_doubt_X12_finds rfl rfl rfl (by decide +kernel) ⟨Nat.le_of_ble_eq_true rfl, Nat.le_of_ble_eq_true rfl⟩) rfl rfl hP hK hD hS hA rfl hl.1 rfl (Nat.le_of_ble_eq_true rfl) dX12_doubt_32 ⟨Nat.le_of_ble_eq_true rfl, Nat.le_of_ble_eq_true rfl⟩ (fun r w1 H locs hq hP hD hS => ?_)
      obtain ⟨rfl, rfl⟩ := hq
      refine lv_goto (tgt := 39) hx hb dX12_doubt_35 (by decide) ?_
      exact hret _ _ _ _ _ _ (Or.inr ⟨i, ⟨rfl, hi⟩, Or.inr ⟨fun q => c2 ((lg_cmp_ge _ _).mpr ((lZ_le (x := 0) (by omega) (by omega)).mpr q)), rfl, ⟨_, _, _, _, _, _, _, rfl⟩⟩⟩) hP hD hS dX12_doubt_39
  · refine lv_aload_n hx hb dX12_doubt_8 rfl (lv_at hl 0 rfl) ?_
    refine lv_ldc2 (v := (-1000000001)) hx hb hown (hts (.constantLong RX12 76 (-1000000001)) (by decide +kernel)) dX12_doubt_9 ?_
    refine mq_Vl (As := [.long ((-1000000001))]) (rest := []) (ci := 12) (k0 := 0) ⟨hx, hb, hml, hown, hts⟩ (cM_finds l D ad cI cJ a kp bt sz sheets go ro car ke km fi gm bs bu n1 n2 n3 n4 n5 n6 n7 px py db ((-1000000001)) ) (cwV 1 hts gX12_doubt_X12_finds rfl rfl rfl (by decide +kernel) ⟨Nat.le_of_ble_eq_true rfl, Nat.le_of_ble_eq_true rfl⟩) rfl rfl hP hK hD hS hA rfl hl.1 rfl (Nat.le_of_ble_eq_true rfl) dX12_doubt_12 ⟨Nat.le_of_ble_eq_true rfl, Nat.le_of_ble_eq_true rfl⟩ (fun r w1 H locs hq hP hD hS => ?_)
    obtain ⟨rfl, rfl⟩ := hq
    exact hret _ _ _ _ _ _ (Or.inl ⟨c1, rfl, rfl⟩) hP hD hS dX12_doubt_15
