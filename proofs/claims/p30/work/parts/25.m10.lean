/-! ===== MARKS that AGREE ===== -/
abbrev mP (a : Nat → Nat) (i : Nat) : Nat := a (202 + 6 * i)
abbrev mK (a : Nat → Nat) (i : Nat) : Nat := a (202 + 6 * i + 1)
def ptX (a : Nat → Nat) (i : Nat) : Int := zPt a (mP a i) 0 (a (202 + 6 * i + 2))
def ptY (a : Nat → Nat) (i : Nat) : Int := zPt a (mP a i) 1 (a (202 + 6 * i + 3))
abbrev thr (a : Nat → Nat) (pi w : Nat) : Prop := 0 < zSp a pi w (a (4 + pi))
def plInv (a : Nat → Nat) (fx fy fd : Nat → Int64) (k : Nat) : Prop := ∀ j, j < k → fd j = lZ (dbZ a (mP a j)) ∧ (thr a (mP a j) 0 → fx j = lZ (ptX a j)) ∧ (thr a (mP a j) 1 → fy j = lZ (ptY a j))
theorem plInv_s {a : Nat → Nat} {fx fy fd gx gy gd : Nat → Int64} {k : Nat} (h : plInv a fx fy fd k) (hd : gd k = lZ (dbZ a (mP a k))) (hd2 : ∀ j, j < k → gd j = fd j) (hx : thr a (mP a k) 0 → gx k = lZ (ptX a k)) (hx2 : ∀ j, j < k → gx j = fx j) (hy : thr a (mP a k) 1 → gy k = lZ (ptY a k)) (hy2 : ∀ j, j < k → gy j = fy j) : plInv a gx gy gd (k + 1) := by
  intro j hj
  rcases Nat.lt_or_ge j k with q | q
  · rw [hd2 j q, hx2 j q, hy2 j q]
    exact h j q
  · have e : j = k := by omega
    subst e
    exact ⟨hd, hx, hy⟩
/-- whether two MARKS AGREE -/
abbrev agr (a : Nat → Nat) (i j : Nat) : Prop := mP a i ≠ mP a j ∧ mK a i = mK a j ∧ 0 ≤ dbZ a (mP a i) ∧ 0 ≤ dbZ a (mP a j) ∧ ((ptX a i - ptX a j).natAbs : Int) ≤ dbZ a (mP a i) + dbZ a (mP a j) ∧ ((ptY a i - ptY a j).natAbs : Int) ≤ dbZ a (mP a i) + dbZ a (mP a j)
theorem zPt_b {a : Nat → Nat} {pi w u : Nat} (h : plOk a pi) (hw : w < 2) (hu : u ≤ 999) : (zPt a pi w u).natAbs ≤ 3062793212929 := by
  have h1 := zAb_b h hw (u := (u : Nat)) (by omega)
  have h2 : (zPt a pi w u).natAbs ≤ (zAb a pi w (a (4 + pi)) (u : Nat)).natAbs := by
    unfold zPt
    exact Int.natAbs_ediv_le_natAbs _ _
  omega
theorem dbZ_thr {a : Nat → Nat} {pi : Nat} (h : 0 ≤ dbZ a pi) : thr a pi 0 ∧ thr a pi 1 := by
  rcases Classical.em (thr a pi 0 ∧ thr a pi 1) with q | q
  · exact q
  · rw [dbZ_n q] at h
    omega
set_option maxHeartbeats 4000000 in
set_option maxRecDepth 100000 in
theorem cM_findPlaces (l : Launch) (D : va_G) (ad : Nat → Nat) (cI cJ : ClassId) (a kp bt sz : Nat → Nat) (sheets : Nat → Int32) (go ro : Nat → Nat) (car : Nat → Int32) (ke km fi gm bs bu : Nat) (n1 n2 n3 n4 n5 n6 n7 : Int64) (px py db : Nat → Int64)  (h0 : a 0 ≤ 6) (hpl : ∀ i, i < a 0 → plOk a i) (h1 : a 1 ≤ 20) (hmk : ∀ i, i < a 1 → mkOk a i) : mq_v l D (mT cI cJ) yX12_findPlaces wsX12_findPlaces 2 0 0 59 [.ref (ad 0)] (mW ad cI cJ a kp bt sz sheets go ro car ke km fi gm bs bu n1 n2 n3 n4 n5 n6 n7 px py db) (fun w1 => ∃ (fx fy fd : Nat → Int64) (m1 m2 m3 m4 m5 m6 m7 : Int64), plInv a fx fy fd (a 1) ∧ w1 = mW ad cI cJ a kp bt sz sheets go ro car ke km fi gm bs bu m1 m2 m3 m4 m5 m6 m7 fx fy fd) := by
  refine mq_v_of (cc := cX12_findPlaces) (maxL := 3) (by decide) rfl (Nat.le_of_ble_eq_true rfl) ?_
  intro p e s m args below meth c A Q ls hx hb hts hown hml hnm hA hP hK hD hS hl hret
  have hown : s.vm.findClass RX12 = some m.cls := hown
  have hinX12 : ∀ w ∈ u_ws RX12 TX12 24, w ∈ wsX12_findPlaces := by decide +kernel
  have hl : lv_has ls 3 [(0, .ref (ad 0))] := hl
  refine lv_iconst (v := (nI (0))) hx hb dX12_findPlaces_0 (by decide) ?_
  refine lv_istore_n (lv' := [(1, .int (nI (0))), (0, .ref (ad 0))]) hx hb dX12_findPlaces_1 rfl hl (by decide) rfl (fun ls hl => ?_)
  have lp : ∀ (n : Nat) (k : Nat) (fx : Nat → Int64) (fy : Nat → Int64) (fd : Nat → Int64) (q1 : Int64) (q2 : Int64) (q3 : Int64) (q4 : Int64) (q5 : Int64) (q6 : Int64) (q7 : Int64), (k + n = a 1) → (plInv a fx fy fd k) → ∀ (H : Heap) (locs : List Loc) (ls : Array Slot), va_P D vwCl (mW ad cI cJ a kp bt sz sheets go ro car ke km fi gm bs bu q1 q2 q3 q4 q5 q6 q7 fx fy fd) H → va_D A (mW ad cI cJ a kp bt sz sheets go ro car ke km fi gm bs bu q1 q2 q3 q4 q5 q6 q7 fx fy fd) → va_S A s.heap H locs → lv_has ls 3 [(1, .int (nI (k))), (0, .ref (ad 0))] → W p l e (mq_R 2 0 0 59) s m args below meth c H locs 0 0 Q (F0 m 2 ls []) := by
    intro n
    induction n with
    | zero =>
      intro k fx fy fd q1 q2 q3 q4 q5 q6 q7 hk hiv H locs ls hP hD hS hl
      refine lv_iload_n hx hb dX12_findPlaces_2 rfl (lv_at hl 0 rfl) ?_
      refine lv_aload_n hx hb dX12_findPlaces_3 rfl (lv_at hl 1 rfl) ?_
      refine va_get (D := D) (ci := 12) (v := .ref (ad 1)) (C := RX12) (T := TX12) (N := 24) hx hb hts hinX12 hown hK hP 0 rfl rfl 0 (by decide) (hts (.fieldLink RX12 9 "CornDeskModel" "now" "[I") (by decide +kernel)) (fun _ h9 => h9) rfl dX12_findPlaces_4 ?_
      refine lv_iconst (v := (nI (1))) hx hb dX12_findPlaces_7 (by decide) ?_
      refine ln_iald hx hb hK hP 1 0 rfl rfl (by decide) (by omega) dX12_findPlaces_8 ?_
      refine ln_icmp_ge (tgt := 112) hx hb dX12_findPlaces_9 (by decide) (by omega) (by omega) (fun c1 => ?_) (fun c1 => ?_)
      · have hk0 : k = a 1 := by omega
        subst hk0
        exact hret _ _ _ _ _ ⟨_, _, _, _, _, _, _, _, _, _, hiv, rfl⟩ hP hD hS dX12_findPlaces_112
      · exact absurd hk (by omega)
    | succ n ih =>
      intro k fx fy fd q1 q2 q3 q4 q5 q6 q7 hk hiv H locs ls hP hD hS hl
      refine lv_iload_n hx hb dX12_findPlaces_2 rfl (lv_at hl 0 rfl) ?_
      refine lv_aload_n hx hb dX12_findPlaces_3 rfl (lv_at hl 1 rfl) ?_
      refine va_get (D := D) (ci := 12) (v := .ref (ad 1)) (C := RX12) (T := TX12) (N := 24) hx hb hts hinX12 hown hK hP 0 rfl rfl 0 (by decide) (hts (.fieldLink RX12 9 "CornDeskModel" "now" "[I") (by decide +kernel)) (fun _ h9 => h9) rfl dX12_findPlaces_4 ?_
      refine lv_iconst (v := (nI (1))) hx hb dX12_findPlaces_7 (by decide) ?_
      refine ln_iald hx hb hK hP 1 0 rfl rfl (by decide) (by omega) dX12_findPlaces_8 ?_
      refine ln_icmp_ge (tgt := 112) hx hb dX12_findPlaces_9 (by decide) (by omega) (by omega) (fun c1 => ?_) (fun c1 => ?_)
      · exact absurd hk (by omega)
      · have hkn : k < a 1 := by omega
        obtain ⟨hm0, -, hm2, hm3, -, -⟩ := hmk k hkn
        have hp := hpl _ hm0
        have hp1 := hp.1
        refine lv_aload_n hx hb dX12_findPlaces_12 rfl (lv_at hl 1 rfl) ?_
        refine lv_iload_n hx hb dX12_findPlaces_13 rfl (lv_at hl 0 rfl) ?_
        refine lv_iconst (v := (nI (0))) hx hb dX12_findPlaces_14 (by decide) ?_
        refine mq_Vi (As := [.int (nI (k)), .int (nI (0))]) (rest := []) (ci := 12) (k0 := 0) ⟨hx, hb, hml, hown, hts⟩ (cM_ofMark l D ad cI cJ a kp bt sz sheets go ro car ke km fi gm bs bu q1 q2 q3 q4 q5 q6 q7 fx fy fd (k) (0) (by omega)) (cwV 2 hts gX12_findPlaces_X12_ofMark rfl rfl rfl (by decide +kernel) ⟨Nat.le_of_ble_eq_true rfl, Nat.le_of_ble_eq_true rfl⟩) rfl rfl hP hK hD hS hA rfl hl.1 rfl (Nat.le_of_ble_eq_true rfl) dX12_findPlaces_15 ⟨Nat.le_of_ble_eq_true rfl, Nat.le_of_ble_eq_true rfl⟩ (fun r w1 H locs hq hP hD hS => ?_)
        obtain ⟨rfl, rfl⟩ := hq
        refine ln_eqi (y := (nI (a (202 + 6 * k)))) rfl ?_
        refine lv_istore_n (lv' := [(2, .int (nI (a (202 + 6 * k)))), (1, .int (nI (k))), (0, .ref (ad 0))]) hx hb dX12_findPlaces_18 rfl hl (by decide) rfl (fun ls hl => ?_)
        refine lv_aload_n hx hb dX12_findPlaces_19 rfl (lv_at hl 2 rfl) ?_
        refine va_get (D := D) (ci := 12) (v := .ref (ad 8)) (C := RX12) (T := TX12) (N := 24) hx hb hts hinX12 hown hK hP 0 rfl rfl 17 (by decide) (hts (.fieldLink RX12 32 "CornDeskModel" "doubts" "[J") (by decide +kernel)) (fun _ h9 => h9) rfl dX12_findPlaces_20 ?_
        refine lv_iload_n hx hb dX12_findPlaces_23 rfl (lv_at hl 1 rfl) ?_
        refine lv_aload_n hx hb dX12_findPlaces_24 rfl (lv_at hl 2 rfl) ?_
        refine lv_iload_n hx hb dX12_findPlaces_25 rfl (lv_at hl 0 rfl) ?_
        refine mq_Vl (As := [.int (nI (a (202 + 6 * k)))]) (rest := [.int (nI (k)), .ref (ad 8)]) (ci := 12) (k0 := 0) ⟨hx, hb, hml, hown, hts⟩ (cM_doubtOf l D ad cI cJ a kp bt sz sheets go ro car ke km fi gm bs bu q1 q2 q3 q4 q5 q6 q7 fx fy fd (a (202 + 6 * k)) (by omega) hp) (cwV 1 hts gX12_findPlaces_X12_doubtOf rfl rfl rfl (by decide +kernel) ⟨Nat.le_of_ble_eq_true rfl, Nat.le_of_ble_eq_true rfl⟩) rfl rfl hP hK hD hS hA rfl hl.1 rfl (Nat.le_of_ble_eq_true rfl) dX12_findPlaces_26 ⟨Nat.le_of_ble_eq_true rfl, Nat.le_of_ble_eq_true rfl⟩ (fun r w1 H locs hq hP hD hS => ?_)
        obtain ⟨rfl, j_1, j_2, j_3, j_4, j_5, j_6, j_7, rfl⟩ := hq
        refine ln_last hx hb hK hP hD hS 8 1 rfl rfl (by decide) (by omega) dX12_findPlaces_29 (fun H locs hP hD hS => ?_)
        have hP : va_P D vwCl (mW ad cI cJ a kp bt sz sheets go ro car ke km fi gm bs bu j_1 j_2 j_3 j_4 j_5 j_6 j_7 fx fy (vp_updL fd (k) (lZ (dbZ a (a (202 + 6 * k)))))) H := hP
        have hD : va_D A (mW ad cI cJ a kp bt sz sheets go ro car ke km fi gm bs bu j_1 j_2 j_3 j_4 j_5 j_6 j_7 fx fy (vp_updL fd (k) (lZ (dbZ a (a (202 + 6 * k)))))) := hD
        refine lv_aload_n hx hb dX12_findPlaces_30 rfl (lv_at hl 2 rfl) ?_
        refine lv_iload_n hx hb dX12_findPlaces_31 rfl (lv_at hl 0 rfl) ?_
        refine lv_iconst (v := (nI (0))) hx hb dX12_findPlaces_32 (by decide) ?_
        refine mq_Vi (As := [.int (nI (a (202 + 6 * k))), .int (nI (0))]) (rest := []) (ci := 12) (k0 := 0) ⟨hx, hb, hml, hown, hts⟩ (cM_leads l D ad cI cJ a kp bt sz sheets go ro car ke km fi gm bs bu j_1 j_2 j_3 j_4 j_5 j_6 j_7 fx fy (vp_updL fd (k) (lZ (dbZ a (a (202 + 6 * k))))) (a (202 + 6 * k)) (0) (by omega) (by decide) hp1) (cwV 2 hts gX12_findPlaces_X12_leads rfl rfl rfl (by decide +kernel) ⟨Nat.le_of_ble_eq_true rfl, Nat.le_of_ble_eq_true rfl⟩) rfl rfl hP hK hD hS hA rfl hl.1 rfl (Nat.le_of_ble_eq_true rfl) dX12_findPlaces_33 ⟨Nat.le_of_ble_eq_true rfl, Nat.le_of_ble_eq_true rfl⟩ (fun r w1 H locs hq hP hD hS => ?_)
        obtain ⟨rfl, rfl⟩ := hq
        refine lb_if_eq (tgt := 68) hx hb dX12_findPlaces_36 (by decide) (fun c3 => ?_) (fun c3 => ?_)
        · refine lv_aload_n hx hb dX12_findPlaces_68 rfl (lv_at hl 2 rfl) ?_
          refine lv_iload_n hx hb dX12_findPlaces_69 rfl (lv_at hl 0 rfl) ?_
          refine lv_iconst (v := (nI (1))) hx hb dX12_findPlaces_70 (by decide) ?_
          refine mq_Vi (As := [.int (nI (a (202 + 6 * k))), .int (nI (1))]) (rest := []) (ci := 12) (k0 := 0) ⟨hx, hb, hml, hown, hts⟩ (cM_leads l D ad cI cJ a kp bt sz sheets go ro car ke km fi gm bs bu ((nI (a (4 + (a (202 + 6 * k))))).toInt64) (lSU a (a (202 + 6 * k)) (0) (a (4 + (a (202 + 6 * k))))) (lSX a (a (202 + 6 * k)) (0) (a (4 + (a (202 + 6 * k))))) (lUU a (a (202 + 6 * k)) (0) (a (4 + (a (202 + 6 * k))))) (lUX a (a (202 + 6 * k)) (0) (a (4 + (a (202 + 6 * k))))) (lXX a (a (202 + 6 * k)) (0) (a (4 + (a (202 + 6 * k))))) (lSp a (a (202 + 6 * k)) (0) (a (4 + (a (202 + 6 * k))))) fx fy (vp_updL fd (k) (lZ (dbZ a (a (202 + 6 * k))))) (a (202 + 6 * k)) (1) (by omega) (by decide) hp1) (cwV 2 hts gX12_findPlaces_X12_leads rfl rfl rfl (by decide +kernel) ⟨Nat.le_of_ble_eq_true rfl, Nat.le_of_ble_eq_true rfl⟩) rfl rfl hP hK hD hS hA rfl hl.1 rfl (Nat.le_of_ble_eq_true rfl) dX12_findPlaces_71 ⟨Nat.le_of_ble_eq_true rfl, Nat.le_of_ble_eq_true rfl⟩ (fun r w1 H locs hq hP hD hS => ?_)
          obtain ⟨rfl, rfl⟩ := hq
          refine lb_if_eq (tgt := 106) hx hb dX12_findPlaces_74 (by decide) (fun c4 => ?_) (fun c4 => ?_)
          · refine lv_iinc (v := (nI (k + 1))) (lv' := [(1, .int (nI (k + 1))), (2, .int (nI (a (202 + 6 * k)))), (0, .ref (ad 0))]) hx hb dX12_findPlaces_106 hl (k := 1) rfl (by rw [show (Int32.ofInt 1) = nI 1 from rfl, nI_add]) (by decide) rfl (fun ls hl => ?_)
            refine lv_goto (tgt := 2) hx hb dX12_findPlaces_109 (by decide) ?_
            exact ih (k + 1) (fx) (fy) (vp_updL fd (k) (lZ (dbZ a (a (202 + 6 * k))))) ((nI (a (4 + (a (202 + 6 * k))))).toInt64) (lSU a (a (202 + 6 * k)) (1) (a (4 + (a (202 + 6 * k))))) (lSX a (a (202 + 6 * k)) (1) (a (4 + (a (202 + 6 * k))))) (lUU a (a (202 + 6 * k)) (1) (a (4 + (a (202 + 6 * k))))) (lUX a (a (202 + 6 * k)) (1) (a (4 + (a (202 + 6 * k))))) (lXX a (a (202 + 6 * k)) (1) (a (4 + (a (202 + 6 * k))))) (lSp a (a (202 + 6 * k)) (1) (a (4 + (a (202 + 6 * k))))) (by omega) (plInv_s hiv pk_uLs (fun j hj => pk_uLn (by omega)) (fun q => absurd q (fun q => c3 ((lSp_pos hp (by decide)).mpr q))) (fun j hj => rfl) (fun q => absurd q (fun q => c4 ((lSp_pos hp (by decide)).mpr q))) (fun j hj => rfl)) _ _ _ hP hD hS (lv_sub hl [0, 2] rfl)
          · have hs1 : thr a (mP a k) 1 := (lSp_pos hp (by decide)).mp c4
            refine lv_aload_n hx hb dX12_findPlaces_77 rfl (lv_at hl 2 rfl) ?_
            refine va_get (D := D) (ci := 12) (v := .ref (ad 7)) (C := RX12) (T := TX12) (N := 24) hx hb hts hinX12 hown hK hP 0 rfl rfl 16 (by decide) (hts (.fieldLink RX12 29 "CornDeskModel" "placeY" "[J") (by decide +kernel)) (fun _ h9 => h9) rfl dX12_findPlaces_78 ?_
            refine lv_iload_n hx hb dX12_findPlaces_81 rfl (lv_at hl 1 rfl) ?_
            refine lv_aload_n hx hb dX12_findPlaces_82 rfl (lv_at hl 2 rfl) ?_
            refine lv_aload_n hx hb dX12_findPlaces_83 rfl (lv_at hl 2 rfl) ?_
            refine lv_iload_n hx hb dX12_findPlaces_84 rfl (lv_at hl 1 rfl) ?_
            refine lv_iconst (v := (nI (3))) hx hb dX12_findPlaces_85 (by decide) ?_
            refine mq_Vi (As := [.int (nI (k)), .int (nI (3))]) (rest := [.ref (ad 0), .int (nI (k)), .ref (ad 7)]) (ci := 12) (k0 := 0) ⟨hx, hb, hml, hown, hts⟩ (cM_ofMark l D ad cI cJ a kp bt sz sheets go ro car ke km fi gm bs bu ((nI (a (4 + (a (202 + 6 * k))))).toInt64) (lSU a (a (202 + 6 * k)) (1) (a (4 + (a (202 + 6 * k))))) (lSX a (a (202 + 6 * k)) (1) (a (4 + (a (202 + 6 * k))))) (lUU a (a (202 + 6 * k)) (1) (a (4 + (a (202 + 6 * k))))) (lUX a (a (202 + 6 * k)) (1) (a (4 + (a (202 + 6 * k))))) (lXX a (a (202 + 6 * k)) (1) (a (4 + (a (202 + 6 * k))))) (lSp a (a (202 + 6 * k)) (1) (a (4 + (a (202 + 6 * k))))) fx fy (vp_updL fd (k) (lZ (dbZ a (a (202 + 6 * k))))) (k) (3) (by omega)) (cwV 2 hts gX12_findPlaces_X12_ofMark rfl rfl rfl (by decide +kernel) ⟨Nat.le_of_ble_eq_true rfl, Nat.le_of_ble_eq_true rfl⟩) rfl rfl hP hK hD hS hA rfl hl.1 rfl (Nat.le_of_ble_eq_true rfl) dX12_findPlaces_86 ⟨Nat.le_of_ble_eq_true rfl, Nat.le_of_ble_eq_true rfl⟩ (fun r w1 H locs hq hP hD hS => ?_)
            obtain ⟨rfl, rfl⟩ := hq
            refine lv_i2l hx hb dX12_findPlaces_89 rfl ?_
            refine ln_eql (y := (lZ ((a (202 + 6 * k + 3) : Nat) : Int))) (nI_lZ (by omega)) ?_
            refine mq_Vl (As := [.long (lZ ((a (202 + 6 * k + 3) : Nat) : Int))]) (rest := [.int (nI (k)), .ref (ad 7)]) (ci := 12) (k0 := 0) ⟨hx, hb, hml, hown, hts⟩ (cM_aboveAt l D ad cI cJ a kp bt sz sheets go ro car ke km fi gm bs bu ((nI (a (4 + (a (202 + 6 * k))))).toInt64) (lSU a (a (202 + 6 * k)) (1) (a (4 + (a (202 + 6 * k))))) (lSX a (a (202 + 6 * k)) (1) (a (4 + (a (202 + 6 * k))))) (lUU a (a (202 + 6 * k)) (1) (a (4 + (a (202 + 6 * k))))) (lUX a (a (202 + 6 * k)) (1) (a (4 + (a (202 + 6 * k))))) (lXX a (a (202 + 6 * k)) (1) (a (4 + (a (202 + 6 * k))))) (lSp a (a (202 + 6 * k)) (1) (a (4 + (a (202 + 6 * k))))) fx fy (vp_updL fd (k) (lZ (dbZ a (a (202 + 6 * k))))) (lZ ((a (202 + 6 * k + 3) : Nat) : Int)) ) (cwV 1 hts gX12_findPlaces_X12_aboveAt rfl rfl rfl (by decide +kernel) ⟨Nat.le_of_ble_eq_true rfl, Nat.le_of_ble_eq_true rfl⟩) rfl rfl hP hK hD hS hA rfl hl.1 rfl (Nat.le_of_ble_eq_true rfl) dX12_findPlaces_90 ⟨Nat.le_of_ble_eq_true rfl, Nat.le_of_ble_eq_true rfl⟩ (fun r w1 H locs hq hP hD hS => ?_)
            obtain ⟨rfl, rfl⟩ := hq
            refine ln_eql (y := (lZ (zAb a (a (202 + 6 * k)) 1 (a (4 + (a (202 + 6 * k)))) (a (202 + 6 * k + 3) : Nat)))) (lAb_z hp (by decide) _) ?_
            refine lv_aload_n hx hb dX12_findPlaces_93 rfl (lv_at hl 2 rfl) ?_
            refine va_get (D := D) (ci := 12) (v := .long ((nI (a (4 + (a (202 + 6 * k))))).toInt64)) (C := RX12) (T := TX12) (N := 24) hx hb hts hinX12 hown hK hP 0 rfl rfl 8 (by decide) (hts (.fieldLink RX12 78 "CornDeskModel" "n" "J") (by decide +kernel)) (fun _ h9 => h9) rfl dX12_findPlaces_94 ?_
            refine lv_aload_n hx hb dX12_findPlaces_97 rfl (lv_at hl 2 rfl) ?_
            refine va_get (D := D) (ci := 12) (v := .long (lSp a (a (202 + 6 * k)) (1) (a (4 + (a (202 + 6 * k)))))) (C := RX12) (T := TX12) (N := 24) hx hb hts hinX12 hown hK hP 0 rfl rfl 14 (by decide) (hts (.fieldLink RX12 97 "CornDeskModel" "spread" "J") (by decide +kernel)) (fun _ h9 => h9) rfl dX12_findPlaces_98 ?_
            refine lv_lmul hx hb dX12_findPlaces_101 ?_
            refine ln_eql (y := (lN (zUn a (a (202 + 6 * k)) 1 (a (4 + (a (202 + 6 * k))))))) (lUn_z hp (by decide) hs1) ?_
            have hb1 := zAb_b hp (show 1 < 2 by decide) (u := ((a (202 + 6 * k + 3) : Nat) : Int)) (by omega)
            have hb2 := zUn_le hp (show 1 < 2 by decide)
            refine mq_Sl (As := [.long (lZ (zAb a (a (202 + 6 * k)) 1 (a (4 + (a (202 + 6 * k)))) (a (202 + 6 * k + 3) : Nat))), .long (lN (zUn a (a (202 + 6 * k)) 1 (a (4 + (a (202 + 6 * k))))))]) (rest := [.int (nI (k)), .ref (ad 7)]) ⟨hx, hb, hml, hown, hts⟩ (cM_cut l D _ (zAb a (a (202 + 6 * k)) 1 (a (4 + (a (202 + 6 * k)))) (a (202 + 6 * k + 3) : Nat)) (zUn a (a (202 + 6 * k)) 1 (a (4 + (a (202 + 6 * k))))) (by omega) (by omega) (zUn_pos hp (by decide) hs1)) (cwS 2 hts gX12_findPlaces_X12_cut rfl rfl rfl (by decide +kernel) ⟨Nat.le_of_ble_eq_true rfl, Nat.le_of_ble_eq_true rfl⟩) hP hK hS hA rfl hl.1 rfl (Nat.le_of_ble_eq_true rfl) dX12_findPlaces_102 ⟨Nat.le_of_ble_eq_true rfl, Nat.le_of_ble_eq_true rfl⟩ (fun r w1 H locs hq hP hS => ?_)
            subst hq
            refine ln_eql (y := (lZ (ptY a k))) rfl ?_
            refine ln_last hx hb hK hP hD hS 7 1 rfl rfl (by decide) (by omega) dX12_findPlaces_105 (fun H locs hP hD hS => ?_)
            have hP : va_P D vwCl (mW ad cI cJ a kp bt sz sheets go ro car ke km fi gm bs bu ((nI (a (4 + (a (202 + 6 * k))))).toInt64) (lSU a (a (202 + 6 * k)) (1) (a (4 + (a (202 + 6 * k))))) (lSX a (a (202 + 6 * k)) (1) (a (4 + (a (202 + 6 * k))))) (lUU a (a (202 + 6 * k)) (1) (a (4 + (a (202 + 6 * k))))) (lUX a (a (202 + 6 * k)) (1) (a (4 + (a (202 + 6 * k))))) (lXX a (a (202 + 6 * k)) (1) (a (4 + (a (202 + 6 * k))))) (lSp a (a (202 + 6 * k)) (1) (a (4 + (a (202 + 6 * k))))) fx (vp_updL fy (k) (lZ (ptY a k))) (vp_updL fd (k) (lZ (dbZ a (a (202 + 6 * k)))))) H := hP
            have hD : va_D A (mW ad cI cJ a kp bt sz sheets go ro car ke km fi gm bs bu ((nI (a (4 + (a (202 + 6 * k))))).toInt64) (lSU a (a (202 + 6 * k)) (1) (a (4 + (a (202 + 6 * k))))) (lSX a (a (202 + 6 * k)) (1) (a (4 + (a (202 + 6 * k))))) (lUU a (a (202 + 6 * k)) (1) (a (4 + (a (202 + 6 * k))))) (lUX a (a (202 + 6 * k)) (1) (a (4 + (a (202 + 6 * k))))) (lXX a (a (202 + 6 * k)) (1) (a (4 + (a (202 + 6 * k))))) (lSp a (a (202 + 6 * k)) (1) (a (4 + (a (202 + 6 * k))))) fx (vp_updL fy (k) (lZ (ptY a k))) (vp_updL fd (k) (lZ (dbZ a (a (202 + 6 * k)))))) := hD
            refine lv_iinc (v := (nI (k + 1))) (lv' := [(1, .int (nI (k + 1))), (2, .int (nI (a (202 + 6 * k)))), (0, .ref (ad 0))]) hx hb dX12_findPlaces_106 hl (k := 1) rfl (by rw [show (Int32.ofInt 1) = nI 1 from rfl, nI_add]) (by decide) rfl (fun ls hl => ?_)
            refine lv_goto (tgt := 2) hx hb dX12_findPlaces_109 (by decide) ?_
            exact ih (k + 1) (fx) (vp_updL fy (k) (lZ (ptY a k))) (vp_updL fd (k) (lZ (dbZ a (a (202 + 6 * k))))) ((nI (a (4 + (a (202 + 6 * k))))).toInt64) (lSU a (a (202 + 6 * k)) (1) (a (4 + (a (202 + 6 * k))))) (lSX a (a (202 + 6 * k)) (1) (a (4 + (a (202 + 6 * k))))) (lUU a (a (202 + 6 * k)) (1) (a (4 + (a (202 + 6 * k))))) (lUX a (a (202 + 6 * k)) (1) (a (4 + (a (202 + 6 * k))))) (lXX a (a (202 + 6 * k)) (1) (a (4 + (a (202 + 6 * k))))) (lSp a (a (202 + 6 * k)) (1) (a (4 + (a (202 + 6 * k))))) (by omega) (plInv_s hiv pk_uLs (fun j hj => pk_uLn (by omega)) (fun q => absurd q (fun q => c3 ((lSp_pos hp (by decide)).mpr q))) (fun j hj => rfl) (fun _ => pk_uLs) (fun j hj => pk_uLn (by omega))) _ _ _ hP hD hS (lv_sub hl [0, 2] rfl)
        · have hs0 : thr a (mP a k) 0 := (lSp_pos hp (by decide)).mp c3
          refine lv_aload_n hx hb dX12_findPlaces_39 rfl (lv_at hl 2 rfl) ?_
          refine va_get (D := D) (ci := 12) (v := .ref (ad 6)) (C := RX12) (T := TX12) (N := 24) hx hb hts hinX12 hown hK hP 0 rfl rfl 15 (by decide) (hts (.fieldLink RX12 25 "CornDeskModel" "placeX" "[J") (by decide +kernel)) (fun _ h9 => h9) rfl dX12_findPlaces_40 ?_
          refine lv_iload_n hx hb dX12_findPlaces_43 rfl (lv_at hl 1 rfl) ?_
          refine lv_aload_n hx hb dX12_findPlaces_44 rfl (lv_at hl 2 rfl) ?_
          refine lv_aload_n hx hb dX12_findPlaces_45 rfl (lv_at hl 2 rfl) ?_
          refine lv_iload_n hx hb dX12_findPlaces_46 rfl (lv_at hl 1 rfl) ?_
          refine lv_iconst (v := (nI (2))) hx hb dX12_findPlaces_47 (by decide) ?_
          refine mq_Vi (As := [.int (nI (k)), .int (nI (2))]) (rest := [.ref (ad 0), .int (nI (k)), .ref (ad 6)]) (ci := 12) (k0 := 0) ⟨hx, hb, hml, hown, hts⟩ (cM_ofMark l D ad cI cJ a kp bt sz sheets go ro car ke km fi gm bs bu ((nI (a (4 + (a (202 + 6 * k))))).toInt64) (lSU a (a (202 + 6 * k)) (0) (a (4 + (a (202 + 6 * k))))) (lSX a (a (202 + 6 * k)) (0) (a (4 + (a (202 + 6 * k))))) (lUU a (a (202 + 6 * k)) (0) (a (4 + (a (202 + 6 * k))))) (lUX a (a (202 + 6 * k)) (0) (a (4 + (a (202 + 6 * k))))) (lXX a (a (202 + 6 * k)) (0) (a (4 + (a (202 + 6 * k))))) (lSp a (a (202 + 6 * k)) (0) (a (4 + (a (202 + 6 * k))))) fx fy (vp_updL fd (k) (lZ (dbZ a (a (202 + 6 * k))))) (k) (2) (by omega)) (cwV 2 hts gX12_findPlaces_X12_ofMark rfl rfl rfl (by decide +kernel) ⟨Nat.le_of_ble_eq_true rfl, Nat.le_of_ble_eq_true rfl⟩) rfl rfl hP hK hD hS hA rfl hl.1 rfl (Nat.le_of_ble_eq_true rfl) dX12_findPlaces_48 ⟨Nat.le_of_ble_eq_true rfl, Nat.le_of_ble_eq_true rfl⟩ (fun r w1 H locs hq hP hD hS => ?_)
          obtain ⟨rfl, rfl⟩ := hq
          refine lv_i2l hx hb dX12_findPlaces_51 rfl ?_
          refine ln_eql (y := (lZ ((a (202 + 6 * k + 2) : Nat) : Int))) (nI_lZ (by omega)) ?_
          refine mq_Vl (As := [.long (lZ ((a (202 + 6 * k + 2) : Nat) : Int))]) (rest := [.int (nI (k)), .ref (ad 6)]) (ci := 12) (k0 := 0) ⟨hx, hb, hml, hown, hts⟩ (cM_aboveAt l D ad cI cJ a kp bt sz sheets go ro car ke km fi gm bs bu ((nI (a (4 + (a (202 + 6 * k))))).toInt64) (lSU a (a (202 + 6 * k)) (0) (a (4 + (a (202 + 6 * k))))) (lSX a (a (202 + 6 * k)) (0) (a (4 + (a (202 + 6 * k))))) (lUU a (a (202 + 6 * k)) (0) (a (4 + (a (202 + 6 * k))))) (lUX a (a (202 + 6 * k)) (0) (a (4 + (a (202 + 6 * k))))) (lXX a (a (202 + 6 * k)) (0) (a (4 + (a (202 + 6 * k))))) (lSp a (a (202 + 6 * k)) (0) (a (4 + (a (202 + 6 * k))))) fx fy (vp_updL fd (k) (lZ (dbZ a (a (202 + 6 * k))))) (lZ ((a (202 + 6 * k + 2) : Nat) : Int)) ) (cwV 1 hts gX12_findPlaces_X12_aboveAt rfl rfl rfl (by decide +kernel) ⟨Nat.le_of_ble_eq_true rfl, Nat.le_of_ble_eq_true rfl⟩) rfl rfl hP hK hD hS hA rfl hl.1 rfl (Nat.le_of_ble_eq_true rfl) dX12_findPlaces_52 ⟨Nat.le_of_ble_eq_true rfl, Nat.le_of_ble_eq_true rfl⟩ (fun r w1 H locs hq hP hD hS => ?_)
          obtain ⟨rfl, rfl⟩ := hq
          refine ln_eql (y := (lZ (zAb a (a (202 + 6 * k)) 0 (a (4 + (a (202 + 6 * k)))) (a (202 + 6 * k + 2) : Nat)))) (lAb_z hp (by decide) _) ?_
          refine lv_aload_n hx hb dX12_findPlaces_55 rfl (lv_at hl 2 rfl) ?_
          refine va_get (D := D) (ci := 12) (v := .long ((nI (a (4 + (a (202 + 6 * k))))).toInt64)) (C := RX12) (T := TX12) (N := 24) hx hb hts hinX12 hown hK hP 0 rfl rfl 8 (by decide) (hts (.fieldLink RX12 78 "CornDeskModel" "n" "J") (by decide +kernel)) (fun _ h9 => h9) rfl dX12_findPlaces_56 ?_
          refine lv_aload_n hx hb dX12_findPlaces_59 rfl (lv_at hl 2 rfl) ?_
          refine va_get (D := D) (ci := 12) (v := .long (lSp a (a (202 + 6 * k)) (0) (a (4 + (a (202 + 6 * k)))))) (C := RX12) (T := TX12) (N := 24) hx hb hts hinX12 hown hK hP 0 rfl rfl 14 (by decide) (hts (.fieldLink RX12 97 "CornDeskModel" "spread" "J") (by decide +kernel)) (fun _ h9 => h9) rfl dX12_findPlaces_60 ?_
          refine lv_lmul hx hb dX12_findPlaces_63 ?_
          refine ln_eql (y := (lN (zUn a (a (202 + 6 * k)) 0 (a (4 + (a (202 + 6 * k))))))) (lUn_z hp (by decide) hs0) ?_
          have hb1 := zAb_b hp (show 0 < 2 by decide) (u := ((a (202 + 6 * k + 2) : Nat) : Int)) (by omega)
          have hb2 := zUn_le hp (show 0 < 2 by decide)
          refine mq_Sl (As := [.long (lZ (zAb a (a (202 + 6 * k)) 0 (a (4 + (a (202 + 6 * k)))) (a (202 + 6 * k + 2) : Nat))), .long (lN (zUn a (a (202 + 6 * k)) 0 (a (4 + (a (202 + 6 * k))))))]) (rest := [.int (nI (k)), .ref (ad 6)]) ⟨hx, hb, hml, hown, hts⟩ (cM_cut l D _ (zAb a (a (202 + 6 * k)) 0 (a (4 + (a (202 + 6 * k)))) (a (202 + 6 * k + 2) : Nat)) (zUn a (a (202 + 6 * k)) 0 (a (4 + (a (202 + 6 * k))))) (by omega) (by omega) (zUn_pos hp (by decide) hs0)) (cwS 2 hts gX12_findPlaces_X12_cut rfl rfl rfl (by decide +kernel) ⟨Nat.le_of_ble_eq_true rfl, Nat.le_of_ble_eq_true rfl⟩) hP hK hS hA rfl hl.1 rfl (Nat.le_of_ble_eq_true rfl) dX12_findPlaces_64 ⟨Nat.le_of_ble_eq_true rfl, Nat.le_of_ble_eq_true rfl⟩ (fun r w1 H locs hq hP hS => ?_)
          subst hq
          refine ln_eql (y := (lZ (ptX a k))) rfl ?_
          refine ln_last hx hb hK hP hD hS 6 1 rfl rfl (by decide) (by omega) dX12_findPlaces_67 (fun H locs hP hD hS => ?_)
          have hP : va_P D vwCl (mW ad cI cJ a kp bt sz sheets go ro car ke km fi gm bs bu ((nI (a (4 + (a (202 + 6 * k))))).toInt64) (lSU a (a (202 + 6 * k)) (0) (a (4 + (a (202 + 6 * k))))) (lSX a (a (202 + 6 * k)) (0) (a (4 + (a (202 + 6 * k))))) (lUU a (a (202 + 6 * k)) (0) (a (4 + (a (202 + 6 * k))))) (lUX a (a (202 + 6 * k)) (0) (a (4 + (a (202 + 6 * k))))) (lXX a (a (202 + 6 * k)) (0) (a (4 + (a (202 + 6 * k))))) (lSp a (a (202 + 6 * k)) (0) (a (4 + (a (202 + 6 * k))))) (vp_updL fx (k) (lZ (ptX a k))) fy (vp_updL fd (k) (lZ (dbZ a (a (202 + 6 * k)))))) H := hP
          have hD : va_D A (mW ad cI cJ a kp bt sz sheets go ro car ke km fi gm bs bu ((nI (a (4 + (a (202 + 6 * k))))).toInt64) (lSU a (a (202 + 6 * k)) (0) (a (4 + (a (202 + 6 * k))))) (lSX a (a (202 + 6 * k)) (0) (a (4 + (a (202 + 6 * k))))) (lUU a (a (202 + 6 * k)) (0) (a (4 + (a (202 + 6 * k))))) (lUX a (a (202 + 6 * k)) (0) (a (4 + (a (202 + 6 * k))))) (lXX a (a (202 + 6 * k)) (0) (a (4 + (a (202 + 6 * k))))) (lSp a (a (202 + 6 * k)) (0) (a (4 + (a (202 + 6 * k))))) (vp_updL fx (k) (lZ (ptX a k))) fy (vp_updL fd (k) (lZ (dbZ a (a (202 + 6 * k)))))) := hD
          refine lv_aload_n hx hb dX12_findPlaces_68 rfl (lv_at hl 2 rfl) ?_
          refine lv_iload_n hx hb dX12_findPlaces_69 rfl (lv_at hl 0 rfl) ?_
          refine lv_iconst (v := (nI (1))) hx hb dX12_findPlaces_70 (by decide) ?_
          refine mq_Vi (As := [.int (nI (a (202 + 6 * k))), .int (nI (1))]) (rest := []) (ci := 12) (k0 := 0) ⟨hx, hb, hml, hown, hts⟩ (cM_leads l D ad cI cJ a kp bt sz sheets go ro car ke km fi gm bs bu ((nI (a (4 + (a (202 + 6 * k))))).toInt64) (lSU a (a (202 + 6 * k)) (0) (a (4 + (a (202 + 6 * k))))) (lSX a (a (202 + 6 * k)) (0) (a (4 + (a (202 + 6 * k))))) (lUU a (a (202 + 6 * k)) (0) (a (4 + (a (202 + 6 * k))))) (lUX a (a (202 + 6 * k)) (0) (a (4 + (a (202 + 6 * k))))) (lXX a (a (202 + 6 * k)) (0) (a (4 + (a (202 + 6 * k))))) (lSp a (a (202 + 6 * k)) (0) (a (4 + (a (202 + 6 * k))))) (vp_updL fx (k) (lZ (ptX a k))) fy (vp_updL fd (k) (lZ (dbZ a (a (202 + 6 * k))))) (a (202 + 6 * k)) (1) (by omega) (by decide) hp1) (cwV 2 hts gX12_findPlaces_X12_leads rfl rfl rfl (by decide +kernel) ⟨Nat.le_of_ble_eq_true rfl, Nat.le_of_ble_eq_true rfl⟩) rfl rfl hP hK hD hS hA rfl hl.1 rfl (Nat.le_of_ble_eq_true rfl) dX12_findPlaces_71 ⟨Nat.le_of_ble_eq_true rfl, Nat.le_of_ble_eq_true rfl⟩ (fun r w1 H locs hq hP hD hS => ?_)
          obtain ⟨rfl, rfl⟩ := hq
          refine lb_if_eq (tgt := 106) hx hb dX12_findPlaces_74 (by decide) (fun c4 => ?_) (fun c4 => ?_)
          · refine lv_iinc (v := (nI (k + 1))) (lv' := [(1, .int (nI (k + 1))), (2, .int (nI (a (202 + 6 * k)))), (0, .ref (ad 0))]) hx hb dX12_findPlaces_106 hl (k := 1) rfl (by rw [show (Int32.ofInt 1) = nI 1 from rfl, nI_add]) (by decide) rfl (fun ls hl => ?_)
            refine lv_goto (tgt := 2) hx hb dX12_findPlaces_109 (by decide) ?_
            exact ih (k + 1) (vp_updL fx (k) (lZ (ptX a k))) (fy) (vp_updL fd (k) (lZ (dbZ a (a (202 + 6 * k))))) ((nI (a (4 + (a (202 + 6 * k))))).toInt64) (lSU a (a (202 + 6 * k)) (1) (a (4 + (a (202 + 6 * k))))) (lSX a (a (202 + 6 * k)) (1) (a (4 + (a (202 + 6 * k))))) (lUU a (a (202 + 6 * k)) (1) (a (4 + (a (202 + 6 * k))))) (lUX a (a (202 + 6 * k)) (1) (a (4 + (a (202 + 6 * k))))) (lXX a (a (202 + 6 * k)) (1) (a (4 + (a (202 + 6 * k))))) (lSp a (a (202 + 6 * k)) (1) (a (4 + (a (202 + 6 * k))))) (by omega) (plInv_s hiv pk_uLs (fun j hj => pk_uLn (by omega)) (fun _ => pk_uLs) (fun j hj => pk_uLn (by omega)) (fun q => absurd q (fun q => c4 ((lSp_pos hp (by decide)).mpr q))) (fun j hj => rfl)) _ _ _ hP hD hS (lv_sub hl [0, 2] rfl)
          · have hs1 : thr a (mP a k) 1 := (lSp_pos hp (by decide)).mp c4
            refine lv_aload_n hx hb dX12_findPlaces_77 rfl (lv_at hl 2 rfl) ?_
            refine va_get (D := D) (ci := 12) (v := .ref (ad 7)) (C := RX12) (T := TX12) (N := 24) hx hb hts hinX12 hown hK hP 0 rfl rfl 16 (by decide) (hts (.fieldLink RX12 29 "CornDeskModel" "placeY" "[J") (by decide +kernel)) (fun _ h9 => h9) rfl dX12_findPlaces_78 ?_
            refine lv_iload_n hx hb dX12_findPlaces_81 rfl (lv_at hl 1 rfl) ?_
            refine lv_aload_n hx hb dX12_findPlaces_82 rfl (lv_at hl 2 rfl) ?_
            refine lv_aload_n hx hb dX12_findPlaces_83 rfl (lv_at hl 2 rfl) ?_
            refine lv_iload_n hx hb dX12_findPlaces_84 rfl (lv_at hl 1 rfl) ?_
            refine lv_iconst (v := (nI (3))) hx hb dX12_findPlaces_85 (by decide) ?_
            refine mq_Vi (As := [.int (nI (k)), .int (nI (3))]) (rest := [.ref (ad 0), .int (nI (k)), .ref (ad 7)]) (ci := 12) (k0 := 0) ⟨hx, hb, hml, hown, hts⟩ (cM_ofMark l D ad cI cJ a kp bt sz sheets go ro car ke km fi gm bs bu ((nI (a (4 + (a (202 + 6 * k))))).toInt64) (lSU a (a (202 + 6 * k)) (1) (a (4 + (a (202 + 6 * k))))) (lSX a (a (202 + 6 * k)) (1) (a (4 + (a (202 + 6 * k))))) (lUU a (a (202 + 6 * k)) (1) (a (4 + (a (202 + 6 * k))))) (lUX a (a (202 + 6 * k)) (1) (a (4 + (a (202 + 6 * k))))) (lXX a (a (202 + 6 * k)) (1) (a (4 + (a (202 + 6 * k))))) (lSp a (a (202 + 6 * k)) (1) (a (4 + (a (202 + 6 * k))))) (vp_updL fx (k) (lZ (ptX a k))) fy (vp_updL fd (k) (lZ (dbZ a (a (202 + 6 * k))))) (k) (3) (by omega)) (cwV 2 hts gX12_findPlaces_X12_ofMark rfl rfl rfl (by decide +kernel) ⟨Nat.le_of_ble_eq_true rfl, Nat.le_of_ble_eq_true rfl⟩) rfl rfl hP hK hD hS hA rfl hl.1 rfl (Nat.le_of_ble_eq_true rfl) dX12_findPlaces_86 ⟨Nat.le_of_ble_eq_true rfl, Nat.le_of_ble_eq_true rfl⟩ (fun r w1 H locs hq hP hD hS => ?_)
            obtain ⟨rfl, rfl⟩ := hq
            refine lv_i2l hx hb dX12_findPlaces_89 rfl ?_
            refine ln_eql (y := (lZ ((a (202 + 6 * k + 3) : Nat) : Int))) (nI_lZ (by omega)) ?_
            refine mq_Vl (As := [.long (lZ ((a (202 + 6 * k + 3) : Nat) : Int))]) (rest := [.int (nI (k)), .ref (ad 7)]) (ci := 12) (k0 := 0) ⟨hx, hb, hml, hown, hts⟩ (cM_aboveAt l D ad cI cJ a kp bt sz sheets go ro car ke km fi gm bs bu ((nI (a (4 + (a (202 + 6 * k))))).toInt64) (lSU a (a (202 + 6 * k)) (1) (a (4 + (a (202 + 6 * k))))) (lSX a (a (202 + 6 * k)) (1) (a (4 + (a (202 + 6 * k))))) (lUU a (a (202 + 6 * k)) (1) (a (4 + (a (202 + 6 * k))))) (lUX a (a (202 + 6 * k)) (1) (a (4 + (a (202 + 6 * k))))) (lXX a (a (202 + 6 * k)) (1) (a (4 + (a (202 + 6 * k))))) (lSp a (a (202 + 6 * k)) (1) (a (4 + (a (202 + 6 * k))))) (vp_updL fx (k) (lZ (ptX a k))) fy (vp_updL fd (k) (lZ (dbZ a (a (202 + 6 * k))))) (lZ ((a (202 + 6 * k + 3) : Nat) : Int)) ) (cwV 1 hts gX12_findPlaces_X12_aboveAt rfl rfl rfl (by decide +kernel) ⟨Nat.le_of_ble_eq_true rfl, Nat.le_of_ble_eq_true rfl⟩) rfl rfl hP hK hD hS hA rfl hl.1 rfl (Nat.le_of_ble_eq_true rfl) dX12_findPlaces_90 ⟨Nat.le_of_ble_eq_true rfl, Nat.le_of_ble_eq_true rfl⟩ (fun r w1 H locs hq hP hD hS => ?_)
            obtain ⟨rfl, rfl⟩ := hq
            refine ln_eql (y := (lZ (zAb a (a (202 + 6 * k)) 1 (a (4 + (a (202 + 6 * k)))) (a (202 + 6 * k + 3) : Nat)))) (lAb_z hp (by decide) _) ?_
            refine lv_aload_n hx hb dX12_findPlaces_93 rfl (lv_at hl 2 rfl) ?_
            refine va_get (D := D) (ci := 12) (v := .long ((nI (a (4 + (a (202 + 6 * k))))).toInt64)) (C := RX12) (T := TX12) (N := 24) hx hb hts hinX12 hown hK hP 0 rfl rfl 8 (by decide) (hts (.fieldLink RX12 78 "CornDeskModel" "n" "J") (by decide +kernel)) (fun _ h9 => h9) rfl dX12_findPlaces_94 ?_
            refine lv_aload_n hx hb dX12_findPlaces_97 rfl (lv_at hl 2 rfl) ?_
            refine va_get (D := D) (ci := 12) (v := .long (lSp a (a (202 + 6 * k)) (1) (a (4 + (a (202 + 6 * k)))))) (C := RX12) (T := TX12) (N := 24) hx hb hts hinX12 hown hK hP 0 rfl rfl 14 (by decide) (hts (.fieldLink RX12 97 "CornDeskModel" "spread" "J") (by decide +kernel)) (fun _ h9 => h9) rfl dX12_findPlaces_98 ?_
            refine lv_lmul hx hb dX12_findPlaces_101 ?_
            refine ln_eql (y := (lN (zUn a (a (202 + 6 * k)) 1 (a (4 + (a (202 + 6 * k))))))) (lUn_z hp (by decide) hs1) ?_
            have hb1 := zAb_b hp (show 1 < 2 by decide) (u := ((a (202 + 6 * k + 3) : Nat) : Int)) (by omega)
            have hb2 := zUn_le hp (show 1 < 2 by decide)
            refine mq_Sl (As := [.long (lZ (zAb a (a (202 + 6 * k)) 1 (a (4 + (a (202 + 6 * k)))) (a (202 + 6 * k + 3) : Nat))), .long (lN (zUn a (a (202 + 6 * k)) 1 (a (4 + (a (202 + 6 * k))))))]) (rest := [.int (nI (k)), .ref (ad 7)]) ⟨hx, hb, hml, hown, hts⟩ (cM_cut l D _ (zAb a (a (202 + 6 * k)) 1 (a (4 + (a (202 + 6 * k)))) (a (202 + 6 * k + 3) : Nat)) (zUn a (a (202 + 6 * k)) 1 (a (4 + (a (202 + 6 * k))))) (by omega) (by omega) (zUn_pos hp (by decide) hs1)) (cwS 2 hts gX12_findPlaces_X12_cut rfl rfl rfl (by decide +kernel) ⟨Nat.le_of_ble_eq_true rfl, Nat.le_of_ble_eq_true rfl⟩) hP hK hS hA rfl hl.1 rfl (Nat.le_of_ble_eq_true rfl) dX12_findPlaces_102 ⟨Nat.le_of_ble_eq_true rfl, Nat.le_of_ble_eq_true rfl⟩ (fun r w1 H locs hq hP hS => ?_)
            subst hq
            refine ln_eql (y := (lZ (ptY a k))) rfl ?_
            refine ln_last hx hb hK hP hD hS 7 1 rfl rfl (by decide) (by omega) dX12_findPlaces_105 (fun H locs hP hD hS => ?_)
            have hP : va_P D vwCl (mW ad cI cJ a kp bt sz sheets go ro car ke km fi gm bs bu ((nI (a (4 + (a (202 + 6 * k))))).toInt64) (lSU a (a (202 + 6 * k)) (1) (a (4 + (a (202 + 6 * k))))) (lSX a (a (202 + 6 * k)) (1) (a (4 + (a (202 + 6 * k))))) (lUU a (a (202 + 6 * k)) (1) (a (4 + (a (202 + 6 * k))))) (lUX a (a (202 + 6 * k)) (1) (a (4 + (a (202 + 6 * k))))) (lXX a (a (202 + 6 * k)) (1) (a (4 + (a (202 + 6 * k))))) (lSp a (a (202 + 6 * k)) (1) (a (4 + (a (202 + 6 * k))))) (vp_updL fx (k) (lZ (ptX a k))) (vp_updL fy (k) (lZ (ptY a k))) (vp_updL fd (k) (lZ (dbZ a (a (202 + 6 * k)))))) H := hP
            have hD : va_D A (mW ad cI cJ a kp bt sz sheets go ro car ke km fi gm bs bu ((nI (a (4 + (a (202 + 6 * k))))).toInt64) (lSU a (a (202 + 6 * k)) (1) (a (4 + (a (202 + 6 * k))))) (lSX a (a (202 + 6 * k)) (1) (a (4 + (a (202 + 6 * k))))) (lUU a (a (202 + 6 * k)) (1) (a (4 + (a (202 + 6 * k))))) (lUX a (a (202 + 6 * k)) (1) (a (4 + (a (202 + 6 * k))))) (lXX a (a (202 + 6 * k)) (1) (a (4 + (a (202 + 6 * k))))) (lSp a (a (202 + 6 * k)) (1) (a (4 + (a (202 + 6 * k))))) (vp_updL fx (k) (lZ (ptX a k))) (vp_updL fy (k) (lZ (ptY a k))) (vp_updL fd (k) (lZ (dbZ a (a (202 + 6 * k)))))) := hD
            refine lv_iinc (v := (nI (k + 1))) (lv' := [(1, .int (nI (k + 1))), (2, .int (nI (a (202 + 6 * k)))), (0, .ref (ad 0))]) hx hb dX12_findPlaces_106 hl (k := 1) rfl (by rw [show (Int32.ofInt 1) = nI 1 from rfl, nI_add]) (by decide) rfl (fun ls hl => ?_)
            refine lv_goto (tgt := 2) hx hb dX12_findPlaces_109 (by decide) ?_
            exact ih (k + 1) (vp_updL fx (k) (lZ (ptX a k))) (vp_updL fy (k) (lZ (ptY a k))) (vp_updL fd (k) (lZ (dbZ a (a (202 + 6 * k))))) ((nI (a (4 + (a (202 + 6 * k))))).toInt64) (lSU a (a (202 + 6 * k)) (1) (a (4 + (a (202 + 6 * k))))) (lSX a (a (202 + 6 * k)) (1) (a (4 + (a (202 + 6 * k))))) (lUU a (a (202 + 6 * k)) (1) (a (4 + (a (202 + 6 * k))))) (lUX a (a (202 + 6 * k)) (1) (a (4 + (a (202 + 6 * k))))) (lXX a (a (202 + 6 * k)) (1) (a (4 + (a (202 + 6 * k))))) (lSp a (a (202 + 6 * k)) (1) (a (4 + (a (202 + 6 * k))))) (by omega) (plInv_s hiv pk_uLs (fun j hj => pk_uLn (by omega)) (fun _ => pk_uLs) (fun j hj => pk_uLn (by omega)) (fun _ => pk_uLs) (fun j hj => pk_uLn (by omega))) _ _ _ hP hD hS (lv_sub hl [0, 2] rfl)
  exact lp (a 1) (0) (px) (py) (db) (n1) (n2) (n3) (n4) (n5) (n6) (n7) (by omega) (fun j hj => absurd hj (by omega)) _ _ _ hP hD hS hl
set_option maxHeartbeats 4000000 in
set_option maxRecDepth 100000 in
theorem cM_doAgree (l : Launch) (D : va_G) (ad : Nat → Nat) (cI cJ : ClassId) (a kp bt sz : Nat → Nat) (sheets : Nat → Int32) (go ro : Nat → Nat) (car : Nat → Int32) (ke km fi gm bs bu : Nat) (n1 n2 n3 n4 n5 n6 n7 : Int64) (px py db : Nat → Int64) (i : Nat) (j : Nat) (h0 : a 0 ≤ 6) (hpl : ∀ i, i < a 0 → plOk a i) (h1 : a 1 ≤ 20) (hmk : ∀ i, i < a 1 → mkOk a i) (hiv : plInv a px py db (a 1)) (hi : i < a 1) (hj : j < a 1) : mq_i l D (mT cI cJ) yX12_doAgree wsX12_doAgree 1 0 0 22 [.ref (ad 0), .int (nI (i)), .int (nI (j))] (mW ad cI cJ a kp bt sz sheets go ro car ke km fi gm bs bu n1 n2 n3 n4 n5 n6 n7 px py db) (fun r w1 => r = bI (agr a i j) ∧ w1 = mW ad cI cJ a kp bt sz sheets go ro car ke km fi gm bs bu n1 n2 n3 n4 n5 n6 n7 px py db) := by
  refine mq_z_of (cc := cX12_doAgree) (maxL := 7) (by decide) rfl (Nat.le_of_ble_eq_true rfl) ?_
  intro p e s m args below meth c A Q ls hx hb hts hown hml hnm hA hP hK hD hS hl hret
  have hown : s.vm.findClass RX12 = some m.cls := hown
  have hinX12 : ∀ w ∈ u_ws RX12 TX12 24, w ∈ wsX12_doAgree := by decide +kernel
  have hl : lv_has ls 7 [(0, .ref (ad 0)), (1, .int (nI (i))), (2, .int (nI (j)))] := hl
  obtain ⟨hA0, -, hA2, hA3, -, -⟩ := hmk i hi
  obtain ⟨hB0, -, hB2, hB3, -, -⟩ := hmk j hj
  have hpA := hpl _ hA0
  have hpB := hpl _ hB0
  obtain ⟨dA, xA, yA⟩ := hiv i hi
  obtain ⟨dB, xB, yB⟩ := hiv j hj
  have bA : -1 ≤ dbZ a (mP a i) ∧ dbZ a (mP a i) ≤ 9000000000001 := dbZ_b hpA
  have bB : -1 ≤ dbZ a (mP a j) ∧ dbZ a (mP a j) ≤ 9000000000001 := dbZ_b hpB
  obtain ⟨-, kA, -⟩ := hmk i hi
  obtain ⟨-, kB, -⟩ := hmk j hj
  refine lv_aload_n hx hb dX12_doAgree_0 rfl (lv_at hl 0 rfl) ?_
  refine lv_iload_n hx hb dX12_doAgree_1 rfl (lv_at hl 1 rfl) ?_
  refine lv_iconst (v := (nI (0))) hx hb dX12_doAgree_2 (by decide) ?_
  refine mq_Vi (As := [.int (nI (i)), .int (nI (0))]) (rest := []) (ci := 12) (k0 := 0) ⟨hx, hb, hml, hown, hts⟩ (cM_ofMark l D ad cI cJ a kp bt sz sheets go ro car ke km fi gm bs bu n1 n2 n3 n4 n5 n6 n7 px py db (i) (0) (by omega)) (cwV 2 hts gX12_doAgree_X12_ofMark rfl rfl rfl (by decide +kernel) ⟨Nat.le_of_ble_eq_true rfl, Nat.le_of_ble_eq_true rfl⟩) rfl rfl hP hK hD hS hA rfl hl.1 rfl (Nat.le_of_ble_eq_true rfl) dX12_doAgree_3 ⟨Nat.le_of_ble_eq_true rfl, Nat.le_of_ble_eq_true rfl⟩ (fun r w1 H locs hq hP hD hS => ?_)
  obtain ⟨rfl, rfl⟩ := hq
  refine ln_eqi (y := (nI (a (202 + 6 * i)))) rfl ?_
  refine lv_aload_n hx hb dX12_doAgree_6 rfl (lv_at hl 0 rfl) ?_
  refine lv_iload_n hx hb dX12_doAgree_7 rfl (lv_at hl 2 rfl) ?_
  refine lv_iconst (v := (nI (0))) hx hb dX12_doAgree_8 (by decide) ?_
  refine mq_Vi (As := [.int (nI (j)), .int (nI (0))]) (rest := [.int (nI (a (202 + 6 * i)))]) (ci := 12) (k0 := 0) ⟨hx, hb, hml, hown, hts⟩ (cM_ofMark l D ad cI cJ a kp bt sz sheets go ro car ke km fi gm bs bu n1 n2 n3 n4 n5 n6 n7 px py db (j) (0) (by omega)) (cwV 2 hts gX12_doAgree_X12_ofMark rfl rfl rfl (by decide +kernel) ⟨Nat.le_of_ble_eq_true rfl, Nat.le_of_ble_eq_true rfl⟩) rfl rfl hP hK hD hS hA rfl hl.1 rfl (Nat.le_of_ble_eq_true rfl) dX12_doAgree_9 ⟨Nat.le_of_ble_eq_true rfl, Nat.le_of_ble_eq_true rfl⟩ (fun r w1 H locs hq hP hD hS => ?_)
  obtain ⟨rfl, rfl⟩ := hq
  refine ln_eqi (y := (nI (a (202 + 6 * j)))) rfl ?_
  refine ln_icmp_eq (tgt := 52) hx hb dX12_doAgree_12 (by decide) (by omega) (by omega) (fun c1 => ?_) (fun c1 => ?_)
  · refine lv_iconst (v := (nI (0))) hx hb dX12_doAgree_52 (by decide) ?_
    exact hret _ _ _ _ _ _ rfl ⟨bI_f' (fun h => h.1 c1), rfl⟩ hP hD hS dX12_doAgree_53
  · refine lv_aload_n hx hb dX12_doAgree_15 rfl (lv_at hl 0 rfl) ?_
    refine lv_iload_n hx hb dX12_doAgree_16 rfl (lv_at hl 1 rfl) ?_
    refine lv_iconst (v := (nI (1))) hx hb dX12_doAgree_17 (by decide) ?_
    refine mq_Vi (As := [.int (nI (i)), .int (nI (1))]) (rest := []) (ci := 12) (k0 := 0) ⟨hx, hb, hml, hown, hts⟩ (cM_ofMark l D ad cI cJ a kp bt sz sheets go ro car ke km fi gm bs bu n1 n2 n3 n4 n5 n6 n7 px py db (i) (1) (by omega)) (cwV 2 hts gX12_doAgree_X12_ofMark rfl rfl rfl (by decide +kernel) ⟨Nat.le_of_ble_eq_true rfl, Nat.le_of_ble_eq_true rfl⟩) rfl rfl hP hK hD hS hA rfl hl.1 rfl (Nat.le_of_ble_eq_true rfl) dX12_doAgree_18 ⟨Nat.le_of_ble_eq_true rfl, Nat.le_of_ble_eq_true rfl⟩ (fun r w1 H locs hq hP hD hS => ?_)
    obtain ⟨rfl, rfl⟩ := hq
    refine lv_aload_n hx hb dX12_doAgree_21 rfl (lv_at hl 0 rfl) ?_
    refine lv_iload_n hx hb dX12_doAgree_22 rfl (lv_at hl 2 rfl) ?_
    refine lv_iconst (v := (nI (1))) hx hb dX12_doAgree_23 (by decide) ?_
    refine mq_Vi (As := [.int (nI (j)), .int (nI (1))]) (rest := [.int (nI (a (202 + 6 * (i) + (1))))]) (ci := 12) (k0 := 0) ⟨hx, hb, hml, hown, hts⟩ (cM_ofMark l D ad cI cJ a kp bt sz sheets go ro car ke km fi gm bs bu n1 n2 n3 n4 n5 n6 n7 px py db (j) (1) (by omega)) (cwV 2 hts gX12_doAgree_X12_ofMark rfl rfl rfl (by decide +kernel) ⟨Nat.le_of_ble_eq_true rfl, Nat.le_of_ble_eq_true rfl⟩) rfl rfl hP hK hD hS hA rfl hl.1 rfl (Nat.le_of_ble_eq_true rfl) dX12_doAgree_24 ⟨Nat.le_of_ble_eq_true rfl, Nat.le_of_ble_eq_true rfl⟩ (fun r w1 H locs hq hP hD hS => ?_)
    obtain ⟨rfl, rfl⟩ := hq
    refine ln_icmp_ne (tgt := 52) hx hb dX12_doAgree_27 (by decide) (by omega) (by omega) (fun c2 => ?_) (fun c2 => ?_)
    · refine lv_iconst (v := (nI (0))) hx hb dX12_doAgree_52 (by decide) ?_
      exact hret _ _ _ _ _ _ rfl ⟨bI_f' (fun h => c2 h.2.1), rfl⟩ hP hD hS dX12_doAgree_53
    · refine lv_aload_n hx hb dX12_doAgree_30 rfl (lv_at hl 0 rfl) ?_
      refine va_get (D := D) (ci := 12) (v := .ref (ad 8)) (C := RX12) (T := TX12) (N := 24) hx hb hts hinX12 hown hK hP 0 rfl rfl 17 (by decide) (hts (.fieldLink RX12 32 "CornDeskModel" "doubts" "[J") (by decide +kernel)) (fun _ h9 => h9) rfl dX12_doAgree_31 ?_
      refine lv_iload_n hx hb dX12_doAgree_34 rfl (lv_at hl 1 rfl) ?_
      refine ln_lald hx hb hK hP 8 1 rfl rfl (by decide) (by omega) dX12_doAgree_35 ?_
      refine ln_eql (y := (lZ (dbZ a (mP a i)))) dA ?_
      refine lv_lconst (v := 0) hx hb dX12_doAgree_36 (by decide) ?_
      refine W.lcmp hx hb dX12_doAgree_37 ?_
      refine lv_if_lt (tgt := 52) hx hb dX12_doAgree_38 (by decide) (fun c3 => ?_) (fun c3 => ?_)
      · refine lv_iconst (v := (nI (0))) hx hb dX12_doAgree_52 (by decide) ?_
        exact hret _ _ _ _ _ _ rfl ⟨bI_f' (fun h => absurd h.2.2.1 (Int.not_le.mpr ((lZ_lt (x := dbZ a (mP a i)) (y := 0) (by omega) (by omega)).mp ((lg_cmp_lt _ _).mp c3)))), rfl⟩ hP hD hS dX12_doAgree_53
      · have gA : 0 ≤ dbZ a (mP a i) := Int.not_lt.mp (fun q => c3 ((lg_cmp_lt _ _).mpr ((lZ_lt (x := dbZ a (mP a i)) (y := 0) (by omega) (by omega)).mpr q)))
        refine lv_aload_n hx hb dX12_doAgree_41 rfl (lv_at hl 0 rfl) ?_
        refine va_get (D := D) (ci := 12) (v := .ref (ad 8)) (C := RX12) (T := TX12) (N := 24) hx hb hts hinX12 hown hK hP 0 rfl rfl 17 (by decide) (hts (.fieldLink RX12 32 "CornDeskModel" "doubts" "[J") (by decide +kernel)) (fun _ h9 => h9) rfl dX12_doAgree_42 ?_
        refine lv_iload_n hx hb dX12_doAgree_45 rfl (lv_at hl 2 rfl) ?_
        refine ln_lald hx hb hK hP 8 1 rfl rfl (by decide) (by omega) dX12_doAgree_46 ?_
        refine ln_eql (y := (lZ (dbZ a (mP a j)))) dB ?_
        refine lv_lconst (v := 0) hx hb dX12_doAgree_47 (by decide) ?_
        refine W.lcmp hx hb dX12_doAgree_48 ?_
        refine lv_if_ge (tgt := 54) hx hb dX12_doAgree_49 (by decide) (fun c4 => ?_) (fun c4 => ?_)
        · have gB : 0 ≤ dbZ a (mP a j) := (lZ_le (x := 0) (y := dbZ a (mP a j)) (by omega) (by omega)).mp ((lg_cmp_ge _ _).mp c4)
          have xA := xA (dbZ_thr gA).1
          have yA := yA (dbZ_thr gA).2
          have xB := xB (dbZ_thr gB).1
          have yB := yB (dbZ_thr gB).2
          have b1 : (ptX a i).natAbs ≤ 3062793212929 := zPt_b hpA (by decide) hA2
          have b2 : (ptX a j).natAbs ≤ 3062793212929 := zPt_b hpB (by decide) hB2
          have b3 : (ptY a i).natAbs ≤ 3062793212929 := zPt_b hpA (by decide) hA3
          have b4 : (ptY a j).natAbs ≤ 3062793212929 := zPt_b hpB (by decide) hB3
          have tX : ∀ (H : Heap) (locs : List Loc) (ls : Array Slot), va_P D vwCl (mW ad cI cJ a kp bt sz sheets go ro car ke km fi gm bs bu n1 n2 n3 n4 n5 n6 n7 px py db) H → va_D A (mW ad cI cJ a kp bt sz sheets go ro car ke km fi gm bs bu n1 n2 n3 n4 n5 n6 n7 px py db) → va_S A s.heap H locs → lv_has ls 7 [(0, .ref (ad 0)), (1, .int (nI (i))), (2, .int (nI (j)))] → W p l e (mq_R 1 0 0 22) s m args below meth c H locs 0 0 Q (F0 m 99 ls [.long (lZ (((ptX a i - ptX a j).natAbs : Nat) : Int))]) := by
            intro   H locs ls hP hD hS hl
            refine lv_lstore_n (lv' := [(3, .long (lZ (((ptX a i - ptX a j).natAbs : Nat) : Int))), (0, .ref (ad 0)), (1, .int (nI (i))), (2, .int (nI (j)))]) hx hb dX12_doAgree_99 rfl hl (by decide) rfl (fun ls hl => ?_)
            have tY : ∀ (H : Heap) (locs : List Loc) (ls : Array Slot), va_P D vwCl (mW ad cI cJ a kp bt sz sheets go ro car ke km fi gm bs bu n1 n2 n3 n4 n5 n6 n7 px py db) H → va_D A (mW ad cI cJ a kp bt sz sheets go ro car ke km fi gm bs bu n1 n2 n3 n4 n5 n6 n7 px py db) → va_S A s.heap H locs → lv_has ls 7 [(0, .ref (ad 0)), (1, .int (nI (i))), (2, .int (nI (j))), (3, .long (lZ (((ptX a i - ptX a j).natAbs : Nat) : Int)))] → W p l e (mq_R 1 0 0 22) s m args below meth c H locs 0 0 Q (F0 m 145 ls [.long (lZ (((ptY a i - ptY a j).natAbs : Nat) : Int))]) := by
              intro   H locs ls hP hD hS hl
              refine lv_lstore (lv' := [(5, .long (lZ (((ptY a i - ptY a j).natAbs : Nat) : Int))), (0, .ref (ad 0)), (1, .int (nI (i))), (2, .int (nI (j))), (3, .long (lZ (((ptX a i - ptX a j).natAbs : Nat) : Int)))]) hx hb dX12_doAgree_145 hl (by decide) rfl (fun ls hl => ?_)
              refine lv_lload_n hx hb dX12_doAgree_147 rfl (lv_at hl 4 rfl) ?_
              refine lv_aload_n hx hb dX12_doAgree_148 rfl (lv_at hl 1 rfl) ?_
              refine va_get (D := D) (ci := 12) (v := .ref (ad 8)) (C := RX12) (T := TX12) (N := 24) hx hb hts hinX12 hown hK hP 0 rfl rfl 17 (by decide) (hts (.fieldLink RX12 32 "CornDeskModel" "doubts" "[J") (by decide +kernel)) (fun _ h9 => h9) rfl dX12_doAgree_149 ?_
              refine lv_iload_n hx hb dX12_doAgree_152 rfl (lv_at hl 2 rfl) ?_
              refine ln_lald hx hb hK hP 8 1 rfl rfl (by decide) (by omega) dX12_doAgree_153 ?_
              refine ln_eql (y := (lZ (dbZ a (mP a i)))) dA ?_
              refine lv_aload_n hx hb dX12_doAgree_154 rfl (lv_at hl 1 rfl) ?_
              refine va_get (D := D) (ci := 12) (v := .ref (ad 8)) (C := RX12) (T := TX12) (N := 24) hx hb hts hinX12 hown hK hP 0 rfl rfl 17 (by decide) (hts (.fieldLink RX12 32 "CornDeskModel" "doubts" "[J") (by decide +kernel)) (fun _ h9 => h9) rfl dX12_doAgree_155 ?_
              refine lv_iload_n hx hb dX12_doAgree_158 rfl (lv_at hl 3 rfl) ?_
              refine ln_lald hx hb hK hP 8 1 rfl rfl (by decide) (by omega) dX12_doAgree_159 ?_
              refine ln_eql (y := (lZ (dbZ a (mP a j)))) dB ?_
              refine lv_ladd hx hb dX12_doAgree_160 ?_
              refine ln_eql (y := (lZ (dbZ a (mP a i) + dbZ a (mP a j)))) (lZ_add _ _) ?_
              refine W.lcmp hx hb dX12_doAgree_161 ?_
              refine lv_if_gt (tgt := 188) hx hb dX12_doAgree_162 (by decide) (fun c7 => ?_) (fun c7 => ?_)
              · refine lv_iconst (v := (nI (0))) hx hb dX12_doAgree_188 (by decide) ?_
                exact hret _ _ _ _ _ _ rfl ⟨bI_f' (fun h => absurd h.2.2.2.2.1 (Int.not_le.mpr ((lZ_lt (x := dbZ a (mP a i) + dbZ a (mP a j)) (y := (((ptX a i - ptX a j).natAbs : Nat) : Int)) (by omega) (by omega)).mp ((lg_cmp_gt _ _).mp c7)))), rfl⟩ hP hD hS dX12_doAgree_189
              · have l1 : (((ptX a i - ptX a j).natAbs : Nat) : Int) ≤ dbZ a (mP a i) + dbZ a (mP a j) := Int.not_lt.mp (fun q => c7 ((lg_cmp_gt _ _).mpr ((lZ_lt (x := dbZ a (mP a i) + dbZ a (mP a j)) (by omega) (by omega)).mpr q)))
                refine lv_lload hx hb dX12_doAgree_165 (lv_at hl 0 rfl) ?_
                refine lv_aload_n hx hb dX12_doAgree_167 rfl (lv_at hl 1 rfl) ?_
                refine va_get (D := D) (ci := 12) (v := .ref (ad 8)) (C := RX12) (T := TX12) (N := 24) hx hb hts hinX12 hown hK hP 0 rfl rfl 17 (by decide) (hts (.fieldLink RX12 32 "CornDeskModel" "doubts" "[J") (by decide +kernel)) (fun _ h9 => h9) rfl dX12_doAgree_168 ?_
                refine lv_iload_n hx hb dX12_doAgree_171 rfl (lv_at hl 2 rfl) ?_
                refine ln_lald hx hb hK hP 8 1 rfl rfl (by decide) (by omega) dX12_doAgree_172 ?_
                refine ln_eql (y := (lZ (dbZ a (mP a i)))) dA ?_
                refine lv_aload_n hx hb dX12_doAgree_173 rfl (lv_at hl 1 rfl) ?_
                refine va_get (D := D) (ci := 12) (v := .ref (ad 8)) (C := RX12) (T := TX12) (N := 24) hx hb hts hinX12 hown hK hP 0 rfl rfl 17 (by decide) (hts (.fieldLink RX12 32 "CornDeskModel" "doubts" "[J") (by decide +kernel)) (fun _ h9 => h9) rfl dX12_doAgree_174 ?_
                refine lv_iload_n hx hb dX12_doAgree_177 rfl (lv_at hl 3 rfl) ?_
                refine ln_lald hx hb hK hP 8 1 rfl rfl (by decide) (by omega) dX12_doAgree_178 ?_
                refine ln_eql (y := (lZ (dbZ a (mP a j)))) dB ?_
                refine lv_ladd hx hb dX12_doAgree_179 ?_
                refine ln_eql (y := (lZ (dbZ a (mP a i) + dbZ a (mP a j)))) (lZ_add _ _) ?_
                refine W.lcmp hx hb dX12_doAgree_180 ?_
                refine lv_if_gt (tgt := 188) hx hb dX12_doAgree_181 (by decide) (fun c8 => ?_) (fun c8 => ?_)
                · refine lv_iconst (v := (nI (0))) hx hb dX12_doAgree_188 (by decide) ?_
                  exact hret _ _ _ _ _ _ rfl ⟨bI_f' (fun h => absurd h.2.2.2.2.2 (Int.not_le.mpr ((lZ_lt (x := dbZ a (mP a i) + dbZ a (mP a j)) (y := (((ptY a i - ptY a j).natAbs : Nat) : Int)) (by omega) (by omega)).mp ((lg_cmp_gt _ _).mp c8)))), rfl⟩ hP hD hS dX12_doAgree_189
                · have l2 : (((ptY a i - ptY a j).natAbs : Nat) : Int) ≤ dbZ a (mP a i) + dbZ a (mP a j) := Int.not_lt.mp (fun q => c8 ((lg_cmp_gt _ _).mpr ((lZ_lt (x := dbZ a (mP a i) + dbZ a (mP a j)) (by omega) (by omega)).mpr q)))
                  refine lv_iconst (v := (nI (1))) hx hb dX12_doAgree_184 (by decide) ?_
                  refine lv_goto (tgt := 189) hx hb dX12_doAgree_185 (by decide) ?_
                  exact hret _ _ _ _ _ _ rfl ⟨bI_t' ⟨c1, c2, gA, gB, l1, l2⟩, rfl⟩ hP hD hS dX12_doAgree_189
            refine lv_aload_n hx hb dX12_doAgree_100 rfl (lv_at hl 1 rfl) ?_
            refine va_get (D := D) (ci := 12) (v := .ref (ad 7)) (C := RX12) (T := TX12) (N := 24) hx hb hts hinX12 hown hK hP 0 rfl rfl 16 (by decide) (hts (.fieldLink RX12 29 "CornDeskModel" "placeY" "[J") (by decide +kernel)) (fun _ h9 => h9) rfl dX12_doAgree_101 ?_
            refine lv_iload_n hx hb dX12_doAgree_104 rfl (lv_at hl 2 rfl) ?_
            refine ln_lald hx hb hK hP 7 1 rfl rfl (by decide) (by omega) dX12_doAgree_105 ?_
            refine ln_eql (y := (lZ (ptY a i))) yA ?_
            refine lv_aload_n hx hb dX12_doAgree_106 rfl (lv_at hl 1 rfl) ?_
            refine va_get (D := D) (ci := 12) (v := .ref (ad 7)) (C := RX12) (T := TX12) (N := 24) hx hb hts hinX12 hown hK hP 0 rfl rfl 16 (by decide) (hts (.fieldLink RX12 29 "CornDeskModel" "placeY" "[J") (by decide +kernel)) (fun _ h9 => h9) rfl dX12_doAgree_107 ?_
            refine lv_iload_n hx hb dX12_doAgree_110 rfl (lv_at hl 3 rfl) ?_
            refine ln_lald hx hb hK hP 7 1 rfl rfl (by decide) (by omega) dX12_doAgree_111 ?_
            refine ln_eql (y := (lZ (ptY a j))) yB ?_
            refine W.lcmp hx hb dX12_doAgree_112 ?_
            refine lv_if_le (tgt := 132) hx hb dX12_doAgree_113 (by decide) (fun c5 => ?_) (fun c5 => ?_)
            · have cc : ptY a i ≤ ptY a j := (lZ_le (x := ptY a i) (y := ptY a j) (by omega) (by omega)).mp ((lg_cmp_le _ _).mp c5)
              refine lv_aload_n hx hb dX12_doAgree_132 rfl (lv_at hl 1 rfl) ?_
              refine va_get (D := D) (ci := 12) (v := .ref (ad 7)) (C := RX12) (T := TX12) (N := 24) hx hb hts hinX12 hown hK hP 0 rfl rfl 16 (by decide) (hts (.fieldLink RX12 29 "CornDeskModel" "placeY" "[J") (by decide +kernel)) (fun _ h9 => h9) rfl dX12_doAgree_133 ?_
              refine lv_iload_n hx hb dX12_doAgree_136 rfl (lv_at hl 3 rfl) ?_
              refine ln_lald hx hb hK hP 7 1 rfl rfl (by decide) (by omega) dX12_doAgree_137 ?_
              refine ln_eql (y := (lZ (ptY a j))) yB ?_
              refine lv_aload_n hx hb dX12_doAgree_138 rfl (lv_at hl 1 rfl) ?_
              refine va_get (D := D) (ci := 12) (v := .ref (ad 7)) (C := RX12) (T := TX12) (N := 24) hx hb hts hinX12 hown hK hP 0 rfl rfl 16 (by decide) (hts (.fieldLink RX12 29 "CornDeskModel" "placeY" "[J") (by decide +kernel)) (fun _ h9 => h9) rfl dX12_doAgree_139 ?_
              refine lv_iload_n hx hb dX12_doAgree_142 rfl (lv_at hl 2 rfl) ?_
              refine ln_lald hx hb hK hP 7 1 rfl rfl (by decide) (by omega) dX12_doAgree_143 ?_
              refine ln_eql (y := (lZ (ptY a i))) yA ?_
              refine lv_lsub hx hb dX12_doAgree_144 ?_
              refine ln_eql (y := (lZ (((ptY a i - ptY a j).natAbs : Nat) : Int))) (by rw [lZ_sub]; exact congrArg lZ (by omega)) ?_
              exact tY   _ _ _ hP hD hS (lv_sub hl [1, 2, 3, 0] rfl)
            · have cc : ¬ ptY a i ≤ ptY a j := fun q => c5 ((lg_cmp_le _ _).mpr ((lZ_le (x := ptY a i) (y := ptY a j) (by omega) (by omega)).mpr q))
              refine lv_aload_n hx hb dX12_doAgree_116 rfl (lv_at hl 1 rfl) ?_
              refine va_get (D := D) (ci := 12) (v := .ref (ad 7)) (C := RX12) (T := TX12) (N := 24) hx hb hts hinX12 hown hK hP 0 rfl rfl 16 (by decide) (hts (.fieldLink RX12 29 "CornDeskModel" "placeY" "[J") (by decide +kernel)) (fun _ h9 => h9) rfl dX12_doAgree_117 ?_
              refine lv_iload_n hx hb dX12_doAgree_120 rfl (lv_at hl 2 rfl) ?_
              refine ln_lald hx hb hK hP 7 1 rfl rfl (by decide) (by omega) dX12_doAgree_121 ?_
              refine ln_eql (y := (lZ (ptY a i))) yA ?_
              refine lv_aload_n hx hb dX12_doAgree_122 rfl (lv_at hl 1 rfl) ?_
              refine va_get (D := D) (ci := 12) (v := .ref (ad 7)) (C := RX12) (T := TX12) (N := 24) hx hb hts hinX12 hown hK hP 0 rfl rfl 16 (by decide) (hts (.fieldLink RX12 29 "CornDeskModel" "placeY" "[J") (by decide +kernel)) (fun _ h9 => h9) rfl dX12_doAgree_123 ?_
              refine lv_iload_n hx hb dX12_doAgree_126 rfl (lv_at hl 3 rfl) ?_
              refine ln_lald hx hb hK hP 7 1 rfl rfl (by decide) (by omega) dX12_doAgree_127 ?_
              refine ln_eql (y := (lZ (ptY a j))) yB ?_
              refine lv_lsub hx hb dX12_doAgree_128 ?_
              refine lv_goto (tgt := 145) hx hb dX12_doAgree_129 (by decide) ?_
              refine ln_eql (y := (lZ (((ptY a i - ptY a j).natAbs : Nat) : Int))) (by rw [lZ_sub]; exact congrArg lZ (by omega)) ?_
              exact tY   _ _ _ hP hD hS (lv_sub hl [1, 2, 3, 0] rfl)
          refine lv_aload_n hx hb dX12_doAgree_54 rfl (lv_at hl 0 rfl) ?_
          refine va_get (D := D) (ci := 12) (v := .ref (ad 6)) (C := RX12) (T := TX12) (N := 24) hx hb hts hinX12 hown hK hP 0 rfl rfl 15 (by decide) (hts (.fieldLink RX12 25 "CornDeskModel" "placeX" "[J") (by decide +kernel)) (fun _ h9 => h9) rfl dX12_doAgree_55 ?_
          refine lv_iload_n hx hb dX12_doAgree_58 rfl (lv_at hl 1 rfl) ?_
          refine ln_lald hx hb hK hP 6 1 rfl rfl (by decide) (by omega) dX12_doAgree_59 ?_
          refine ln_eql (y := (lZ (ptX a i))) xA ?_
          refine lv_aload_n hx hb dX12_doAgree_60 rfl (lv_at hl 0 rfl) ?_
          refine va_get (D := D) (ci := 12) (v := .ref (ad 6)) (C := RX12) (T := TX12) (N := 24) hx hb hts hinX12 hown hK hP 0 rfl rfl 15 (by decide) (hts (.fieldLink RX12 25 "CornDeskModel" "placeX" "[J") (by decide +kernel)) (fun _ h9 => h9) rfl dX12_doAgree_61 ?_
          refine lv_iload_n hx hb dX12_doAgree_64 rfl (lv_at hl 2 rfl) ?_
          refine ln_lald hx hb hK hP 6 1 rfl rfl (by decide) (by omega) dX12_doAgree_65 ?_
          refine ln_eql (y := (lZ (ptX a j))) xB ?_
          refine W.lcmp hx hb dX12_doAgree_66 ?_
          refine lv_if_le (tgt := 86) hx hb dX12_doAgree_67 (by decide) (fun c5 => ?_) (fun c5 => ?_)
          · have cc : ptX a i ≤ ptX a j := (lZ_le (x := ptX a i) (y := ptX a j) (by omega) (by omega)).mp ((lg_cmp_le _ _).mp c5)
            refine lv_aload_n hx hb dX12_doAgree_86 rfl (lv_at hl 0 rfl) ?_
            refine va_get (D := D) (ci := 12) (v := .ref (ad 6)) (C := RX12) (T := TX12) (N := 24) hx hb hts hinX12 hown hK hP 0 rfl rfl 15 (by decide) (hts (.fieldLink RX12 25 "CornDeskModel" "placeX" "[J") (by decide +kernel)) (fun _ h9 => h9) rfl dX12_doAgree_87 ?_
            refine lv_iload_n hx hb dX12_doAgree_90 rfl (lv_at hl 2 rfl) ?_
            refine ln_lald hx hb hK hP 6 1 rfl rfl (by decide) (by omega) dX12_doAgree_91 ?_
            refine ln_eql (y := (lZ (ptX a j))) xB ?_
            refine lv_aload_n hx hb dX12_doAgree_92 rfl (lv_at hl 0 rfl) ?_
            refine va_get (D := D) (ci := 12) (v := .ref (ad 6)) (C := RX12) (T := TX12) (N := 24) hx hb hts hinX12 hown hK hP 0 rfl rfl 15 (by decide) (hts (.fieldLink RX12 25 "CornDeskModel" "placeX" "[J") (by decide +kernel)) (fun _ h9 => h9) rfl dX12_doAgree_93 ?_
            refine lv_iload_n hx hb dX12_doAgree_96 rfl (lv_at hl 1 rfl) ?_
            refine ln_lald hx hb hK hP 6 1 rfl rfl (by decide) (by omega) dX12_doAgree_97 ?_
            refine ln_eql (y := (lZ (ptX a i))) xA ?_
            refine lv_lsub hx hb dX12_doAgree_98 ?_
            refine ln_eql (y := (lZ (((ptX a i - ptX a j).natAbs : Nat) : Int))) (by rw [lZ_sub]; exact congrArg lZ (by omega)) ?_
            exact tX   _ _ _ hP hD hS hl
          · have cc : ¬ ptX a i ≤ ptX a j := fun q => c5 ((lg_cmp_le _ _).mpr ((lZ_le (x := ptX a i) (y := ptX a j) (by omega) (by omega)).mpr q))
            refine lv_aload_n hx hb dX12_doAgree_70 rfl (lv_at hl 0 rfl) ?_
            refine va_get (D := D) (ci := 12) (v := .ref (ad 6)) (C := RX12) (T := TX12) (N := 24) hx hb hts hinX12 hown hK hP 0 rfl rfl 15 (by decide) (hts (.fieldLink RX12 25 "CornDeskModel" "placeX" "[J") (by decide +kernel)) (fun _ h9 => h9) rfl dX12_doAgree_71 ?_
            refine lv_iload_n hx hb dX12_doAgree_74 rfl (lv_at hl 1 rfl) ?_
            refine ln_lald hx hb hK hP 6 1 rfl rfl (by decide) (by omega) dX12_doAgree_75 ?_
            refine ln_eql (y := (lZ (ptX a i))) xA ?_
            refine lv_aload_n hx hb dX12_doAgree_76 rfl (lv_at hl 0 rfl) ?_
            refine va_get (D := D) (ci := 12) (v := .ref (ad 6)) (C := RX12) (T := TX12) (N := 24) hx hb hts hinX12 hown hK hP 0 rfl rfl 15 (by decide) (hts (.fieldLink RX12 25 "CornDeskModel" "placeX" "[J") (by decide +kernel)) (fun _ h9 => h9) rfl dX12_doAgree_77 ?_
            refine lv_iload_n hx hb dX12_doAgree_80 rfl (lv_at hl 2 rfl) ?_
            refine ln_lald hx hb hK hP 6 1 rfl rfl (by decide) (by omega) dX12_doAgree_81 ?_
            refine ln_eql (y := (lZ (ptX a j))) xB ?_
            refine lv_lsub hx hb dX12_doAgree_82 ?_
            refine lv_goto (tgt := 99) hx hb dX12_doAgree_83 (by decide) ?_
            refine ln_eql (y := (lZ (((ptX a i - ptX a j).natAbs : Nat) : Int))) (by rw [lZ_sub]; exact congrArg lZ (by omega)) ?_
            exact tX   _ _ _ hP hD hS hl
        · refine lv_iconst (v := (nI (0))) hx hb dX12_doAgree_52 (by decide) ?_
          exact hret _ _ _ _ _ _ rfl ⟨bI_f' (fun h => absurd h.2.2.2.1 (fun q => c4 ((lg_cmp_ge _ _).mpr ((lZ_le (x := 0) (y := dbZ a (mP a j)) (by omega) (by omega)).mpr q)))), rfl⟩ hP hD hS dX12_doAgree_53
set_option maxHeartbeats 4000000 in
set_option maxRecDepth 100000 in
theorem cM_agree (l : Launch) (D : va_G) (ad : Nat → Nat) (cI cJ : ClassId) (a kp bt sz : Nat → Nat) (sheets : Nat → Int32) (go ro : Nat → Nat) (car : Nat → Int32) (ke km fi gm bs bu : Nat) (n1 n2 n3 n4 n5 n6 n7 : Int64) (px py db : Nat → Int64) (x : Int32) (y : Int32) (h0 : a 0 ≤ 6) (hpl : ∀ i, i < a 0 → plOk a i) (h1 : a 1 ≤ 20) (hmk : ∀ i, i < a 1 → mkOk a i) : mq_l l D (mT cI cJ) yX12_agree wsX12_agree 3 0 0 81 [.ref (ad 0), .int (x), .int (y)] (mW ad cI cJ a kp bt sz sheets go ro car ke km fi gm bs bu n1 n2 n3 n4 n5 n6 n7 px py db) (fun r w1 => (¬ (ix (a 1) x ∧ ix (a 1) y) ∧ r = -1000000001 ∧ w1 = mW ad cI cJ a kp bt sz sheets go ro car ke km (fi + 1) gm bs bu n1 n2 n3 n4 n5 n6 n7 px py db) ∨ (∃ i j : Nat, (x = nI i ∧ y = nI j ∧ i < a 1 ∧ j < a 1) ∧ r = (if agr a i j then 1 else 0) ∧ ∃ (fx fy fd : Nat → Int64) (m1 m2 m3 m4 m5 m6 m7 : Int64), w1 = mW ad cI cJ a kp bt sz sheets go ro car ke km fi gm bs bu m1 m2 m3 m4 m5 m6 m7 fx fy fd)) := by
  refine mq_l_of (cc := cX12_agree) (maxL := 3) (by decide) rfl (Nat.le_of_ble_eq_true rfl) ?_
  intro p e s m args below meth c A Q ls hx hb hts hown hml hnm hA hP hK hD hS hl hret
  have hown : s.vm.findClass RX12 = some m.cls := hown
  have hinX12 : ∀ w ∈ u_ws RX12 TX12 24, w ∈ wsX12_agree := by decide +kernel
  have hl : lv_has ls 3 [(0, .ref (ad 0)), (1, .int (x)), (2, .int (y))] := hl
  refine lv_aload_n hx hb dX12_agree_0 rfl (lv_at hl 0 rfl) ?_
  refine lv_iload_n hx hb dX12_agree_1 rfl (lv_at hl 1 rfl) ?_
  refine mq_Vi (As := [.int (x)]) (rest := []) (ci := 12) (k0 := 0) ⟨hx, hb, hml, hown, hts⟩ (cM_isMark l D ad cI cJ a kp bt sz sheets go ro car ke km fi gm bs bu n1 n2 n3 n4 n5 n6 n7 px py db (x) (by omega)) (cwV 1 hts gX12_agree_X12_isMark rfl rfl rfl (by decide +kernel) ⟨Nat.le_of_ble_eq_true rfl, Nat.le_of_ble_eq_true rfl⟩) rfl rfl hP hK hD hS hA rfl hl.1 rfl (Nat.le_of_ble_eq_true rfl) dX12_agree_2 ⟨Nat.le_of_ble_eq_true rfl, Nat.le_of_ble_eq_true rfl⟩ (fun r w1 H locs hq hP hD hS => ?_)
  obtain ⟨rfl, rfl⟩ := hq
  refine lb_if_eq (tgt := 16) hx hb dX12_agree_5 (by decide) (fun c1 => ?_) (fun c1 => ?_)
  · refine lv_aload_n hx hb dX12_agree_16 rfl (lv_at hl 0 rfl) ?_
    refine lv_ldc2 (v := (-1000000001)) hx hb hown (hts (.constantLong RX12 76 (-1000000001)) (by decide +kernel)) dX12_agree_17 ?_
    refine mq_Vl (As := [.long ((-1000000001))]) (rest := []) (ci := 12) (k0 := 0) ⟨hx, hb, hml, hown, hts⟩ (cM_finds l D ad cI cJ a kp bt sz sheets go ro car ke km fi gm bs bu n1 n2 n3 n4 n5 n6 n7 px py db ((-1000000001)) ) (cwV 1 hts gX12_agree_X12_finds rfl rfl rfl (by decide +kernel) ⟨Nat.le_of_ble_eq_true rfl, Nat.le_of_ble_eq_true rfl⟩) rfl rfl hP hK hD hS hA rfl hl.1 rfl (Nat.le_of_ble_eq_true rfl) dX12_agree_20 ⟨Nat.le_of_ble_eq_true rfl, Nat.le_of_ble_eq_true rfl⟩ (fun r w1 H locs hq hP hD hS => ?_)
    obtain ⟨rfl, rfl⟩ := hq
    exact hret _ _ _ _ _ _ (Or.inl ⟨fun h => c1 h.1, rfl, rfl⟩) hP hD hS dX12_agree_23
  · refine lv_aload_n hx hb dX12_agree_8 rfl (lv_at hl 0 rfl) ?_
    refine lv_iload_n hx hb dX12_agree_9 rfl (lv_at hl 2 rfl) ?_
    refine mq_Vi (As := [.int (y)]) (rest := []) (ci := 12) (k0 := 0) ⟨hx, hb, hml, hown, hts⟩ (cM_isMark l D ad cI cJ a kp bt sz sheets go ro car ke km fi gm bs bu n1 n2 n3 n4 n5 n6 n7 px py db (y) (by omega)) (cwV 1 hts gX12_agree_X12_isMark rfl rfl rfl (by decide +kernel) ⟨Nat.le_of_ble_eq_true rfl, Nat.le_of_ble_eq_true rfl⟩) rfl rfl hP hK hD hS hA rfl hl.1 rfl (Nat.le_of_ble_eq_true rfl) dX12_agree_10 ⟨Nat.le_of_ble_eq_true rfl, Nat.le_of_ble_eq_true rfl⟩ (fun r w1 H locs hq hP hD hS => ?_)
    obtain ⟨rfl, rfl⟩ := hq
    refine lb_if_ne (tgt := 24) hx hb dX12_agree_13 (by decide) (fun c2 => ?_) (fun c2 => ?_)
    · obtain ⟨i, hi, rfl⟩ := ix_of c1 (by omega)
      obtain ⟨j, hj, rfl⟩ := ix_of c2 (by omega)
      refine lv_aload_n hx hb dX12_agree_24 rfl (lv_at hl 0 rfl) ?_
      refine mq_Vv (As := []) (rest := []) (ci := 12) (k0 := 0) ⟨hx, hb, hml, hown, hts⟩ (cM_findPlaces l D ad cI cJ a kp bt sz sheets go ro car ke km fi gm bs bu n1 n2 n3 n4 n5 n6 n7 px py db  h0 hpl h1 hmk) (cwV 0 hts gX12_agree_X12_findPlaces rfl rfl rfl (by decide +kernel) ⟨Nat.le_of_ble_eq_true rfl, Nat.le_of_ble_eq_true rfl⟩) rfl rfl hP hK hD hS hA rfl hl.1 rfl (Nat.le_of_ble_eq_true rfl) dX12_agree_25 ⟨Nat.le_of_ble_eq_true rfl, Nat.le_of_ble_eq_true rfl⟩ (fun w1 H locs hq hP hD hS => ?_)
      obtain ⟨j_1, j_2, j_3, j_4, j_5, j_6, j_7, j_8, j_9, j_10, hiv, rfl⟩ := hq
      refine lv_aload_n hx hb dX12_agree_28 rfl (lv_at hl 0 rfl) ?_
      refine lv_iload_n hx hb dX12_agree_29 rfl (lv_at hl 1 rfl) ?_
      refine lv_iload_n hx hb dX12_agree_30 rfl (lv_at hl 2 rfl) ?_
      refine mq_Vi (As := [.int (nI (i)), .int (nI (j))]) (rest := []) (ci := 12) (k0 := 0) ⟨hx, hb, hml, hown, hts⟩ (cM_doAgree l D ad cI cJ a kp bt sz sheets go ro car ke km fi gm bs bu j_4 j_5 j_6 j_7 j_8 j_9 j_10 j_1 j_2 j_3 (i) (j) h0 hpl h1 hmk hiv hi hj) (cwV 2 hts gX12_agree_X12_doAgree rfl rfl rfl (by decide +kernel) ⟨Nat.le_of_ble_eq_true rfl, Nat.le_of_ble_eq_true rfl⟩) rfl rfl hP hK hD hS hA rfl hl.1 rfl (Nat.le_of_ble_eq_true rfl) dX12_agree_31 ⟨Nat.le_of_ble_eq_true rfl, Nat.le_of_ble_eq_true rfl⟩ (fun r w1 H locs hq hP hD hS => ?_)
      obtain ⟨rfl, rfl⟩ := hq
      refine lb_if_eq (tgt := 41) hx hb dX12_agree_34 (by decide) (fun c3 => ?_) (fun c3 => ?_)
      · refine lv_lconst (v := 0) hx hb dX12_agree_41 (by decide) ?_
        exact hret _ _ _ _ _ _ (Or.inr ⟨i, j, ⟨rfl, rfl, hi, hj⟩, (if_neg c3).symm, _, _, _, _, _, _, _, _, _, _, rfl⟩) hP hD hS dX12_agree_42
      · refine lv_lconst (v := 1) hx hb dX12_agree_37 (by decide) ?_
        refine lv_goto (tgt := 42) hx hb dX12_agree_38 (by decide) ?_
        exact hret _ _ _ _ _ _ (Or.inr ⟨i, j, ⟨rfl, rfl, hi, hj⟩, (if_pos c3).symm, _, _, _, _, _, _, _, _, _, _, rfl⟩) hP hD hS dX12_agree_42
    · refine lv_aload_n hx hb dX12_agree_16 rfl (lv_at hl 0 rfl) ?_
      refine lv_ldc2 (v := (-1000000001)) hx hb hown (hts (.constantLong RX12 76 (-1000000001)) (by decide +kernel)) dX12_agree_17 ?_
      refine mq_Vl (As := [.long ((-1000000001))]) (rest := []) (ci := 12) (k0 := 0) ⟨hx, hb, hml, hown, hts⟩ (cM_finds l D ad cI cJ a kp bt sz sheets go ro car ke km fi gm bs bu n1 n2 n3 n4 n5 n6 n7 px py db ((-1000000001)) ) (cwV 1 hts gX12_agree_X12_finds rfl rfl rfl (by decide +kernel) ⟨Nat.le_of_ble_eq_true rfl, Nat.le_of_ble_eq_true rfl⟩) rfl rfl hP hK hD hS hA rfl hl.1 rfl (Nat.le_of_ble_eq_true rfl) dX12_agree_20 ⟨Nat.le_of_ble_eq_true rfl, Nat.le_of_ble_eq_true rfl⟩ (fun r w1 H locs hq hP hD hS => ?_)
      obtain ⟨rfl, rfl⟩ := hq
      exact hret _ _ _ _ _ _ (Or.inl ⟨fun h => c2 h.2, rfl, rfl⟩) hP hD hS dX12_agree_23
