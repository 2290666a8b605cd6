def spI (a : Nat → Nat) (N : Nat) (G0 G : Nat → Nat) (k m : Nat) : Prop := (∀ j, j < N → G0 j ≠ 0 → G j = G0 j) ∧ (∀ j, j < N → G0 j = 0 → G j = 0 ∨ (G j = k + 1 ∧ con a N m j)) ∧ (∀ j, j < N → G j ≤ 21)
def pz (a : Nat → Nat) (N k : Nat) (Gp G : Nat → Nat) (mo i j : Nat) : Prop := (mo = 0 ∧ G = Gp ∧ ∀ x y, x < N → y < N → (x < i ∨ (x = i ∧ y < j)) → Gp x = k + 1 → agr a x y → Gp y ≠ 0) ∨ (mo = 1 ∧ cnt0 G N < cnt0 Gp N)
theorem pz_0 {a : Nat → Nat} {N k : Nat} {G : Nat → Nat} : pz a N k G G 0 0 0 := Or.inl ⟨rfl, rfl, fun x y _ _ h => by omega⟩
theorem pz_s {a : Nat → Nat} {N k : Nat} {Gp G : Nat → Nat} {mo i j : Nat} (h : pz a N k Gp G mo i j) (hc : G i ≠ k + 1 ∨ G j ≠ 0 ∨ ¬ agr a i j) : pz a N k Gp G mo i (j + 1) := by
  rcases h with ⟨h1, h2, h3⟩ | h
  · subst h2
    refine Or.inl ⟨h1, rfl, fun x y hx hy ho hG hag => ?_⟩
    rcases Classical.em (x = i ∧ y = j) with q | q
    · obtain ⟨rfl, rfl⟩ := q
      rcases hc with q | q | q
      · exact absurd hG q
      · exact q
      · exact absurd hag q
    · exact h3 x y hx hy (by omega) hG hag
  · exact Or.inr h
theorem pz_t {a : Nat → Nat} {N k : Nat} {Gp G : Nat → Nat} {mo i j j2 : Nat} (h : pz a N k Gp G mo i j) (hj : j2 < N) (h0 : G j2 = 0) {i3 j3 : Nat} : pz a N k Gp (upN G j2 (k + 1)) 1 i3 j3 := by
  have hc := cnt0_up (x := k + 1) h0 (by omega) hj
  rcases h with ⟨h1, h2, h3⟩ | h
  · subst h2
    exact Or.inr ⟨rfl, by omega⟩
  · exact Or.inr ⟨rfl, by omega⟩
theorem pz_r {a : Nat → Nat} {N k : Nat} {Gp G : Nat → Nat} {mo i : Nat} (h : pz a N k Gp G mo i N) : pz a N k Gp G mo (i + 1) 0 := by
  rcases h with ⟨h1, h2, h3⟩ | h
  · exact Or.inl ⟨h1, h2, fun x y hx hy ho => h3 x y hx hy (by omega)⟩
  · exact Or.inr h
theorem spI_con {a : Nat → Nat} {N : Nat} {G0 G : Nat → Nat} {k m i : Nat} (h : spI a N G0 G k m) (hu : ∀ j, j < N → G0 j = k + 1 → j = m) (hi : i < N) (hG : G i = k + 1) : con a N m i := by
  rcases Classical.em (G0 i = 0) with q | q
  · rcases h.2.1 i hi q with h1 | h1
    · omega
    · exact h1.2
  · have h1 := h.1 i hi q
    rw [hu i hi (by rw [← h1]; exact hG)]
    exact con_refl
theorem spI_t {a : Nat → Nat} {N : Nat} {G0 G : Nat → Nat} {k m i j : Nat} (h : spI a N G0 G k m) (hu : ∀ j, j < N → G0 j = k + 1 → j = m) (hk : k ≤ 20) (hi : i < N) (hj : j < N) (hG : G i = k + 1) (h0 : G j = 0) (hag : agr a i j) : spI a N G0 (upN G j (k + 1)) k m := by
  have hz : G0 j = 0 := Classical.byContradiction fun q => q (by rw [← h.1 j hj q]; exact h0)
  refine ⟨fun x hx hn => ?_, fun x hx hn => ?_, fun x hx => ?_⟩
  · rw [upN_n (fun q => hn (by rw [q]; exact hz))]
    exact h.1 x hx hn
  · rcases Classical.em (x = j) with q | q
    · subst q
      exact Or.inr ⟨upN_s, con_trans (spI_con h hu hi hG) (con_step hi hx hag)⟩
    · rw [upN_n q]
      exact h.2.1 x hx hn
  · rcases Classical.em (x = j) with q | q
    · subst q
      rw [upN_s]
      omega
    · rw [upN_n q]
      exact h.2.2 x hx
theorem spI_end {a : Nat → Nat} {N : Nat} {G0 G : Nat → Nat} {k m : Nat} (h : spI a N G0 G k m) (hc : ∀ x y, x < N → y < N → G x = k + 1 → agr a x y → G y ≠ 0) : sprd a N G0 G k m := ⟨h.1, h.2.1, hc⟩
set_option maxHeartbeats 4000000 in
set_option maxRecDepth 100000 in
theorem cM_spreads (l : Launch) (D : va_G) (ad : Nat → Nat) (cI cJ : ClassId) (a kp bt sz : Nat → Nat) (sheets : Nat → Int32) (go ro : Nat → Nat) (car : Nat → Int32) (ke km fi gm bs bu : Nat) (n1 n2 n3 n4 n5 n6 n7 : Int64) (px py db : Nat → Int64) (k : Nat) (h0 : a 0 ≤ 6) (hpl : ∀ i, i < a 0 → plOk a i) (h1 : a 1 ≤ 20) (hmk : ∀ i, i < a 1 → mkOk a i) (hiv : plInv a px py db (a 1)) (m0 : Nat) (hk : k ≤ 20) (hgb : ∀ j, j < a 1 → go j ≤ 21) (hu : ∀ j, j < a 1 → go j = k + 1 → j = m0) : mq_v l D (mT cI cJ) yX12_spreads wsX12_spreads 2 0 0 48 [.ref (ad 0), .int (nI (k))] (mW ad cI cJ a kp bt sz sheets go ro car ke km fi gm bs bu n1 n2 n3 n4 n5 n6 n7 px py db) (fun w1 => ∃ G : Nat → Nat, sprd a (a 1) go G k m0 ∧ w1 = mW ad cI cJ a kp bt sz sheets G ro car ke km fi gm bs bu n1 n2 n3 n4 n5 n6 n7 px py db) := by
  refine mq_v_of (cc := cX12_spreads) (maxL := 5) (by decide) rfl (Nat.le_of_ble_eq_true rfl) ?_
  intro p e s m args below meth c A Q ls hx hb hts hown hml hnm hA hP hK hD hS hl hret
  have hown : s.vm.findClass RX12 = some m.cls := hown
  have hinX12 : ∀ w ∈ u_ws RX12 TX12 24, w ∈ wsX12_spreads := by decide +kernel
  have hl : lv_has ls 5 [(0, .ref (ad 0)), (1, .int (nI (k)))] := hl
  refine lv_iconst (v := (nI (1))) hx hb dX12_spreads_0 (by decide) ?_
  refine lv_istore_n (lv' := [(2, .int (nI (1))), (0, .ref (ad 0)), (1, .int (nI (k)))]) hx hb dX12_spreads_1 rfl hl (by decide) rfl (fun ls hl => ?_)
  have l0 : ∀ (f0 : Nat) (g0 : Nat → Nat) (mo : Nat), (spI a (a 1) go g0 k m0) → (mo = 0 ∨ cnt0 g0 (a 1) < f0) → (mo = 0 → ∀ x y, x < a 1 → y < a 1 → g0 x = k + 1 → agr a x y → g0 y ≠ 0) → (mo ≤ 1) → ∀ (H : Heap) (locs : List Loc) (ls : Array Slot), va_P D vwCl (mW ad cI cJ a kp bt sz sheets g0 ro car ke km fi gm bs bu n1 n2 n3 n4 n5 n6 n7 px py db) H → va_D A (mW ad cI cJ a kp bt sz sheets g0 ro car ke km fi gm bs bu n1 n2 n3 n4 n5 n6 n7 px py db) → va_S A s.heap H locs → lv_has ls 5 [(2, .int (nI (mo))), (0, .ref (ad 0)), (1, .int (nI (k)))] → W p l e (mq_R 2 0 0 48) s m args below meth c H locs 0 0 Q (F0 m 2 ls []) := by
    intro f0
    induction f0 with
    | zero =>
      intro g0 mo hsp hf hcl hmo H locs ls hP hD hS hl
      refine lv_iload_n hx hb dX12_spreads_2 rfl (lv_at hl 0 rfl) ?_
      refine ln_if_eq (tgt := 92) hx hb dX12_spreads_3 (by decide) (by omega) (fun c0 => ?_) (fun c0 => ?_)
      · exact hret _ _ _ _ _ ⟨g0, spI_end hsp (hcl (by omega)), rfl⟩ hP hD hS dX12_spreads_92
      · exact absurd hf (by omega)
    | succ f0 ih0 =>
      intro g0 mo hsp hf hcl hmo H locs ls hP hD hS hl
      refine lv_iload_n hx hb dX12_spreads_2 rfl (lv_at hl 0 rfl) ?_
      refine ln_if_eq (tgt := 92) hx hb dX12_spreads_3 (by decide) (by omega) (fun c0 => ?_) (fun c0 => ?_)
      · exact hret _ _ _ _ _ ⟨g0, spI_end hsp (hcl (by omega)), rfl⟩ hP hD hS dX12_spreads_92
      · refine lv_iconst (v := (nI (0))) hx hb dX12_spreads_6 (by decide) ?_
        refine lv_istore_n (lv' := [(2, .int (nI (0))), (0, .ref (ad 0)), (1, .int (nI (k)))]) hx hb dX12_spreads_7 rfl hl (by decide) rfl (fun ls hl => ?_)
        refine lv_iconst (v := (nI (0))) hx hb dX12_spreads_8 (by decide) ?_
        refine lv_istore_n (lv' := [(3, .int (nI (0))), (2, .int (nI (0))), (0, .ref (ad 0)), (1, .int (nI (k)))]) hx hb dX12_spreads_9 rfl hl (by decide) rfl (fun ls hl => ?_)
        have l1 : ∀ (f1 : Nat) (i : Nat) (g1 : Nat → Nat) (m1 : Nat), (i + f1 = a 1) → (spI a (a 1) go g1 k m0) → (pz a (a 1) k g0 g1 m1 i 0) → ∀ (H : Heap) (locs : List Loc) (ls : Array Slot), va_P D vwCl (mW ad cI cJ a kp bt sz sheets g1 ro car ke km fi gm bs bu n1 n2 n3 n4 n5 n6 n7 px py db) H → va_D A (mW ad cI cJ a kp bt sz sheets g1 ro car ke km fi gm bs bu n1 n2 n3 n4 n5 n6 n7 px py db) → va_S A s.heap H locs → lv_has ls 5 [(3, .int (nI (i))), (2, .int (nI (m1))), (0, .ref (ad 0)), (1, .int (nI (k)))] → W p l e (mq_R 2 0 0 48) s m args below meth c H locs 0 0 Q (F0 m 10 ls []) := by
          intro f1
          induction f1 with
          | zero =>
            intro i g1 m1 hi hsp1 hpz H locs ls hP hD hS hl
            refine lv_iload_n hx hb dX12_spreads_10 rfl (lv_at hl 0 rfl) ?_
            refine lv_aload_n hx hb dX12_spreads_11 rfl (lv_at hl 2 rfl) ?_
            refine va_get (D := D) (ci := 12) (v := .ref (ad 1)) (C := RX12) (T := TX12) (N := 24) hx hb hts hinX12 hown hK hP 0 rfl rfl 0 (by decide) (hts (.fieldLink RX12 9 "CornDeskModel" "now" "[I") (by decide +kernel)) (fun _ h9 => h9) rfl dX12_spreads_12 ?_
            refine lv_iconst (v := (nI (1))) hx hb dX12_spreads_15 (by decide) ?_
            refine ln_iald hx hb hK hP 1 0 rfl rfl (by decide) (by omega) dX12_spreads_16 ?_
            refine ln_icmp_ge (tgt := 89) hx hb dX12_spreads_17 (by decide) (by omega) (by omega) (fun c1 => ?_) (fun c1 => ?_)
            · have hi0 : i = a 1 := by omega
              subst hi0
              refine lv_goto (tgt := 2) hx hb dX12_spreads_89 (by decide) ?_
              exact ih0 (g1) (m1) (hsp1) (by rcases hpz with h | h <;> omega) (fun hm => by rcases hpz with h | h; exact (fun x y hx hy hG hag => by rw [h.2.1] at hG ⊢; exact h.2.2 x y hx hy (by omega) hG hag); omega) (by rcases hpz with h | h <;> omega) _ _ _ hP hD hS (lv_sub hl [1, 2, 3] rfl)
            · exact absurd hi (by omega)
          | succ f1 ih1 =>
            intro i g1 m1 hi hsp1 hpz H locs ls hP hD hS hl
            refine lv_iload_n hx hb dX12_spreads_10 rfl (lv_at hl 0 rfl) ?_
            refine lv_aload_n hx hb dX12_spreads_11 rfl (lv_at hl 2 rfl) ?_
            refine va_get (D := D) (ci := 12) (v := .ref (ad 1)) (C := RX12) (T := TX12) (N := 24) hx hb hts hinX12 hown hK hP 0 rfl rfl 0 (by decide) (hts (.fieldLink RX12 9 "CornDeskModel" "now" "[I") (by decide +kernel)) (fun _ h9 => h9) rfl dX12_spreads_12 ?_
            refine lv_iconst (v := (nI (1))) hx hb dX12_spreads_15 (by decide) ?_
            refine ln_iald hx hb hK hP 1 0 rfl rfl (by decide) (by omega) dX12_spreads_16 ?_
            refine ln_icmp_ge (tgt := 89) hx hb dX12_spreads_17 (by decide) (by omega) (by omega) (fun c1 => ?_) (fun c1 => ?_)
            · exact absurd hi (by omega)
            · refine lv_iconst (v := (nI (0))) hx hb dX12_spreads_20 (by decide) ?_
              refine lv_istore (lv' := [(4, .int (nI (0))), (3, .int (nI (i))), (2, .int (nI (m1))), (0, .ref (ad 0)), (1, .int (nI (k)))]) hx hb dX12_spreads_21 hl (by decide) rfl (fun ls hl => ?_)
              have l2 : ∀ (f2 : Nat) (j : Nat) (g2 : Nat → Nat) (m2 : Nat), (j + f2 = a 1) → (spI a (a 1) go g2 k m0) → (pz a (a 1) k g0 g2 m2 i j) → ∀ (H : Heap) (locs : List Loc) (ls : Array Slot), va_P D vwCl (mW ad cI cJ a kp bt sz sheets g2 ro car ke km fi gm bs bu n1 n2 n3 n4 n5 n6 n7 px py db) H → va_D A (mW ad cI cJ a kp bt sz sheets g2 ro car ke km fi gm bs bu n1 n2 n3 n4 n5 n6 n7 px py db) → va_S A s.heap H locs → lv_has ls 5 [(4, .int (nI (j))), (3, .int (nI (i))), (2, .int (nI (m2))), (0, .ref (ad 0)), (1, .int (nI (k)))] → W p l e (mq_R 2 0 0 48) s m args below meth c H locs 0 0 Q (F0 m 23 ls []) := by
                intro f2
                induction f2 with
                | zero =>
                  intro j g2 m2 hj hsp2 hpz2 H locs ls hP hD hS hl
                  refine lv_iload hx hb dX12_spreads_23 (lv_at hl 0 rfl) ?_
                  refine lv_aload_n hx hb dX12_spreads_25 rfl (lv_at hl 3 rfl) ?_
                  refine va_get (D := D) (ci := 12) (v := .ref (ad 1)) (C := RX12) (T := TX12) (N := 24) hx hb hts hinX12 hown hK hP 0 rfl rfl 0 (by decide) (hts (.fieldLink RX12 9 "CornDeskModel" "now" "[I") (by decide +kernel)) (fun _ h9 => h9) rfl dX12_spreads_26 ?_
                  refine lv_iconst (v := (nI (1))) hx hb dX12_spreads_29 (by decide) ?_
                  refine ln_iald hx hb hK hP 1 0 rfl rfl (by decide) (by omega) dX12_spreads_30 ?_
                  refine ln_icmp_ge (tgt := 83) hx hb dX12_spreads_31 (by decide) (by omega) (by omega) (fun c2 => ?_) (fun c2 => ?_)
                  · have hj0 : j = a 1 := by omega
                    subst hj0
                    refine lv_iinc (v := (nI (i + 1))) (lv' := [(3, .int (nI (i + 1))), (4, .int (nI (a 1))), (2, .int (nI (m2))), (0, .ref (ad 0)), (1, .int (nI (k)))]) hx hb dX12_spreads_83 hl (k := 1) rfl (by rw [show (Int32.ofInt 1) = nI 1 from rfl, nI_add]) (by decide) rfl (fun ls hl => ?_)
                    refine lv_goto (tgt := 10) hx hb dX12_spreads_86 (by decide) ?_
                    exact ih1 (i + 1) (g2) (m2) (by omega) (hsp2) (pz_r hpz2) _ _ _ hP hD hS (lv_sub hl [0, 2, 3, 4] rfl)
                  · exact absurd hj (by omega)
                | succ f2 ih2 =>
                  intro j g2 m2 hj hsp2 hpz2 H locs ls hP hD hS hl
                  refine lv_iload hx hb dX12_spreads_23 (lv_at hl 0 rfl) ?_
                  refine lv_aload_n hx hb dX12_spreads_25 rfl (lv_at hl 3 rfl) ?_
                  refine va_get (D := D) (ci := 12) (v := .ref (ad 1)) (C := RX12) (T := TX12) (N := 24) hx hb hts hinX12 hown hK hP 0 rfl rfl 0 (by decide) (hts (.fieldLink RX12 9 "CornDeskModel" "now" "[I") (by decide +kernel)) (fun _ h9 => h9) rfl dX12_spreads_26 ?_
                  refine lv_iconst (v := (nI (1))) hx hb dX12_spreads_29 (by decide) ?_
                  refine ln_iald hx hb hK hP 1 0 rfl rfl (by decide) (by omega) dX12_spreads_30 ?_
                  refine ln_icmp_ge (tgt := 83) hx hb dX12_spreads_31 (by decide) (by omega) (by omega) (fun c2 => ?_) (fun c2 => ?_)
                  · exact absurd hj (by omega)
                  · have hiN : i < a 1 := by omega
                    have hjN : j < a 1 := by omega
                    have hgi := hsp2.2.2 i hiN
                    have hgj := hsp2.2.2 j hjN
                    refine lv_aload_n hx hb dX12_spreads_34 rfl (lv_at hl 3 rfl) ?_
                    refine va_get (D := D) (ci := 12) (v := .ref (ad 9)) (C := RX12) (T := TX12) (N := 24) hx hb hts hinX12 hown hK hP 0 rfl rfl 18 (by decide) (hts (.fieldLink RX12 35 "CornDeskModel" "groupOf" "[I") (by decide +kernel)) (fun _ h9 => h9) rfl dX12_spreads_35 ?_
                    refine lv_iload_n hx hb dX12_spreads_38 rfl (lv_at hl 1 rfl) ?_
                    refine ln_iald hx hb hK hP 9 0 rfl rfl (by decide) (by omega) dX12_spreads_39 ?_
                    refine lv_iload_n hx hb dX12_spreads_40 rfl (lv_at hl 4 rfl) ?_
                    refine lg_icmp_ne (tgt := 77) hx hb dX12_spreads_41 (by decide) (by omega) (by omega) (fun c3 => ?_) (fun c3 => ?_)
                    · refine lv_iinc (v := (nI (j + 1))) (lv' := [(4, .int (nI (j + 1))), (3, .int (nI (i))), (2, .int (nI (m2))), (0, .ref (ad 0)), (1, .int (nI (k)))]) hx hb dX12_spreads_77 hl (k := 0) rfl (by rw [show (Int32.ofInt 1) = nI 1 from rfl, nI_add]) (by decide) rfl (fun ls hl => ?_)
                      refine lv_goto (tgt := 23) hx hb dX12_spreads_80 (by decide) ?_
                      exact ih2 (j + 1) (g2) (m2) (by omega) (hsp2) (pz_s hpz2 (Or.inl c3)) _ _ _ hP hD hS hl
                    · refine lv_aload_n hx hb dX12_spreads_44 rfl (lv_at hl 3 rfl) ?_
                      refine va_get (D := D) (ci := 12) (v := .ref (ad 9)) (C := RX12) (T := TX12) (N := 24) hx hb hts hinX12 hown hK hP 0 rfl rfl 18 (by decide) (hts (.fieldLink RX12 35 "CornDeskModel" "groupOf" "[I") (by decide +kernel)) (fun _ h9 => h9) rfl dX12_spreads_45 ?_
                      refine lv_iload hx hb dX12_spreads_48 (lv_at hl 0 rfl) ?_
                      refine ln_iald hx hb hK hP 9 0 rfl rfl (by decide) (by omega) dX12_spreads_50 ?_
                      refine lg_if_ge (tgt := 77) hx hb dX12_spreads_51 (by decide) (by omega) (fun c4 => ?_) (fun c4 => ?_)
                      · refine lv_iinc (v := (nI (j + 1))) (lv' := [(4, .int (nI (j + 1))), (3, .int (nI (i))), (2, .int (nI (m2))), (0, .ref (ad 0)), (1, .int (nI (k)))]) hx hb dX12_spreads_77 hl (k := 0) rfl (by rw [show (Int32.ofInt 1) = nI 1 from rfl, nI_add]) (by decide) rfl (fun ls hl => ?_)
                        refine lv_goto (tgt := 23) hx hb dX12_spreads_80 (by decide) ?_
                        exact ih2 (j + 1) (g2) (m2) (by omega) (hsp2) (pz_s hpz2 (Or.inr (Or.inl (by omega)))) _ _ _ hP hD hS hl
                      · refine lv_aload_n hx hb dX12_spreads_54 rfl (lv_at hl 3 rfl) ?_
                        refine lv_iload_n hx hb dX12_spreads_55 rfl (lv_at hl 1 rfl) ?_
                        refine lv_iload hx hb dX12_spreads_56 (lv_at hl 0 rfl) ?_
                        refine mq_Vi (As := [.int (nI (i)), .int (nI (j))]) (rest := []) (ci := 12) (k0 := 0) ⟨hx, hb, hml, hown, hts⟩ (cM_doAgree l D ad cI cJ a kp bt sz sheets g2 ro car ke km fi gm bs bu n1 n2 n3 n4 n5 n6 n7 px py db (i) (j) h0 hpl h1 hmk hiv hiN hjN) (cwV 2 hts gX12_spreads_X12_doAgree rfl rfl rfl (by decide +kernel) ⟨Nat.le_of_ble_eq_true rfl, Nat.le_of_ble_eq_true rfl⟩) rfl rfl hP hK hD hS hA rfl hl.1 rfl (Nat.le_of_ble_eq_true rfl) dX12_spreads_58 ⟨Nat.le_of_ble_eq_true rfl, Nat.le_of_ble_eq_true rfl⟩ (fun r w1 H locs hq hP hD hS => ?_)
                        obtain ⟨rfl, rfl⟩ := hq
                        refine lb_if_ne (tgt := 67) hx hb dX12_spreads_61 (by decide) (fun c5 => ?_) (fun c5 => ?_)
                        · refine lv_aload_n hx hb dX12_spreads_67 rfl (lv_at hl 3 rfl) ?_
                          refine va_get (D := D) (ci := 12) (v := .ref (ad 9)) (C := RX12) (T := TX12) (N := 24) hx hb hts hinX12 hown hK hP 0 rfl rfl 18 (by decide) (hts (.fieldLink RX12 35 "CornDeskModel" "groupOf" "[I") (by decide +kernel)) (fun _ h9 => h9) rfl dX12_spreads_68 ?_
                          refine lv_iload hx hb dX12_spreads_71 (lv_at hl 0 rfl) ?_
                          refine lv_iload_n hx hb dX12_spreads_73 rfl (lv_at hl 4 rfl) ?_
                          refine ln_iastG hx hb hK hP hD hS 9 0 rfl rfl (by decide) (by omega) dX12_spreads_74 (fun H locs hP hD hS => ?_)
                          have hP : va_P D vwCl (mW ad cI cJ a kp bt sz sheets (upN g2 (j) (k + 1)) ro car ke km fi gm bs bu n1 n2 n3 n4 n5 n6 n7 px py db) H := hP
                          have hD : va_D A (mW ad cI cJ a kp bt sz sheets (upN g2 (j) (k + 1)) ro car ke km fi gm bs bu n1 n2 n3 n4 n5 n6 n7 px py db) := hD
                          refine lv_iconst (v := (nI (1))) hx hb dX12_spreads_75 (by decide) ?_
                          refine lv_istore_n (lv' := [(2, .int (nI (1))), (4, .int (nI (j))), (3, .int (nI (i))), (0, .ref (ad 0)), (1, .int (nI (k)))]) hx hb dX12_spreads_76 rfl hl (by decide) rfl (fun ls hl => ?_)
                          refine lv_iinc (v := (nI (j + 1))) (lv' := [(4, .int (nI (j + 1))), (2, .int (nI (1))), (3, .int (nI (i))), (0, .ref (ad 0)), (1, .int (nI (k)))]) hx hb dX12_spreads_77 hl (k := 1) rfl (by rw [show (Int32.ofInt 1) = nI 1 from rfl, nI_add]) (by decide) rfl (fun ls hl => ?_)
                          refine lv_goto (tgt := 23) hx hb dX12_spreads_80 (by decide) ?_
                          exact ih2 (j + 1) (upN g2 j (k + 1)) (1) (by omega) (spI_t hsp2 hu hk hiN hjN c3 c4 c5) (pz_t (i := i) (j := j) hpz2 hjN c4) _ _ _ hP hD hS (lv_sub hl [0, 2, 1, 3, 4] rfl)
                        · refine lv_goto (tgt := 77) hx hb dX12_spreads_64 (by decide) ?_
                          refine lv_iinc (v := (nI (j + 1))) (lv' := [(4, .int (nI (j + 1))), (3, .int (nI (i))), (2, .int (nI (m2))), (0, .ref (ad 0)), (1, .int (nI (k)))]) hx hb dX12_spreads_77 hl (k := 0) rfl (by rw [show (Int32.ofInt 1) = nI 1 from rfl, nI_add]) (by decide) rfl (fun ls hl => ?_)
                          refine lv_goto (tgt := 23) hx hb dX12_spreads_80 (by decide) ?_
                          exact ih2 (j + 1) (g2) (m2) (by omega) (hsp2) (pz_s hpz2 (Or.inr (Or.inr c5))) _ _ _ hP hD hS hl
              exact l2 (a 1) (0) (g1) (m1) (by omega) (hsp1) (hpz) _ _ _ hP hD hS hl
        exact l1 (a 1) (0) (g0) (0) (by omega) (hsp) (pz_0) _ _ _ hP hD hS hl
  exact l0 (a 1 + 1) (go) (1) (⟨fun j hj hn => rfl, fun j hj hn => Or.inl hn, fun j hj => by have := hgb j hj; omega⟩) (Or.inr (Nat.lt_succ_of_le (cnt0_le go (a 1)))) (fun q => absurd q (by decide)) (by decide) _ _ _ hP hD hS hl
set_option maxHeartbeats 4000000 in
set_option maxRecDepth 100000 in
theorem cM_findGroups (l : Launch) (D : va_G) (ad : Nat → Nat) (cI cJ : ClassId) (a kp bt sz : Nat → Nat) (sheets : Nat → Int32) (go ro : Nat → Nat) (car : Nat → Int32) (ke km fi gm bs bu : Nat) (n1 n2 n3 n4 n5 n6 n7 : Int64) (px py db : Nat → Int64)  (h0 : a 0 ≤ 6) (hpl : ∀ i, i < a 0 → plOk a i) (h1 : a 1 ≤ 20) (hmk : ∀ i, i < a 1 → mkOk a i) : mq_v l D (mT cI cJ) yX12_findGroups wsX12_findGroups 3 0 0 81 [.ref (ad 0)] (mW ad cI cJ a kp bt sz sheets go ro car ke km fi gm bs bu n1 n2 n3 n4 n5 n6 n7 px py db) (fun w1 => ∃ (G : Nat → Nat) (cg : Nat) (fx fy fd : Nat → Int64) (m1 m2 m3 m4 m5 m6 m7 : Int64), grp a (a 1) G cg ∧ cg ≤ a 1 ∧ w1 = mW ad cI cJ a kp bt sz sheets G ro car ke km fi cg bs bu m1 m2 m3 m4 m5 m6 m7 fx fy fd) := by
  refine mq_v_of (cc := cX12_findGroups) (maxL := 2) (by decide) rfl (Nat.le_of_ble_eq_true rfl) ?_
  intro p e s m args below meth c A Q ls hx hb hts hown hml hnm hA hP hK hD hS hl hret
  have hown : s.vm.findClass RX12 = some m.cls := hown
  have hinX12 : ∀ w ∈ u_ws RX12 TX12 24, w ∈ wsX12_findGroups := by decide +kernel
  have hl : lv_has ls 2 [(0, .ref (ad 0))] := hl
  refine lv_aload_n hx hb dX12_findGroups_0 rfl (lv_at hl 0 rfl) ?_
  refine mq_Vv (As := []) (rest := []) (ci := 12) (k0 := 0) ⟨hx, hb, hml, hown, hts⟩ (cM_findPlaces l D ad cI cJ a kp bt sz sheets go ro car ke km fi gm bs bu n1 n2 n3 n4 n5 n6 n7 px py db  h0 hpl h1 hmk) (cwV 0 hts gX12_findGroups_X12_findPlaces rfl rfl rfl (by decide +kernel) ⟨Nat.le_of_ble_eq_true rfl, Nat.le_of_ble_eq_true rfl⟩) rfl rfl hP hK hD hS hA rfl hl.1 rfl (Nat.le_of_ble_eq_true rfl) dX12_findGroups_1 ⟨Nat.le_of_ble_eq_true rfl, Nat.le_of_ble_eq_true rfl⟩ (fun w1 H locs hq hP hD hS => ?_)
  obtain ⟨j_1, j_2, j_3, j_4, j_5, j_6, j_7, j_8, j_9, j_10, hiv, rfl⟩ := hq
  refine lv_aload_n hx hb dX12_findGroups_4 rfl (lv_at hl 0 rfl) ?_
  refine lv_iconst (v := (nI (0))) hx hb dX12_findGroups_5 (by decide) ?_
  refine va_put (D := D) (ci := 12) (v := .int (nI (0))) (ty := .int) (C := RX12) (T := TX12) (N := 24) hx hb hts hinX12 tyX12 tyX12_ok nmX12 hown hK hP hD hS 0 rfl rfl 19 (by decide) (hts (.fieldLink RX12 139 "CornDeskModel" "groupMany" "I") (by decide +kernel)) (fun _ h9 => h9) rfl (by decide +kernel) rfl rfl (Nat.le_of_ble_eq_true rfl) dX12_findGroups_6 (fun H locs hP hD hS => ?_)
  have hP : va_P D vwCl (mW ad cI cJ a kp bt sz sheets go ro car ke km fi 0 bs bu j_4 j_5 j_6 j_7 j_8 j_9 j_10 j_1 j_2 j_3) H := hP
  have hD : va_D A (mW ad cI cJ a kp bt sz sheets go ro car ke km fi 0 bs bu j_4 j_5 j_6 j_7 j_8 j_9 j_10 j_1 j_2 j_3) := hD
  refine lv_iconst (v := (nI (0))) hx hb dX12_findGroups_9 (by decide) ?_
  refine lv_istore_n (lv' := [(1, .int (nI (0))), (0, .ref (ad 0))]) hx hb dX12_findGroups_10 rfl hl (by decide) rfl (fun ls hl => ?_)
  have lA : ∀ (n : Nat) (k : Nat) (gA1 : Nat → Nat), (k + n = a 1) → (∀ j, j < k → gA1 j = 0) → ∀ (H : Heap) (locs : List Loc) (ls : Array Slot), va_P D vwCl (mW ad cI cJ a kp bt sz sheets gA1 ro car ke km fi 0 bs bu j_4 j_5 j_6 j_7 j_8 j_9 j_10 j_1 j_2 j_3) H → va_D A (mW ad cI cJ a kp bt sz sheets gA1 ro car ke km fi 0 bs bu j_4 j_5 j_6 j_7 j_8 j_9 j_10 j_1 j_2 j_3) → va_S A s.heap H locs → lv_has ls 2 [(1, .int (nI (k))), (0, .ref (ad 0))] → W p l e (mq_R 3 0 0 81) s m args below meth c H locs 0 0 Q (F0 m 11 ls []) := by
    intro n
    induction n with
    | zero =>
      intro k gA1 hk hz H locs ls hP hD hS hl
      refine lv_iload_n hx hb dX12_findGroups_11 rfl (lv_at hl 0 rfl) ?_
      refine lv_aload_n hx hb dX12_findGroups_12 rfl (lv_at hl 1 rfl) ?_
      refine va_get (D := D) (ci := 12) (v := .ref (ad 1)) (C := RX12) (T := TX12) (N := 24) hx hb hts hinX12 hown hK hP 0 rfl rfl 0 (by decide) (hts (.fieldLink RX12 9 "CornDeskModel" "now" "[I") (by decide +kernel)) (fun _ h9 => h9) rfl dX12_findGroups_13 ?_
      refine lv_iconst (v := (nI (1))) hx hb dX12_findGroups_16 (by decide) ?_
      refine ln_iald hx hb hK hP 1 0 rfl rfl (by decide) (by omega) dX12_findGroups_17 ?_
      refine ln_icmp_ge (tgt := 34) hx hb dX12_findGroups_18 (by decide) (by omega) (by omega) (fun c1 => ?_) (fun c1 => ?_)
      · have hk0 : k = a 1 := by omega
        subst hk0
        refine lv_iconst (v := (nI (0))) hx hb dX12_findGroups_34 (by decide) ?_
        refine lv_istore_n (lv' := [(1, .int (nI (0))), (0, .ref (ad 0))]) hx hb dX12_findGroups_35 rfl hl (by decide) rfl (fun ls hl => ?_)
        have lB : ∀ (n : Nat) (q : Nat) (gB : Nat → Nat) (cc : Nat), (q + n = a 1) → (gInv a (a 1) gB q cc) → (cc ≤ q) → ∀ (H : Heap) (locs : List Loc) (ls : Array Slot), va_P D vwCl (mW ad cI cJ a kp bt sz sheets gB ro car ke km fi cc bs bu j_4 j_5 j_6 j_7 j_8 j_9 j_10 j_1 j_2 j_3) H → va_D A (mW ad cI cJ a kp bt sz sheets gB ro car ke km fi cc bs bu j_4 j_5 j_6 j_7 j_8 j_9 j_10 j_1 j_2 j_3) → va_S A s.heap H locs → lv_has ls 2 [(1, .int (nI (q))), (0, .ref (ad 0))] → W p l e (mq_R 3 0 0 81) s m args below meth c H locs 0 0 Q (F0 m 36 ls []) := by
          intro n
          induction n with
          | zero =>
            intro q gB cc hq hg hcc H locs ls hP hD hS hl
            refine lv_iload_n hx hb dX12_findGroups_36 rfl (lv_at hl 0 rfl) ?_
            refine lv_aload_n hx hb dX12_findGroups_37 rfl (lv_at hl 1 rfl) ?_
            refine va_get (D := D) (ci := 12) (v := .ref (ad 1)) (C := RX12) (T := TX12) (N := 24) hx hb hts hinX12 hown hK hP 0 rfl rfl 0 (by decide) (hts (.fieldLink RX12 9 "CornDeskModel" "now" "[I") (by decide +kernel)) (fun _ h9 => h9) rfl dX12_findGroups_38 ?_
            refine lv_iconst (v := (nI (1))) hx hb dX12_findGroups_41 (by decide) ?_
            refine ln_iald hx hb hK hP 1 0 rfl rfl (by decide) (by omega) dX12_findGroups_42 ?_
            refine ln_icmp_ge (tgt := 92) hx hb dX12_findGroups_43 (by decide) (by omega) (by omega) (fun c2 => ?_) (fun c2 => ?_)
            · have hq0 : q = a 1 := by omega
              subst hq0
              exact hret _ _ _ _ _ ⟨_, _, _, _, _, _, _, _, _, _, _, _, hg, hcc, rfl⟩ hP hD hS dX12_findGroups_92
            · exact absurd hq (by omega)
          | succ n ih =>
            intro q gB cc hq hg hcc H locs ls hP hD hS hl
            refine lv_iload_n hx hb dX12_findGroups_36 rfl (lv_at hl 0 rfl) ?_
            refine lv_aload_n hx hb dX12_findGroups_37 rfl (lv_at hl 1 rfl) ?_
            refine va_get (D := D) (ci := 12) (v := .ref (ad 1)) (C := RX12) (T := TX12) (N := 24) hx hb hts hinX12 hown hK hP 0 rfl rfl 0 (by decide) (hts (.fieldLink RX12 9 "CornDeskModel" "now" "[I") (by decide +kernel)) (fun _ h9 => h9) rfl dX12_findGroups_38 ?_
            refine lv_iconst (v := (nI (1))) hx hb dX12_findGroups_41 (by decide) ?_
            refine ln_iald hx hb hK hP 1 0 rfl rfl (by decide) (by omega) dX12_findGroups_42 ?_
            refine ln_icmp_ge (tgt := 92) hx hb dX12_findGroups_43 (by decide) (by omega) (by omega) (fun c2 => ?_) (fun c2 => ?_)
            · exact absurd hq (by omega)
            · have hqN : q < a 1 := by omega
              have hgq := hg.1 q hqN
              refine lv_aload_n hx hb dX12_findGroups_46 rfl (lv_at hl 1 rfl) ?_
              refine va_get (D := D) (ci := 12) (v := .ref (ad 9)) (C := RX12) (T := TX12) (N := 24) hx hb hts hinX12 hown hK hP 0 rfl rfl 18 (by decide) (hts (.fieldLink RX12 35 "CornDeskModel" "groupOf" "[I") (by decide +kernel)) (fun _ h9 => h9) rfl dX12_findGroups_47 ?_
              refine lv_iload_n hx hb dX12_findGroups_50 rfl (lv_at hl 0 rfl) ?_
              refine ln_iald hx hb hK hP 9 0 rfl rfl (by decide) (by omega) dX12_findGroups_51 ?_
              refine lg_if_lt (tgt := 58) hx hb dX12_findGroups_52 (by decide) (by omega) (fun c3 => ?_) (fun c3 => ?_)
              · refine lv_aload_n hx hb dX12_findGroups_58 rfl (lv_at hl 1 rfl) ?_
                refine va_get (D := D) (ci := 12) (v := .ref (ad 9)) (C := RX12) (T := TX12) (N := 24) hx hb hts hinX12 hown hK hP 0 rfl rfl 18 (by decide) (hts (.fieldLink RX12 35 "CornDeskModel" "groupOf" "[I") (by decide +kernel)) (fun _ h9 => h9) rfl dX12_findGroups_59 ?_
                refine lv_iload_n hx hb dX12_findGroups_62 rfl (lv_at hl 0 rfl) ?_
                refine lv_aload_n hx hb dX12_findGroups_63 rfl (lv_at hl 1 rfl) ?_
                refine va_get (D := D) (ci := 12) (v := .int (nI (cc))) (C := RX12) (T := TX12) (N := 24) hx hb hts hinX12 hown hK hP 0 rfl rfl 19 (by decide) (hts (.fieldLink RX12 139 "CornDeskModel" "groupMany" "I") (by decide +kernel)) (fun _ h9 => h9) rfl dX12_findGroups_64 ?_
                refine ln_iastG hx hb hK hP hD hS 9 0 rfl rfl (by decide) (by omega) dX12_findGroups_67 (fun H locs hP hD hS => ?_)
                have hP : va_P D vwCl (mW ad cI cJ a kp bt sz sheets (upN gB (q) (cc + 1)) ro car ke km fi cc bs bu j_4 j_5 j_6 j_7 j_8 j_9 j_10 j_1 j_2 j_3) H := hP
                have hD : va_D A (mW ad cI cJ a kp bt sz sheets (upN gB (q) (cc + 1)) ro car ke km fi cc bs bu j_4 j_5 j_6 j_7 j_8 j_9 j_10 j_1 j_2 j_3) := hD
                refine lv_aload_n hx hb dX12_findGroups_68 rfl (lv_at hl 1 rfl) ?_
                refine lv_aload_n hx hb dX12_findGroups_69 rfl (lv_at hl 1 rfl) ?_
                refine va_get (D := D) (ci := 12) (v := .int (nI (cc))) (C := RX12) (T := TX12) (N := 24) hx hb hts hinX12 hown hK hP 0 rfl rfl 19 (by decide) (hts (.fieldLink RX12 139 "CornDeskModel" "groupMany" "I") (by decide +kernel)) (fun _ h9 => h9) rfl dX12_findGroups_70 ?_
                refine mq_Vv (As := [.int (nI (cc))]) (rest := []) (ci := 12) (k0 := 0) ⟨hx, hb, hml, hown, hts⟩ (cM_spreads l D ad cI cJ a kp bt sz sheets (upN gB (q) (cc + 1)) ro car ke km fi cc bs bu j_4 j_5 j_6 j_7 j_8 j_9 j_10 j_1 j_2 j_3 (cc) h0 hpl h1 hmk hiv q (by omega) (fun j hj => by have := hg.1 j hj; simp only [upN]; split <;> omega) (fun j hj he => Classical.byContradiction fun hn => by rw [upN_n hn] at he; have := hg.1 j hj; omega)) (cwV 1 hts gX12_findGroups_X12_spreads rfl rfl rfl (by decide +kernel) ⟨Nat.le_of_ble_eq_true rfl, Nat.le_of_ble_eq_true rfl⟩) rfl rfl hP hK hD hS hA rfl hl.1 rfl (Nat.le_of_ble_eq_true rfl) dX12_findGroups_73 ⟨Nat.le_of_ble_eq_true rfl, Nat.le_of_ble_eq_true rfl⟩ (fun w1 H locs hq hP hD hS => ?_)
                obtain ⟨gg_11, hsp, rfl⟩ := hq
                refine lv_aload_n hx hb dX12_findGroups_76 rfl (lv_at hl 1 rfl) ?_
                refine lv_dup hx hb dX12_findGroups_77 rfl ?_
                refine va_get (D := D) (ci := 12) (v := .int (nI (cc))) (C := RX12) (T := TX12) (N := 24) hx hb hts hinX12 hown hK hP 0 rfl rfl 19 (by decide) (hts (.fieldLink RX12 139 "CornDeskModel" "groupMany" "I") (by decide +kernel)) (fun _ h9 => h9) rfl dX12_findGroups_78 ?_
                refine lv_iconst (v := (nI (1))) hx hb dX12_findGroups_81 (by decide) ?_
                refine ln_iadd hx hb dX12_findGroups_82 ?_
                refine va_put (D := D) (ci := 12) (v := .int (nI (cc + 1))) (ty := .int) (C := RX12) (T := TX12) (N := 24) hx hb hts hinX12 tyX12 tyX12_ok nmX12 hown hK hP hD hS 0 rfl rfl 19 (by decide) (hts (.fieldLink RX12 139 "CornDeskModel" "groupMany" "I") (by decide +kernel)) (fun _ h9 => h9) rfl (by decide +kernel) rfl rfl (Nat.le_of_ble_eq_true rfl) dX12_findGroups_83 (fun H locs hP hD hS => ?_)
                have hP : va_P D vwCl (mW ad cI cJ a kp bt sz sheets gg_11 ro car ke km fi (cc + 1) bs bu j_4 j_5 j_6 j_7 j_8 j_9 j_10 j_1 j_2 j_3) H := hP
                have hD : va_D A (mW ad cI cJ a kp bt sz sheets gg_11 ro car ke km fi (cc + 1) bs bu j_4 j_5 j_6 j_7 j_8 j_9 j_10 j_1 j_2 j_3) := hD
                refine lv_iinc (v := (nI (q + 1))) (lv' := [(1, .int (nI (q + 1))), (0, .ref (ad 0))]) hx hb dX12_findGroups_86 hl (k := 0) rfl (by rw [show (Int32.ofInt 1) = nI 1 from rfl, nI_add]) (by decide) rfl (fun ls hl => ?_)
                refine lv_goto (tgt := 36) hx hb dX12_findGroups_89 (by decide) ?_
                exact ih (q + 1) (gg_11) (cc + 1) (by omega) (gInv_add hg hqN c3 hsp) (by omega) _ _ _ hP hD hS hl
              · refine lv_goto (tgt := 86) hx hb dX12_findGroups_55 (by decide) ?_
                refine lv_iinc (v := (nI (q + 1))) (lv' := [(1, .int (nI (q + 1))), (0, .ref (ad 0))]) hx hb dX12_findGroups_86 hl (k := 0) rfl (by rw [show (Int32.ofInt 1) = nI 1 from rfl, nI_add]) (by decide) rfl (fun ls hl => ?_)
                refine lv_goto (tgt := 36) hx hb dX12_findGroups_89 (by decide) ?_
                exact ih (q + 1) (gB) (cc) (by omega) (gInv_skip hg (by omega)) (by omega) _ _ _ hP hD hS hl
        exact lB (a 1) (0) (gA1) (0) (by omega) (gInv_0 hz) (by omega) _ _ _ hP hD hS hl
      · exact absurd hk (by omega)
    | succ n ih =>
      intro k gA1 hk hz H locs ls hP hD hS hl
      refine lv_iload_n hx hb dX12_findGroups_11 rfl (lv_at hl 0 rfl) ?_
      refine lv_aload_n hx hb dX12_findGroups_12 rfl (lv_at hl 1 rfl) ?_
      refine va_get (D := D) (ci := 12) (v := .ref (ad 1)) (C := RX12) (T := TX12) (N := 24) hx hb hts hinX12 hown hK hP 0 rfl rfl 0 (by decide) (hts (.fieldLink RX12 9 "CornDeskModel" "now" "[I") (by decide +kernel)) (fun _ h9 => h9) rfl dX12_findGroups_13 ?_
      refine lv_iconst (v := (nI (1))) hx hb dX12_findGroups_16 (by decide) ?_
      refine ln_iald hx hb hK hP 1 0 rfl rfl (by decide) (by omega) dX12_findGroups_17 ?_
      refine ln_icmp_ge (tgt := 34) hx hb dX12_findGroups_18 (by decide) (by omega) (by omega) (fun c1 => ?_) (fun c1 => ?_)
      · exact absurd hk (by omega)
      · refine lv_aload_n hx hb dX12_findGroups_21 rfl (lv_at hl 1 rfl) ?_
        refine va_get (D := D) (ci := 12) (v := .ref (ad 9)) (C := RX12) (T := TX12) (N := 24) hx hb hts hinX12 hown hK hP 0 rfl rfl 18 (by decide) (hts (.fieldLink RX12 35 "CornDeskModel" "groupOf" "[I") (by decide +kernel)) (fun _ h9 => h9) rfl dX12_findGroups_22 ?_
        refine lv_iload_n hx hb dX12_findGroups_25 rfl (lv_at hl 0 rfl) ?_
        refine lv_iconst (v := (-1)) hx hb dX12_findGroups_26 (by decide) ?_
        refine ln_iastG0 hx hb hK hP hD hS 9 0 rfl rfl (by decide) (by omega) dX12_findGroups_27 (fun H locs hP hD hS => ?_)
        have hP : va_P D vwCl (mW ad cI cJ a kp bt sz sheets (upN gA1 (k) (0)) ro car ke km fi 0 bs bu j_4 j_5 j_6 j_7 j_8 j_9 j_10 j_1 j_2 j_3) H := hP
        have hD : va_D A (mW ad cI cJ a kp bt sz sheets (upN gA1 (k) (0)) ro car ke km fi 0 bs bu j_4 j_5 j_6 j_7 j_8 j_9 j_10 j_1 j_2 j_3) := hD
        refine lv_iinc (v := (nI (k + 1))) (lv' := [(1, .int (nI (k + 1))), (0, .ref (ad 0))]) hx hb dX12_findGroups_28 hl (k := 0) rfl (by rw [show (Int32.ofInt 1) = nI 1 from rfl, nI_add]) (by decide) rfl (fun ls hl => ?_)
        refine lv_goto (tgt := 11) hx hb dX12_findGroups_31 (by decide) ?_
        exact ih (k + 1) (upN gA1 k 0) (by omega) (fun j hj => by rcases Nat.lt_or_ge j k with q | q; rw [upN_n (by omega)]; exact hz j q; rw [show j = k by omega, upN_s]) _ _ _ hP hD hS hl
  exact lA (a 1) (0) (go) (by omega) (fun j hj => absurd hj (by omega)) _ _ _ hP hD hS hl
