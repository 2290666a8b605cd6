theorem cnt0_lt {G : Nat → Nat} {j : Nat} (h : G j ≠ 0) : ∀ {n : Nat}, j < n → cnt0 G n + 1 ≤ n
  | 0, hj => absurd hj (Nat.not_lt_zero _)
  | n + 1, hj => by
    rw [cnt0]
    rcases Nat.lt_or_ge j n with q | q
    · have := cnt0_lt h q
      split <;> omega
    · rw [show n = j by omega, if_neg h]
      have := cnt0_le G j
      omega
theorem cnt0_z {G : Nat → Nat} : ∀ {n : Nat}, cnt0 G n = 0 → ∀ j, j < n → G j ≠ 0
  | 0, _, j, hj => absurd hj (Nat.not_lt_zero _)
  | n + 1, h, j, hj => by
    rw [cnt0] at h
    rcases Nat.lt_or_ge j n with q | q
    · exact cnt0_z (n := n) (by omega) j q
    · rw [show j = n by omega]
      intro g
      rw [if_pos g] at h
      omega
theorem gI_m1 {x : Nat} (hx : x < 2 ^ 30) : gI x = -1 ↔ x = 0 := by
  constructor
  · intro h
    rcases Nat.eq_zero_or_pos x with q | q
    · exact q
    · have h1 := (gI_ge hx).mpr q
      rw [h] at h1
      exact absurd h1 (by decide)
  · intro h
    subst h
    rfl
/-- a group under way: f found, q of them asked, all there is in the row Bm -/
def gaI (a : Nat → Nat) (n k ml : Nat) (G0 G Bm : Nat → Nat) (f q : Nat) : Prop :=
  (∀ y, y < f → Bm y < n ∧ G (Bm y) = k + 1) ∧ (∀ j, j < n → G0 j ≠ 0 → G j = G0 j) ∧ (∀ j, j < n → G0 j = 0 → G j = 0 ∨ (G j = k + 1 ∧ con a n ml j ∧ ∃ y, y < f ∧ Bm y = j)) ∧ (∀ y, y < q → ∀ j, j < n → agr a (Bm y) j → G j ≠ 0) ∧ f + cnt0 G n = 1 + cnt0 G0 n ∧ Bm 0 = ml ∧ 1 ≤ f
theorem gaI_con {a : Nat → Nat} {n k ml : Nat} {G0 G Bm : Nat → Nat} {f q : Nat} (h : gaI a n k ml G0 G Bm f q) (h0 : ∀ j, j < n → G0 j = k + 1 → j = ml) (y : Nat) (hy : y < f) : con a n ml (Bm y) := by
  obtain ⟨h1, h2, h3, -⟩ := h
  obtain ⟨b1, b2⟩ := h1 y hy
  rcases Classical.em (G0 (Bm y) = 0) with q1 | q1
  · rcases h3 _ b1 q1 with g | g
    · omega
    · exact g.2.1
  · have e := h2 _ b1 q1
    rw [h0 _ b1 (by omega)]
    exact con_refl
theorem gaI_add {a : Nat → Nat} {n k ml : Nat} {G0 G Bm : Nat → Nat} {f q i : Nat} (h : gaI a n k ml G0 G Bm f q) (h0 : ∀ j, j < n → G0 j = k + 1 → j = ml) (hq : q < f) (hi : i < n) (hz : G i = 0) (hag : agr a (Bm q) i) : gaI a n k ml G0 (upN G i (k + 1)) (upN Bm f i) (f + 1) q := by
  have hc := gaI_con h h0 q hq
  obtain ⟨h1, h2, h3, h4, h5, h6, h7⟩ := h
  have hb : ∀ y, y < f → upN Bm f i y = Bm y := fun y hy => upN_n (by omega)
  have g0 : G0 i = 0 := Classical.byContradiction fun g => by
    have := h2 i hi g
    omega
  refine ⟨fun y hy => ?_, fun j hj hn => ?_, fun j hj hn => ?_, fun y hy j hj hg => ?_, ?_, ?_, by omega⟩
  · rcases Nat.lt_or_ge y f with g | g
    · rw [hb y g]
      obtain ⟨b1, b2⟩ := h1 y g
      refine ⟨b1, ?_⟩
      rw [upN_n (fun e => by rw [e] at b2; omega)]
      exact b2
    · rw [show y = f by omega, upN_s]
      exact ⟨hi, upN_s ..⟩
  · rw [upN_n (fun e => hn (by rw [e]; exact g0))]
    exact h2 j hj hn
  · rcases Classical.em (j = i) with e | e
    · subst e
      exact Or.inr ⟨upN_s .., con_trans hc (con_step (h1 q hq).1 hi hag), f, by omega, upN_s ..⟩
    · rw [upN_n e]
      rcases h3 j hj hn with g | ⟨g, g2, y, hy, e2⟩
      · exact Or.inl g
      · exact Or.inr ⟨g, g2, y, by omega, by rw [hb y hy]; exact e2⟩
  · rw [hb y (by omega)] at hg
    have := h4 y hy j hj hg
    rcases Classical.em (j = i) with e | e
    · subst e
      rw [upN_s]
      omega
    · rw [upN_n e]
      exact this
  · have := cnt0_up (G := G) (x := k + 1) hz (by omega) hi
    omega
  · rw [hb 0 (by omega)]
    exact h6
theorem gaI_end {a : Nat → Nat} {n k ml : Nat} {G0 G Bm : Nat → Nat} {f q : Nat} (h : gaI a n k ml G0 G Bm f q) (h0 : ∀ j, j < n → G0 j = k + 1 → j = ml) (hq : f ≤ q) : sprd a n G0 G k ml := by
  obtain ⟨h1, h2, h3, h4, h5, h6, h7⟩ := h
  refine ⟨h2, fun j hj hz => ?_, fun i j hi hj hG hag => ?_⟩
  · rcases h3 j hj hz with g | g
    · exact Or.inl g
    · exact Or.inr ⟨g.1, g.2.1⟩
  · rcases Classical.em (G0 i = 0) with g | g
    · rcases h3 i hi g with g2 | ⟨_, _, y, hy, e⟩
      · omega
      · exact h4 y (by omega) j hj (by rw [e]; exact hag)
    · have e := h0 i hi (by rw [← h2 i hi g]; exact hG)
      exact h4 0 (by omega) j hj (by rw [h6, ← e]; exact hag)
theorem gaI_b {a : Nat → Nat} {n k ml : Nat} {G0 G Bm : Nat → Nat} {f q : Nat} (h : gaI a n k ml G0 G Bm f q) (hb : ∀ j, j < n → G0 j ≤ 21) (hk : k ≤ 20) : ∀ j, j < n → G j ≤ 21 := fun j hj => by
  obtain ⟨_, h2, h3, -⟩ := h
  rcases Classical.em (G0 j = 0) with g | g
  · rcases h3 j hj g with e | e <;> omega
  · rw [h2 j hj g]
    exact hb j hj
set_option maxHeartbeats 4000000 in
set_option maxRecDepth 100000 in
theorem qX3_gather (l : Launch) (D : va_G) (cy : Nat → ClassId) (pad : Nat → Nat → Nat) (PF : Nat → Nat → Nat → Nat) (ka : Nat → Nat) (a : Nat → Nat) (go0 : Nat) (ga0 : Nat) (gb0 : Nat) (gc0 : Nat) (gt : Nat) (gn : Nat) (GG : Nat → Nat) (GB : Nat → Nat) (GC : Nat → Nat) (mA : Nat) (MA : Nat → Option Nat) (ml : Nat) (nm np : Nat) (hmlt : ml < nm) (hgt : gt = nm) (hgn : gn ≤ 20) (hgi : gInv a nm GG ml gn) (hmn : nm ≤ 20) (hMA : ∀ j, j < nm → MA j = some (ka j)) (hma : maR a np nm) (hpc : pcR PF a np) (hnp : np ≤ 6) (hag : ∀ i j, i < nm → j < nm → (agM PF a i j ↔ agr a i j)) : nq_v l D (cT cy) yX3_gather wsX3_gather 4 0 0 91 [.ref (go0), .ref (mA), .int (nI (ml))] (([(go0, .inr (3, [.ref (ga0), .ref (gb0), .ref (gc0), .int (nI (gt)), .int (nI (gn))])), (ga0, .inl (cy 0, 20, .inl (gA GG))), (gb0, .inl (cy 0, 20, .inl (nA GB))), (gc0, .inl (cy 0, 4, .inl (nA GC))), (mA, .inl (cy 4, 20, .inr (.inr (.inr (.inr MA)))))] : va_W) ++ (mkPl pad ka a nm ++ pcPl cy pad PF a np)) (fun w1 => ∃ G Bm : Nat → Nat, sprd a nm (upN GG ml (gn + 1)) G gn ml ∧ w1 = ([(go0, .inr (3, [.ref (ga0), .ref (gb0), .ref (gc0), .int (nI (gt)), .int (nI (gn))])), (ga0, .inl (cy 0, 20, .inl (gA G))), (gb0, .inl (cy 0, 20, .inl (nA Bm))), (gc0, .inl (cy 0, 4, .inl (nA GC))), (mA, .inl (cy 4, 20, .inr (.inr (.inr (.inr MA)))))] : va_W) ++ (mkPl pad ka a nm ++ pcPl cy pad PF a np)) := by
  refine nq_v_of (cc := cX3_gather) (maxL := 7) (by decide) rfl (Nat.le_of_ble_eq_true rfl) ?_
  intro p e s m args below meth c A Q ls hx hb hts hown hml hnm hN hA hP hK hD hS hl hret
  have hown : s.vm.findClass RX3 = some m.cls := hown
  have hinX3 : ∀ w ∈ u_ws RX3 TX3 5, w ∈ wsX3_gather := by decide +kernel
  have hl : lv_has ls 7 [(0, .ref (go0)), (1, .ref (mA)), (2, .int (nI (ml)))] := hl
  have hP : va_P D vwCl (([(go0, .inr (3, [.ref (ga0), .ref (gb0), .ref (gc0), .int (nI (gt)), .int (nI (gn))])), (ga0, .inl (cy 0, 20, .inl (gA GG))), (gb0, .inl (cy 0, 20, .inl (nA GB))), (gc0, .inl (cy 0, 4, .inl (nA GC))), (mA, .inl (cy 4, 20, .inr (.inr (.inr (.inr MA)))))] : va_W) ++ (mkPl pad ka a nm ++ pcPl cy pad PF a np)) s.heap := hP
  have hb0 : ∀ j, j < nm → GG j ≤ 20 := fun j hj => by have := hgi.1 j hj; omega
  have hG0 : ∀ j, j < nm → (upN GG ml (gn + 1)) j = gn + 1 → j = ml := fun j hj e => Classical.byContradiction fun q => by rw [upN_n q] at e; have := hgi.1 j hj; omega
  have hG1 : ∀ j, j < nm → (upN GG ml (gn + 1)) j ≤ 21 := fun j hj => by simp only [upN]; split; omega; have := hb0 j hj; omega
  have hG2 : ∀ j, j ≤ ml → (upN GG ml (gn + 1)) j ≠ 0 := fun j hj => by simp only [upN]; split; omega; exact hgi.2.1 j (by omega) (by omega)
  have hG3 : cnt0 (upN GG ml (gn + 1)) nm + 1 ≤ nm := cnt0_lt (j := ml) (hG2 ml (Nat.le_refl _)) hmlt
  refine lv_aload_n hx hb dX3_gather_0 rfl (lv_at hl 0 rfl) ?_
  refine va_get (D := D) (ci := 3) (v := .ref (gb0)) (C := RX3) (T := TX3) (N := 5) hx hb hts hinX3 hown hK hP 0 rfl rfl 1 (by decide) (hts (.fieldLink RX3 15 "CornDesk$Groups" "members" "[I") (by decide +kernel)) (fun _ h9 => h9) rfl dX3_gather_1 ?_
  refine lv_iconst (v := (nI (0))) hx hb dX3_gather_4 (by decide) ?_
  refine lv_iload_n hx hb dX3_gather_5 rfl (lv_at hl 2 rfl) ?_
  refine ln_iastN hx hb hK hP hD hS 2 0 rfl rfl (by decide) (by omega) dX3_gather_6 (fun H locs hP hD hS => ?_)
  have hP : va_P D vwCl (([(go0, .inr (3, [.ref (ga0), .ref (gb0), .ref (gc0), .int (nI (gt)), .int (nI (gn))])), (ga0, .inl (cy 0, 20, .inl (gA GG))), (gb0, .inl (cy 0, 20, .inl (nA (upN GB (0) (ml))))), (gc0, .inl (cy 0, 4, .inl (nA GC))), (mA, .inl (cy 4, 20, .inr (.inr (.inr (.inr MA)))))] : va_W) ++ (mkPl pad ka a nm ++ pcPl cy pad PF a np)) _ := hP
  have hD : va_D A (([(go0, .inr (3, [.ref (ga0), .ref (gb0), .ref (gc0), .int (nI (gt)), .int (nI (gn))])), (ga0, .inl (cy 0, 20, .inl (gA GG))), (gb0, .inl (cy 0, 20, .inl (nA (upN GB (0) (ml))))), (gc0, .inl (cy 0, 4, .inl (nA GC))), (mA, .inl (cy 4, 20, .inr (.inr (.inr (.inr MA)))))] : va_W) ++ (mkPl pad ka a nm ++ pcPl cy pad PF a np)) := hD
  refine lv_aload_n hx hb dX3_gather_7 rfl (lv_at hl 0 rfl) ?_
  refine va_get (D := D) (ci := 3) (v := .ref (ga0)) (C := RX3) (T := TX3) (N := 5) hx hb hts hinX3 hown hK hP 0 rfl rfl 0 (by decide) (hts (.fieldLink RX3 9 "CornDesk$Groups" "groupOf" "[I") (by decide +kernel)) (fun _ h9 => h9) rfl dX3_gather_8 ?_
  refine lv_iload_n hx hb dX3_gather_11 rfl (lv_at hl 2 rfl) ?_
  refine lv_aload_n hx hb dX3_gather_12 rfl (lv_at hl 0 rfl) ?_
  refine va_get (D := D) (ci := 3) (v := .int (nI (gn))) (C := RX3) (T := TX3) (N := 5) hx hb hts hinX3 hown hK hP 0 rfl rfl 4 (by decide) (hts (.fieldLink RX3 29 "CornDesk$Groups" "count" "I") (by decide +kernel)) (fun _ h9 => h9) rfl dX3_gather_13 ?_
  refine ln_iastG hx hb hK hP hD hS 1 0 rfl rfl (by decide) (by omega) dX3_gather_16 (fun H locs hP hD hS => ?_)
  have hP : va_P D vwCl (([(go0, .inr (3, [.ref (ga0), .ref (gb0), .ref (gc0), .int (nI (gt)), .int (nI (gn))])), (ga0, .inl (cy 0, 20, .inl (gA (upN GG (ml) (gn + 1))))), (gb0, .inl (cy 0, 20, .inl (nA (upN GB (0) (ml))))), (gc0, .inl (cy 0, 4, .inl (nA GC))), (mA, .inl (cy 4, 20, .inr (.inr (.inr (.inr MA)))))] : va_W) ++ (mkPl pad ka a nm ++ pcPl cy pad PF a np)) _ := hP
  have hD : va_D A (([(go0, .inr (3, [.ref (ga0), .ref (gb0), .ref (gc0), .int (nI (gt)), .int (nI (gn))])), (ga0, .inl (cy 0, 20, .inl (gA (upN GG (ml) (gn + 1))))), (gb0, .inl (cy 0, 20, .inl (nA (upN GB (0) (ml))))), (gc0, .inl (cy 0, 4, .inl (nA GC))), (mA, .inl (cy 4, 20, .inr (.inr (.inr (.inr MA)))))] : va_W) ++ (mkPl pad ka a nm ++ pcPl cy pad PF a np)) := hD
  refine lv_iconst (v := (nI (1))) hx hb dX3_gather_17 (by decide) ?_
  refine lv_istore_n (lv' := [(3, .int (nI (1))), (0, .ref (go0)), (1, .ref (mA)), (2, .int (nI (ml)))]) hx hb dX3_gather_18 rfl hl (by decide) rfl (fun ls hl => ?_)
  refine lv_iconst (v := (nI (0))) hx hb dX3_gather_19 (by decide) ?_
  refine lv_istore (lv' := [(4, .int (nI (0))), (3, .int (nI (1))), (0, .ref (go0)), (1, .ref (mA)), (2, .int (nI (ml)))]) hx hb dX3_gather_20 hl (by decide) rfl (fun ls hl => ?_)
  have lp : ∀ (i : Nat) (q : Nat) (f : Nat) (G : Nat → Nat) (Bm : Nat → Nat), (q + i = 20) → (gaI a nm gn ml (upN GG ml (gn + 1)) G Bm f q) → ∀ (H : Heap) (locs : List Loc) (ls : Array Slot), va_P D vwCl (([(go0, .inr (3, [.ref (ga0), .ref (gb0), .ref (gc0), .int (nI (gt)), .int (nI (gn))])), (ga0, .inl (cy 0, 20, .inl (gA G))), (gb0, .inl (cy 0, 20, .inl (nA Bm))), (gc0, .inl (cy 0, 4, .inl (nA GC))), (mA, .inl (cy 4, 20, .inr (.inr (.inr (.inr MA)))))] : va_W) ++ (mkPl pad ka a nm ++ pcPl cy pad PF a np)) H → va_D A (([(go0, .inr (3, [.ref (ga0), .ref (gb0), .ref (gc0), .int (nI (gt)), .int (nI (gn))])), (ga0, .inl (cy 0, 20, .inl (gA G))), (gb0, .inl (cy 0, 20, .inl (nA Bm))), (gc0, .inl (cy 0, 4, .inl (nA GC))), (mA, .inl (cy 4, 20, .inr (.inr (.inr (.inr MA)))))] : va_W) ++ (mkPl pad ka a nm ++ pcPl cy pad PF a np)) → va_S A s.heap H locs → lv_has ls 7 [(4, .int (nI (q))), (3, .int (nI (f))), (1, .ref (mA)), (2, .int (nI (ml))), (0, .ref (go0))] → W p l e (mq_R 4 0 0 91) s m args below meth c H locs 0 0 Q (F0 m 22 ls []) := by
    intro i
    induction i with
    | zero =>
      intro q f G Bm hk hga H locs ls hP hD hS hl
      have hfb := hga.2.2.2.2.1
      refine lv_iload hx hb dX3_gather_22 (lv_at hl 0 rfl) ?_
      refine lv_iload_n hx hb dX3_gather_24 rfl (lv_at hl 1 rfl) ?_
      refine ln_icmp_ge (tgt := 123) hx hb dX3_gather_25 (by decide) (by omega) (by omega) (fun c1 => ?_) (fun c1 => ?_)
      · exact hret _ _ _ _ _ ⟨G, Bm, gaI_end hga hG0 (by have := hga.2.2.2.2.1; omega), rfl⟩ hP hD hS dX3_gather_123
      · refine lv_iload hx hb dX3_gather_28 (lv_at hl 0 rfl) ?_
        refine lv_bipush (v := (nI (20))) hx hb dX3_gather_30 (by decide) ?_
        refine ln_icmp_ge (tgt := 123) hx hb dX3_gather_32 (by decide) (by omega) (by omega) (fun c2 => ?_) (fun c2 => ?_)
        · exact hret _ _ _ _ _ ⟨G, Bm, gaI_end hga hG0 (by have := hga.2.2.2.2.1; omega), rfl⟩ hP hD hS dX3_gather_123
        · exact absurd hk (by omega)
    | succ i ih =>
      intro q f G Bm hk hga H locs ls hP hD hS hl
      have hfb := hga.2.2.2.2.1
      refine lv_iload hx hb dX3_gather_22 (lv_at hl 0 rfl) ?_
      refine lv_iload_n hx hb dX3_gather_24 rfl (lv_at hl 1 rfl) ?_
      refine ln_icmp_ge (tgt := 123) hx hb dX3_gather_25 (by decide) (by omega) (by omega) (fun c1 => ?_) (fun c1 => ?_)
      · exact hret _ _ _ _ _ ⟨G, Bm, gaI_end hga hG0 (by have := hga.2.2.2.2.1; omega), rfl⟩ hP hD hS dX3_gather_123
      · refine lv_iload hx hb dX3_gather_28 (lv_at hl 0 rfl) ?_
        refine lv_bipush (v := (nI (20))) hx hb dX3_gather_30 (by decide) ?_
        refine ln_icmp_ge (tgt := 123) hx hb dX3_gather_32 (by decide) (by omega) (by omega) (fun c2 => ?_) (fun c2 => ?_)
        · exact hret _ _ _ _ _ ⟨G, Bm, gaI_end hga hG0 (by have := hga.2.2.2.2.1; omega), rfl⟩ hP hD hS dX3_gather_123
        · have hbm := (hga.1 q (by omega)).1
          refine lv_aload_n hx hb dX3_gather_35 rfl (lv_at hl 2 rfl) ?_
          refine lv_aload_n hx hb dX3_gather_36 rfl (lv_at hl 4 rfl) ?_
          refine va_get (D := D) (ci := 3) (v := .ref (gb0)) (C := RX3) (T := TX3) (N := 5) hx hb hts hinX3 hown hK hP 0 rfl rfl 1 (by decide) (hts (.fieldLink RX3 15 "CornDesk$Groups" "members" "[I") (by decide +kernel)) (fun _ h9 => h9) rfl dX3_gather_37 ?_
          refine lv_iload hx hb dX3_gather_40 (lv_at hl 0 rfl) ?_
          refine ln_iald hx hb hK hP 2 0 rfl rfl (by decide) (by omega) dX3_gather_42 ?_
          refine ln_aald (v := some (ka (Bm (q)))) hx hb hK hP 4 4 rfl rfl (by decide) (by omega) (hMA _ hbm) dX3_gather_43 ?_
          refine W.eq (g2 := F0 m 44 ls [.ref (ka (Bm (q)))]) rfl ?_
          refine lv_astore (lv' := [(5, .ref (ka (Bm (q)))), (4, .int (nI (q))), (3, .int (nI (f))), (1, .ref (mA)), (2, .int (nI (ml))), (0, .ref (go0))]) hx hb dX3_gather_44 hl (by decide) rfl (fun ls hl => ?_)
          refine lv_iload_n hx hb dX3_gather_46 rfl (lv_at hl 4 rfl) ?_
          refine lv_iconst (v := (nI (1))) hx hb dX3_gather_47 (by decide) ?_
          refine ln_iadd hx hb dX3_gather_48 ?_
          refine lv_istore (lv' := [(6, .int (nI (ml + 1))), (5, .ref (ka (Bm (q)))), (4, .int (nI (q))), (3, .int (nI (f))), (1, .ref (mA)), (2, .int (nI (ml))), (0, .ref (go0))]) hx hb dX3_gather_49 hl (by decide) rfl (fun ls hl => ?_)
          obtain ⟨Bm0, hBm0⟩ : ∃ Bm0, Bm0 = Bm := ⟨Bm, rfl⟩
          rw [← hBm0] at hl hbm
          have li : ∀ (i2 : Nat) (t : Nat) (f : Nat) (G : Nat → Nat) (Bm : Nat → Nat), (t + i2 = nm) → (gaI a nm gn ml (upN GG ml (gn + 1)) G Bm f q) → (Bm q = Bm0 q) → (q < f) → (∀ j, j < nm → (j ≤ ml ∨ j < t) → agr a (Bm0 q) j → G j ≠ 0) → ∀ (H : Heap) (locs : List Loc) (ls : Array Slot), va_P D vwCl (([(go0, .inr (3, [.ref (ga0), .ref (gb0), .ref (gc0), .int (nI (gt)), .int (nI (gn))])), (ga0, .inl (cy 0, 20, .inl (gA G))), (gb0, .inl (cy 0, 20, .inl (nA Bm))), (gc0, .inl (cy 0, 4, .inl (nA GC))), (mA, .inl (cy 4, 20, .inr (.inr (.inr (.inr MA)))))] : va_W) ++ (mkPl pad ka a nm ++ pcPl cy pad PF a np)) H → va_D A (([(go0, .inr (3, [.ref (ga0), .ref (gb0), .ref (gc0), .int (nI (gt)), .int (nI (gn))])), (ga0, .inl (cy 0, 20, .inl (gA G))), (gb0, .inl (cy 0, 20, .inl (nA Bm))), (gc0, .inl (cy 0, 4, .inl (nA GC))), (mA, .inl (cy 4, 20, .inr (.inr (.inr (.inr MA)))))] : va_W) ++ (mkPl pad ka a nm ++ pcPl cy pad PF a np)) → va_S A s.heap H locs → lv_has ls 7 [(6, .int (nI (t))), (5, .ref (ka (Bm0 (q)))), (3, .int (nI (f))), (4, .int (nI (q))), (1, .ref (mA)), (2, .int (nI (ml))), (0, .ref (go0))] → W p l e (mq_R 4 0 0 91) s m args below meth c H locs 0 0 Q (F0 m 51 ls []) := by
            intro i2
            induction i2 with
            | zero =>
              intro t f G Bm hk2 hga hB0 hfq hdn H locs ls hP hD hS hl
              have hfb := hga.2.2.2.2.1
              refine lv_iload hx hb dX3_gather_51 (lv_at hl 0 rfl) ?_
              refine lv_aload_n hx hb dX3_gather_53 rfl (lv_at hl 6 rfl) ?_
              refine va_get (D := D) (ci := 3) (v := .int (nI (gt))) (C := RX3) (T := TX3) (N := 5) hx hb hts hinX3 hown hK hP 0 rfl rfl 3 (by decide) (hts (.fieldLink RX3 25 "CornDesk$Groups" "total" "I") (by decide +kernel)) (fun _ h9 => h9) rfl dX3_gather_54 ?_
              refine ln_icmp_ge (tgt := 117) hx hb dX3_gather_57 (by decide) (by omega) (by omega) (fun d1 => ?_) (fun d1 => ?_)
              · refine lv_iinc (v := (nI (q + 1))) (lv' := [(4, .int (nI (q + 1))), (6, .int (nI (t))), (5, .ref (ka (Bm0 (q)))), (3, .int (nI (f))), (1, .ref (mA)), (2, .int (nI (ml))), (0, .ref (go0))]) hx hb dX3_gather_117 hl (k := 3) rfl (by rw [show (Int32.ofInt 1) = nI 1 from rfl, nI_add]) (by decide) rfl (fun ls hl => ?_)
                refine lv_goto (tgt := 22) hx hb dX3_gather_120 (by decide) ?_
                exact ih (q + 1) (f) (G) (Bm) (by omega) (⟨hga.1, hga.2.1, hga.2.2.1, fun y hy j hj hg => by rcases Nat.lt_or_ge y q with z | z; exact hga.2.2.2.1 y z j hj hg; rw [show y = q by omega, hB0] at hg; exact hdn j hj (by omega) hg, hga.2.2.2.2⟩) _ _ _ hP hD hS (lv_sub hl [0, 3, 4, 5, 6] rfl)
              · exact absurd hk2 (by omega)
            | succ i2 ih2 =>
              intro t f G Bm hk2 hga hB0 hfq hdn H locs ls hP hD hS hl
              have hfb := hga.2.2.2.2.1
              refine lv_iload hx hb dX3_gather_51 (lv_at hl 0 rfl) ?_
              refine lv_aload_n hx hb dX3_gather_53 rfl (lv_at hl 6 rfl) ?_
              refine va_get (D := D) (ci := 3) (v := .int (nI (gt))) (C := RX3) (T := TX3) (N := 5) hx hb hts hinX3 hown hK hP 0 rfl rfl 3 (by decide) (hts (.fieldLink RX3 25 "CornDesk$Groups" "total" "I") (by decide +kernel)) (fun _ h9 => h9) rfl dX3_gather_54 ?_
              refine ln_icmp_ge (tgt := 117) hx hb dX3_gather_57 (by decide) (by omega) (by omega) (fun d1 => ?_) (fun d1 => ?_)
              · exact absurd hk2 (by omega)
              · refine lv_iload_n hx hb dX3_gather_60 rfl (lv_at hl 2 rfl) ?_
                refine lv_bipush (v := (nI (20))) hx hb dX3_gather_61 (by decide) ?_
                refine ln_icmp_ge (tgt := 117) hx hb dX3_gather_63 (by decide) (by omega) (by omega) (fun d2 => ?_) (fun d2 => ?_)
                · refine lv_iinc (v := (nI (q + 1))) (lv' := [(4, .int (nI (q + 1))), (6, .int (nI (t))), (5, .ref (ka (Bm0 (q)))), (3, .int (nI (f))), (1, .ref (mA)), (2, .int (nI (ml))), (0, .ref (go0))]) hx hb dX3_gather_117 hl (k := 3) rfl (by rw [show (Int32.ofInt 1) = nI 1 from rfl, nI_add]) (by decide) rfl (fun ls hl => ?_)
                  refine lv_goto (tgt := 22) hx hb dX3_gather_120 (by decide) ?_
                  exact ih (q + 1) (f) (G) (Bm) (by omega) (⟨hga.1, hga.2.1, hga.2.2.1, fun y hy j hj hg => cnt0_z (n := nm) (by have := hga.2.2.2.2.1; omega) j hj, hga.2.2.2.2⟩) _ _ _ hP hD hS (lv_sub hl [0, 3, 4, 5, 6] rfl)
                · have hgt2 := gaI_b hga hG1 hgn t (by omega)
                  refine lv_aload_n hx hb dX3_gather_66 rfl (lv_at hl 6 rfl) ?_
                  refine va_get (D := D) (ci := 3) (v := .ref (ga0)) (C := RX3) (T := TX3) (N := 5) hx hb hts hinX3 hown hK hP 0 rfl rfl 0 (by decide) (hts (.fieldLink RX3 9 "CornDesk$Groups" "groupOf" "[I") (by decide +kernel)) (fun _ h9 => h9) rfl dX3_gather_67 ?_
                  refine lv_iload hx hb dX3_gather_70 (lv_at hl 0 rfl) ?_
                  refine ln_iald hx hb hK hP 1 0 rfl rfl (by decide) (by omega) dX3_gather_72 ?_
                  refine lv_iconst (v := (-1)) hx hb dX3_gather_73 (by decide) ?_
                  refine lv_icmp_ne (tgt := 111) hx hb dX3_gather_74 (by decide) (fun d3 => ?_) (fun d3 => ?_)
                  · refine lv_iinc (v := (nI (t + 1))) (lv' := [(6, .int (nI (t + 1))), (5, .ref (ka (Bm0 (q)))), (3, .int (nI (f))), (4, .int (nI (q))), (1, .ref (mA)), (2, .int (nI (ml))), (0, .ref (go0))]) hx hb dX3_gather_111 hl (k := 0) rfl (by rw [show (Int32.ofInt 1) = nI 1 from rfl, nI_add]) (by decide) rfl (fun ls hl => ?_)
                    refine lv_goto (tgt := 51) hx hb dX3_gather_114 (by decide) ?_
                    exact ih2 (t + 1) (f) (G) (Bm) (by omega) (hga) (hB0) (hfq) (fun j hj hl hg => by rcases Classical.em (j = t) with e | e; subst e; exact fun e0 => d3 ((gI_m1 (by omega)).mpr e0); exact hdn j hj (by omega) hg) _ _ _ hP hD hS hl
                  · have hz : G t = 0 := (gI_m1 (by omega)).mp d3
                    refine lv_aload hx hb dX3_gather_77 (lv_at hl 1 rfl) ?_
                    refine lv_aload_n hx hb dX3_gather_79 rfl (lv_at hl 4 rfl) ?_
                    refine lv_iload hx hb dX3_gather_80 (lv_at hl 0 rfl) ?_
                    refine ln_aald (v := some (ka (t))) hx hb hK hP 4 4 rfl rfl (by decide) (by omega) (hMA t (by omega)) dX3_gather_82 ?_
                    refine W.eq (g2 := F0 m 83 ls [.ref (ka (t)), .ref (ka (Bm0 (q)))]) rfl ?_
                    have hb9 : Bm0 q < nm := hbm
                    obtain ⟨k9, fs9, he9⟩ := mk_at cy pad PF ka a (np := np) (show (Bm0 q) < nm by omega)
                    have hP := hP.perm (List.perm_append_comm (l₁ := ([(go0, .inr (3, [.ref (ga0), .ref (gb0), .ref (gc0), .int (nI (gt)), .int (nI (gn))])), (ga0, .inl (cy 0, 20, .inl (gA G))), (gb0, .inl (cy 0, 20, .inl (nA Bm))), (gc0, .inl (cy 0, 4, .inl (nA GC))), (mA, .inl (cy 4, 20, .inr (.inr (.inr (.inr MA)))))] : va_W)) (l₂ := (mkPl pad ka a nm ++ pcPl cy pad PF a np)))
                    have hD := hD.perm (List.perm_append_comm (l₁ := ([(go0, .inr (3, [.ref (ga0), .ref (gb0), .ref (gc0), .int (nI (gt)), .int (nI (gn))])), (ga0, .inl (cy 0, 20, .inl (gA G))), (gb0, .inl (cy 0, 20, .inl (nA Bm))), (gc0, .inl (cy 0, 4, .inl (nA GC))), (mA, .inl (cy 4, 20, .inr (.inr (.inr (.inr MA)))))] : va_W)) (l₂ := (mkPl pad ka a nm ++ pcPl cy pad PF a np)))
                    refine nq_Vi (As := [.ref (ka (t))]) (rest := []) (w := (mkPl pad ka a nm ++ pcPl cy pad PF a np)) (wr := [(go0, .inr (3, [.ref (ga0), .ref (gb0), .ref (gc0), .int (nI (gt)), .int (nI (gn))])), (ga0, .inl (cy 0, 20, .inl (gA G))), (gb0, .inl (cy 0, 20, .inl (nA Bm))), (gc0, .inl (cy 0, 4, .inl (nA GC))), (mA, .inl (cy 4, 20, .inr (.inr (.inr (.inr MA)))))]) (ci := 5) (k0 := k9) ⟨hx, hb, hml, hown, hts⟩ (qfits l D cy pad PF ka a nm np ((Bm0 q)) (t) (by omega) (by omega) hma hpc hnp) (cwV 1 hts gX3_gather_X5_fits rfl rfl rfl (by decide +kernel) ⟨Nat.le_of_ble_eq_true rfl, Nat.le_of_ble_eq_true rfl⟩) rfl he9 hP hK hD hN hS hA rfl hl.1 rfl (Nat.le_of_ble_eq_true rfl) dX3_gather_83 ⟨Nat.le_of_ble_eq_true rfl, Nat.le_of_ble_eq_true rfl⟩ (fun r w1 H locs hq hP hD hS => ?_)
                    obtain ⟨rfl, rfl⟩ := hq
                    have hP := hP.perm List.perm_append_comm
                    have hD := hD.perm List.perm_append_comm
                    have hP : va_P D vwCl (([(go0, .inr (3, [.ref (ga0), .ref (gb0), .ref (gc0), .int (nI (gt)), .int (nI (gn))])), (ga0, .inl (cy 0, 20, .inl (gA G))), (gb0, .inl (cy 0, 20, .inl (nA Bm))), (gc0, .inl (cy 0, 4, .inl (nA GC))), (mA, .inl (cy 4, 20, .inr (.inr (.inr (.inr MA)))))] : va_W) ++ (mkPl pad ka a nm ++ pcPl cy pad PF a np)) _ := hP
                    have hD : va_D A (([(go0, .inr (3, [.ref (ga0), .ref (gb0), .ref (gc0), .int (nI (gt)), .int (nI (gn))])), (ga0, .inl (cy 0, 20, .inl (gA G))), (gb0, .inl (cy 0, 20, .inl (nA Bm))), (gc0, .inl (cy 0, 4, .inl (nA GC))), (mA, .inl (cy 4, 20, .inr (.inr (.inr (.inr MA)))))] : va_W) ++ (mkPl pad ka a nm ++ pcPl cy pad PF a np)) := hD
                    refine lb_if_eq (tgt := 111) hx hb dX3_gather_86 (by decide) (fun d4 => ?_) (fun d4 => ?_)
                    · refine lv_iinc (v := (nI (t + 1))) (lv' := [(6, .int (nI (t + 1))), (5, .ref (ka (Bm0 (q)))), (3, .int (nI (f))), (4, .int (nI (q))), (1, .ref (mA)), (2, .int (nI (ml))), (0, .ref (go0))]) hx hb dX3_gather_111 hl (k := 0) rfl (by rw [show (Int32.ofInt 1) = nI 1 from rfl, nI_add]) (by decide) rfl (fun ls hl => ?_)
                      refine lv_goto (tgt := 51) hx hb dX3_gather_114 (by decide) ?_
                      exact ih2 (t + 1) (f) (G) (Bm) (by omega) (hga) (hB0) (hfq) (fun j hj hl hg => by rcases Classical.em (j = t) with e | e; subst e; exact absurd ((hag _ _ hbm hj).mpr hg) d4; exact hdn j hj (by omega) hg) _ _ _ hP hD hS hl
                    · have hagr : agr a (Bm q) t := by rw [hB0]; exact (hag _ _ hbm (by omega)).mp d4
                      have hga2 := gaI_add hga hG0 hfq (show t < nm by omega) hz hagr
                      have hf20 : f < 20 := by omega
                      refine lv_aload_n hx hb dX3_gather_89 rfl (lv_at hl 6 rfl) ?_
                      refine va_get (D := D) (ci := 3) (v := .ref (ga0)) (C := RX3) (T := TX3) (N := 5) hx hb hts hinX3 hown hK hP 0 rfl rfl 0 (by decide) (hts (.fieldLink RX3 9 "CornDesk$Groups" "groupOf" "[I") (by decide +kernel)) (fun _ h9 => h9) rfl dX3_gather_90 ?_
                      refine lv_iload hx hb dX3_gather_93 (lv_at hl 0 rfl) ?_
                      refine lv_aload_n hx hb dX3_gather_95 rfl (lv_at hl 6 rfl) ?_
                      refine va_get (D := D) (ci := 3) (v := .int (nI (gn))) (C := RX3) (T := TX3) (N := 5) hx hb hts hinX3 hown hK hP 0 rfl rfl 4 (by decide) (hts (.fieldLink RX3 29 "CornDesk$Groups" "count" "I") (by decide +kernel)) (fun _ h9 => h9) rfl dX3_gather_96 ?_
                      refine ln_iastG hx hb hK hP hD hS 1 0 rfl rfl (by decide) (by omega) dX3_gather_99 (fun H locs hP hD hS => ?_)
                      have hP : va_P D vwCl (([(go0, .inr (3, [.ref (ga0), .ref (gb0), .ref (gc0), .int (nI (gt)), .int (nI (gn))])), (ga0, .inl (cy 0, 20, .inl (gA (upN G (t) (gn + 1))))), (gb0, .inl (cy 0, 20, .inl (nA Bm))), (gc0, .inl (cy 0, 4, .inl (nA GC))), (mA, .inl (cy 4, 20, .inr (.inr (.inr (.inr MA)))))] : va_W) ++ (mkPl pad ka a nm ++ pcPl cy pad PF a np)) _ := hP
                      have hD : va_D A (([(go0, .inr (3, [.ref (ga0), .ref (gb0), .ref (gc0), .int (nI (gt)), .int (nI (gn))])), (ga0, .inl (cy 0, 20, .inl (gA (upN G (t) (gn + 1))))), (gb0, .inl (cy 0, 20, .inl (nA Bm))), (gc0, .inl (cy 0, 4, .inl (nA GC))), (mA, .inl (cy 4, 20, .inr (.inr (.inr (.inr MA)))))] : va_W) ++ (mkPl pad ka a nm ++ pcPl cy pad PF a np)) := hD
                      refine lv_aload_n hx hb dX3_gather_100 rfl (lv_at hl 6 rfl) ?_
                      refine va_get (D := D) (ci := 3) (v := .ref (gb0)) (C := RX3) (T := TX3) (N := 5) hx hb hts hinX3 hown hK hP 0 rfl rfl 1 (by decide) (hts (.fieldLink RX3 15 "CornDesk$Groups" "members" "[I") (by decide +kernel)) (fun _ h9 => h9) rfl dX3_gather_101 ?_
                      refine lv_iload_n hx hb dX3_gather_104 rfl (lv_at hl 2 rfl) ?_
                      refine lv_iload hx hb dX3_gather_105 (lv_at hl 0 rfl) ?_
                      refine ln_iastN hx hb hK hP hD hS 2 0 rfl rfl (by decide) (by omega) dX3_gather_107 (fun H locs hP hD hS => ?_)
                      have hP : va_P D vwCl (([(go0, .inr (3, [.ref (ga0), .ref (gb0), .ref (gc0), .int (nI (gt)), .int (nI (gn))])), (ga0, .inl (cy 0, 20, .inl (gA (upN G (t) (gn + 1))))), (gb0, .inl (cy 0, 20, .inl (nA (upN Bm (f) (t))))), (gc0, .inl (cy 0, 4, .inl (nA GC))), (mA, .inl (cy 4, 20, .inr (.inr (.inr (.inr MA)))))] : va_W) ++ (mkPl pad ka a nm ++ pcPl cy pad PF a np)) _ := hP
                      have hD : va_D A (([(go0, .inr (3, [.ref (ga0), .ref (gb0), .ref (gc0), .int (nI (gt)), .int (nI (gn))])), (ga0, .inl (cy 0, 20, .inl (gA (upN G (t) (gn + 1))))), (gb0, .inl (cy 0, 20, .inl (nA (upN Bm (f) (t))))), (gc0, .inl (cy 0, 4, .inl (nA GC))), (mA, .inl (cy 4, 20, .inr (.inr (.inr (.inr MA)))))] : va_W) ++ (mkPl pad ka a nm ++ pcPl cy pad PF a np)) := hD
                      refine lv_iinc (v := (nI (f + 1))) (lv' := [(3, .int (nI (f + 1))), (6, .int (nI (t))), (5, .ref (ka (Bm0 (q)))), (4, .int (nI (q))), (1, .ref (mA)), (2, .int (nI (ml))), (0, .ref (go0))]) hx hb dX3_gather_108 hl (k := 2) rfl (by rw [show (Int32.ofInt 1) = nI 1 from rfl, nI_add]) (by decide) rfl (fun ls hl => ?_)
                      refine lv_iinc (v := (nI (t + 1))) (lv' := [(6, .int (nI (t + 1))), (3, .int (nI (f + 1))), (5, .ref (ka (Bm0 (q)))), (4, .int (nI (q))), (1, .ref (mA)), (2, .int (nI (ml))), (0, .ref (go0))]) hx hb dX3_gather_111 hl (k := 1) rfl (by rw [show (Int32.ofInt 1) = nI 1 from rfl, nI_add]) (by decide) rfl (fun ls hl => ?_)
                      refine lv_goto (tgt := 51) hx hb dX3_gather_114 (by decide) ?_
                      exact ih2 (t + 1) (f + 1) (upN G (t) (gn + 1)) (upN Bm (f) (t)) (by omega) (hga2) (by rw [upN_n (by omega)]; exact hB0) (by omega) (fun j hj hl hg => by simp only [upN]; split; omega; exact hdn j hj (by omega) hg) _ _ _ hP hD hS (lv_sub hl [0, 2, 1, 3, 4, 5, 6] rfl)
          exact li (nm - (ml + 1)) (ml + 1) (f) (G) (Bm) (by omega) (hga) (by rw [hBm0]) (by omega) (fun j hj hl hg => by rw [hga.2.1 j hj (hG2 j (by omega))]; exact hG2 j (by omega)) _ _ _ hP hD hS (lv_sub hl [0, 1, 3, 2, 4, 5, 6] rfl)
  exact lp (20) (0) (1) (upN GG (ml) (gn + 1)) (upN GB (0) (ml)) (by omega) (⟨fun y hy => by rw [show y = 0 by omega, upN_s]; exact ⟨hmlt, upN_s ..⟩, fun _ _ _ => rfl, fun j hj hz => Or.inl hz, fun y hy => absurd hy (Nat.not_lt_zero y), rfl, upN_s .., Nat.le_refl 1⟩) _ _ _ hP hD hS (lv_sub hl [0, 1, 3, 4, 2] rfl)
theorem cpz_g (G : Nat → Nat) (n : Nat) : cpI (gA G) (fun _ => -1) 0 n = gA (cpN G (fun _ => 0) 0 n) := by
  funext j
  simp only [cpI, gA, cpN]
  split <;> rfl
theorem cpz_n (F : Nat → Nat) (n : Nat) : cpI (nA F) (fun _ => nI 0) 0 n = nA (cpN F (fun _ => 0) 0 n) := by
  funext j
  simp only [cpI, nA, cpN]
  split <;> rfl
theorem cpN_i9 {F : Nat → Nat} {n j : Nat} (h : j < n) : cpN F (fun _ => 0) 0 n j = 0 := if_pos ⟨Nat.zero_le _, by omega⟩
set_option maxHeartbeats 4000000 in
set_option maxRecDepth 100000 in
theorem qX3_sort_g (l : Launch) (D : va_G) (cy : Nat → ClassId) (pad : Nat → Nat → Nat) (PF : Nat → Nat → Nat → Nat) (ka : Nat → Nat) (a : Nat → Nat) (go0 : Nat) (ga0 : Nat) (gb0 : Nat) (gc0 : Nat) (gt : Nat) (gn : Nat) (GG : Nat → Nat) (GB : Nat → Nat) (GC : Nat → Nat) (mA : Nat) (MA : Nat → Option Nat) (nm : Nat) (np : Nat) (hmn : nm ≤ 20) (hMA : ∀ j, j < nm → MA j = some (ka j)) (hma : maR a np nm) (hpc : pcR PF a np) (hnp : np ≤ 6) (hag : ∀ i j, i < nm → j < nm → (agM PF a i j ↔ agr a i j)) : nq_v l D (cT cy) yX3_sort wsX3_sort 5 0 0 117 [.ref (go0), .ref (mA), .int (nI (nm))] (([(go0, .inr (3, [.ref (ga0), .ref (gb0), .ref (gc0), .int (nI (gt)), .int (nI (gn))])), (ga0, .inl (cy 0, 20, .inl (gA GG))), (gb0, .inl (cy 0, 20, .inl (nA GB))), (gc0, .inl (cy 0, 4, .inl (nA GC))), (mA, .inl (cy 4, 20, .inr (.inr (.inr (.inr MA)))))] : va_W) ++ (mkPl pad ka a nm ++ pcPl cy pad PF a np)) (fun w1 => ∃ (G Bm : Nat → Nat) (c : Nat), grp a nm G c ∧ c ≤ nm ∧ w1 = ([(go0, .inr (3, [.ref (ga0), .ref (gb0), .ref (gc0), .int (nI (nm)), .int (nI (c))])), (ga0, .inl (cy 0, 20, .inl (gA G))), (gb0, .inl (cy 0, 20, .inl (nA Bm))), (gc0, .inl (cy 0, 4, .inl (nA GC))), (mA, .inl (cy 4, 20, .inr (.inr (.inr (.inr MA)))))] : va_W) ++ (mkPl pad ka a nm ++ pcPl cy pad PF a np)) := by
  refine nq_v_of (cc := cX3_sort) (maxL := 4) (by decide) rfl (Nat.le_of_ble_eq_true rfl) ?_
  intro p e s m args below meth c A Q ls hx hb hts hown hml hnm hN hA hP hK hD hS hl hret
  have hown : s.vm.findClass RX3 = some m.cls := hown
  have hinX3 : ∀ w ∈ u_ws RX3 TX3 5, w ∈ wsX3_sort := by decide +kernel
  have hl : lv_has ls 4 [(0, .ref (go0)), (1, .ref (mA)), (2, .int (nI (nm)))] := hl
  have hP : va_P D vwCl (([(go0, .inr (3, [.ref (ga0), .ref (gb0), .ref (gc0), .int (nI (gt)), .int (nI (gn))])), (ga0, .inl (cy 0, 20, .inl (gA GG))), (gb0, .inl (cy 0, 20, .inl (nA GB))), (gc0, .inl (cy 0, 4, .inl (nA GC))), (mA, .inl (cy 4, 20, .inr (.inr (.inr (.inr MA)))))] : va_W) ++ (mkPl pad ka a nm ++ pcPl cy pad PF a np)) s.heap := hP
  refine lv_aload_n hx hb dX3_sort_0 rfl (lv_at hl 0 rfl) ?_
  refine lv_aload_n hx hb dX3_sort_1 rfl (lv_at hl 1 rfl) ?_
  refine lv_iload_n hx hb dX3_sort_2 rfl (lv_at hl 2 rfl) ?_
  have hpm := (va_perm_of (w := [(go0, .inr (3, [.ref (ga0), .ref (gb0), .ref (gc0), .int (nI (gt)), .int (nI (gn))])), (ga0, .inl (cy 0, 20, .inl (gA GG))), (gb0, .inl (cy 0, 20, .inl (nA GB))), (gc0, .inl (cy 0, 4, .inl (nA GC))), (mA, .inl (cy 4, 20, .inr (.inr (.inr (.inr MA)))))]) (w' := [(mA, .inl (cy 4, 20, .inr (.inr (.inr (.inr MA))))), (go0, .inr (3, [.ref (ga0), .ref (gb0), .ref (gc0), .int (nI (gt)), .int (nI (gn))])), (ga0, .inl (cy 0, 20, .inl (gA GG))), (gb0, .inl (cy 0, 20, .inl (nA GB))), (gc0, .inl (cy 0, 4, .inl (nA GC)))]) [4, 0, 1, 2, 3] (by decide) rfl rfl).append_right ((mkPl pad ka a nm ++ pcPl cy pad PF a np))
  have hP := hP.perm hpm
  have hD := hD.perm hpm
  have hP : va_P D vwCl (([(mA, .inl (cy 4, 20, .inr (.inr (.inr (.inr MA)))))] : va_W) ++ (([(go0, .inr (3, [.ref (ga0), .ref (gb0), .ref (gc0), .int (nI (gt)), .int (nI (gn))])), (ga0, .inl (cy 0, 20, .inl (gA GG))), (gb0, .inl (cy 0, 20, .inl (nA GB))), (gc0, .inl (cy 0, 4, .inl (nA GC)))] : va_W) ++ (mkPl pad ka a nm ++ pcPl cy pad PF a np))) _ := hP
  have hD : va_D A (([(mA, .inl (cy 4, 20, .inr (.inr (.inr (.inr MA)))))] : va_W) ++ (([(go0, .inr (3, [.ref (ga0), .ref (gb0), .ref (gc0), .int (nI (gt)), .int (nI (gn))])), (ga0, .inl (cy 0, 20, .inl (gA GG))), (gb0, .inl (cy 0, 20, .inl (nA GB))), (gc0, .inl (cy 0, 4, .inl (nA GC)))] : va_W) ++ (mkPl pad ka a nm ++ pcPl cy pad PF a np))) := hD
  refine nq_Si (As := [.ref (mA), .int (nI (nm))]) (rest := [.ref (go0)]) (w := [(mA, .inl (cy 4, 20, .inr (.inr (.inr (.inr MA)))))]) (wr := (([(go0, .inr (3, [.ref (ga0), .ref (gb0), .ref (gc0), .int (nI (gt)), .int (nI (gn))])), (ga0, .inl (cy 0, 20, .inl (gA GG))), (gb0, .inl (cy 0, 20, .inl (nA GB))), (gc0, .inl (cy 0, 4, .inl (nA GC)))] : va_W) ++ (mkPl pad ka a nm ++ pcPl cy pad PF a np))) ⟨hx, hb, hml, hown, hts⟩ (qX3_standing l D cy mA MA (nm) ka hmn hMA) (cwS 2 hts gX3_sort_X3_standing rfl rfl rfl (by decide +kernel) ⟨Nat.le_of_ble_eq_true rfl, Nat.le_of_ble_eq_true rfl⟩) hP hK hD hN hS hA rfl hl.1 rfl (Nat.le_of_ble_eq_true rfl) dX3_sort_3 ⟨Nat.le_of_ble_eq_true rfl, Nat.le_of_ble_eq_true rfl⟩ (fun r w1 H locs hq hP hD hS => ?_)
  obtain ⟨rfl, rfl⟩ := hq
  have hP : va_P D vwCl (([(mA, .inl (cy 4, 20, .inr (.inr (.inr (.inr MA))))), (go0, .inr (3, [.ref (ga0), .ref (gb0), .ref (gc0), .int (nI (gt)), .int (nI (gn))])), (ga0, .inl (cy 0, 20, .inl (gA GG))), (gb0, .inl (cy 0, 20, .inl (nA GB))), (gc0, .inl (cy 0, 4, .inl (nA GC)))] : va_W) ++ (mkPl pad ka a nm ++ pcPl cy pad PF a np)) _ := hP
  have hD : va_D A (([(mA, .inl (cy 4, 20, .inr (.inr (.inr (.inr MA))))), (go0, .inr (3, [.ref (ga0), .ref (gb0), .ref (gc0), .int (nI (gt)), .int (nI (gn))])), (ga0, .inl (cy 0, 20, .inl (gA GG))), (gb0, .inl (cy 0, 20, .inl (nA GB))), (gc0, .inl (cy 0, 4, .inl (nA GC)))] : va_W) ++ (mkPl pad ka a nm ++ pcPl cy pad PF a np)) := hD
  have hpm := (va_perm_of (w := [(mA, .inl (cy 4, 20, .inr (.inr (.inr (.inr MA))))), (go0, .inr (3, [.ref (ga0), .ref (gb0), .ref (gc0), .int (nI (gt)), .int (nI (gn))])), (ga0, .inl (cy 0, 20, .inl (gA GG))), (gb0, .inl (cy 0, 20, .inl (nA GB))), (gc0, .inl (cy 0, 4, .inl (nA GC)))]) (w' := [(go0, .inr (3, [.ref (ga0), .ref (gb0), .ref (gc0), .int (nI (gt)), .int (nI (gn))])), (ga0, .inl (cy 0, 20, .inl (gA GG))), (gb0, .inl (cy 0, 20, .inl (nA GB))), (gc0, .inl (cy 0, 4, .inl (nA GC))), (mA, .inl (cy 4, 20, .inr (.inr (.inr (.inr MA)))))]) [1, 2, 3, 4, 0] (by decide) rfl rfl).append_right ((mkPl pad ka a nm ++ pcPl cy pad PF a np))
  have hP := hP.perm hpm
  have hD := hD.perm hpm
  have hP : va_P D vwCl (([(go0, .inr (3, [.ref (ga0), .ref (gb0), .ref (gc0), .int (nI (gt)), .int (nI (gn))])), (ga0, .inl (cy 0, 20, .inl (gA GG))), (gb0, .inl (cy 0, 20, .inl (nA GB))), (gc0, .inl (cy 0, 4, .inl (nA GC))), (mA, .inl (cy 4, 20, .inr (.inr (.inr (.inr MA)))))] : va_W) ++ (mkPl pad ka a nm ++ pcPl cy pad PF a np)) _ := hP
  have hD : va_D A (([(go0, .inr (3, [.ref (ga0), .ref (gb0), .ref (gc0), .int (nI (gt)), .int (nI (gn))])), (ga0, .inl (cy 0, 20, .inl (gA GG))), (gb0, .inl (cy 0, 20, .inl (nA GB))), (gc0, .inl (cy 0, 4, .inl (nA GC))), (mA, .inl (cy 4, 20, .inr (.inr (.inr (.inr MA)))))] : va_W) ++ (mkPl pad ka a nm ++ pcPl cy pad PF a np)) := hD
  refine va_put (D := D) (ci := 3) (v := .int (nI (nm))) (ty := .int) (C := RX3) (T := TX3) (N := 5) hx hb hts hinX3 tyX3 tyX3_ok nmX3 hown hK hP hD hS 0 rfl rfl 3 (by decide) (hts (.fieldLink RX3 25 "CornDesk$Groups" "total" "I") (by decide +kernel)) (fun _ h9 => h9) rfl (by decide +kernel) rfl rfl (Nat.le_of_ble_eq_true rfl) dX3_sort_6 (fun H locs hP hD hS => ?_)
  have hP : va_P D vwCl (([(go0, .inr (3, [.ref (ga0), .ref (gb0), .ref (gc0), .int (nI (nm)), .int (nI (gn))])), (ga0, .inl (cy 0, 20, .inl (gA GG))), (gb0, .inl (cy 0, 20, .inl (nA GB))), (gc0, .inl (cy 0, 4, .inl (nA GC))), (mA, .inl (cy 4, 20, .inr (.inr (.inr (.inr MA)))))] : va_W) ++ (mkPl pad ka a nm ++ pcPl cy pad PF a np)) _ := hP
  have hD : va_D A (([(go0, .inr (3, [.ref (ga0), .ref (gb0), .ref (gc0), .int (nI (nm)), .int (nI (gn))])), (ga0, .inl (cy 0, 20, .inl (gA GG))), (gb0, .inl (cy 0, 20, .inl (nA GB))), (gc0, .inl (cy 0, 4, .inl (nA GC))), (mA, .inl (cy 4, 20, .inr (.inr (.inr (.inr MA)))))] : va_W) ++ (mkPl pad ka a nm ++ pcPl cy pad PF a np)) := hD
  refine lv_aload_n hx hb dX3_sort_9 rfl (lv_at hl 0 rfl) ?_
  refine lv_iconst (v := (nI (0))) hx hb dX3_sort_10 (by decide) ?_
  refine va_put (D := D) (ci := 3) (v := .int (nI (0))) (ty := .int) (C := RX3) (T := TX3) (N := 5) hx hb hts hinX3 tyX3 tyX3_ok nmX3 hown hK hP hD hS 0 rfl rfl 4 (by decide) (hts (.fieldLink RX3 29 "CornDesk$Groups" "count" "I") (by decide +kernel)) (fun _ h9 => h9) rfl (by decide +kernel) rfl rfl (Nat.le_of_ble_eq_true rfl) dX3_sort_11 (fun H locs hP hD hS => ?_)
  have hP : va_P D vwCl (([(go0, .inr (3, [.ref (ga0), .ref (gb0), .ref (gc0), .int (nI (nm)), .int (nI (0))])), (ga0, .inl (cy 0, 20, .inl (gA GG))), (gb0, .inl (cy 0, 20, .inl (nA GB))), (gc0, .inl (cy 0, 4, .inl (nA GC))), (mA, .inl (cy 4, 20, .inr (.inr (.inr (.inr MA)))))] : va_W) ++ (mkPl pad ka a nm ++ pcPl cy pad PF a np)) _ := hP
  have hD : va_D A (([(go0, .inr (3, [.ref (ga0), .ref (gb0), .ref (gc0), .int (nI (nm)), .int (nI (0))])), (ga0, .inl (cy 0, 20, .inl (gA GG))), (gb0, .inl (cy 0, 20, .inl (nA GB))), (gc0, .inl (cy 0, 4, .inl (nA GC))), (mA, .inl (cy 4, 20, .inr (.inr (.inr (.inr MA)))))] : va_W) ++ (mkPl pad ka a nm ++ pcPl cy pad PF a np)) := hD
  refine lv_aload_n hx hb dX3_sort_14 rfl (lv_at hl 0 rfl) ?_
  refine va_get (D := D) (ci := 3) (v := .ref (ga0)) (C := RX3) (T := TX3) (N := 5) hx hb hts hinX3 hown hK hP 0 rfl rfl 0 (by decide) (hts (.fieldLink RX3 9 "CornDesk$Groups" "groupOf" "[I") (by decide +kernel)) (fun _ h9 => h9) rfl dX3_sort_15 ?_
  refine lv_iconst (v := (-1)) hx hb dX3_sort_18 (by decide) ?_
  have hpm := (va_perm_of (w := [(go0, .inr (3, [.ref (ga0), .ref (gb0), .ref (gc0), .int (nI (nm)), .int (nI (0))])), (ga0, .inl (cy 0, 20, .inl (gA GG))), (gb0, .inl (cy 0, 20, .inl (nA GB))), (gc0, .inl (cy 0, 4, .inl (nA GC))), (mA, .inl (cy 4, 20, .inr (.inr (.inr (.inr MA)))))]) (w' := [(ga0, .inl (cy 0, 20, .inl (gA GG))), (go0, .inr (3, [.ref (ga0), .ref (gb0), .ref (gc0), .int (nI (nm)), .int (nI (0))])), (gb0, .inl (cy 0, 20, .inl (nA GB))), (gc0, .inl (cy 0, 4, .inl (nA GC))), (mA, .inl (cy 4, 20, .inr (.inr (.inr (.inr MA)))))]) [1, 0, 2, 3, 4] (by decide) rfl rfl).append_right ((mkPl pad ka a nm ++ pcPl cy pad PF a np))
  have hP := hP.perm hpm
  have hD := hD.perm hpm
  have hP : va_P D vwCl (([(ga0, .inl (cy 0, 20, .inl (gA GG)))] : va_W) ++ (([(go0, .inr (3, [.ref (ga0), .ref (gb0), .ref (gc0), .int (nI (nm)), .int (nI (0))])), (gb0, .inl (cy 0, 20, .inl (nA GB))), (gc0, .inl (cy 0, 4, .inl (nA GC))), (mA, .inl (cy 4, 20, .inr (.inr (.inr (.inr MA)))))] : va_W) ++ (mkPl pad ka a nm ++ pcPl cy pad PF a np))) _ := hP
  have hD : va_D A (([(ga0, .inl (cy 0, 20, .inl (gA GG)))] : va_W) ++ (([(go0, .inr (3, [.ref (ga0), .ref (gb0), .ref (gc0), .int (nI (nm)), .int (nI (0))])), (gb0, .inl (cy 0, 20, .inl (nA GB))), (gc0, .inl (cy 0, 4, .inl (nA GC))), (mA, .inl (cy 4, 20, .inr (.inr (.inr (.inr MA)))))] : va_W) ++ (mkPl pad ka a nm ++ pcPl cy pad PF a np))) := hD
  refine nq_Sv (As := [.ref (ga0), .int (-1)]) (rest := []) (w := [(ga0, .inl (cy 0, 20, .inl (gA GG)))]) (wr := (([(go0, .inr (3, [.ref (ga0), .ref (gb0), .ref (gc0), .int (nI (nm)), .int (nI (0))])), (gb0, .inl (cy 0, 20, .inl (nA GB))), (gc0, .inl (cy 0, 4, .inl (nA GC))), (mA, .inl (cy 4, 20, .inr (.inr (.inr (.inr MA)))))] : va_W) ++ (mkPl pad ka a nm ++ pcPl cy pad PF a np))) ⟨hx, hb, hml, hown, hts⟩ (qJ7_fill_53178 l D cy ga0 20 (gA GG) (-1) (by decide)) (va_cwS 2 hts gX3_sort_J7_fill_53178 rfl rfl rfl (by decide +kernel) ⟨Nat.le_of_ble_eq_true rfl, Nat.le_of_ble_eq_true rfl⟩) hP hK hD hN hS hA rfl hl.1 rfl (Nat.le_of_ble_eq_true rfl) dX3_sort_19 ⟨Nat.le_of_ble_eq_true rfl, Nat.le_of_ble_eq_true rfl⟩ (fun w1 H locs hq hP hD hS => ?_)
  subst hq
  have hP : va_P D vwCl (([(ga0, .inl (cy 0, 20, .inl (cpI (gA GG) (fun _ => (-1)) 0 20))), (go0, .inr (3, [.ref (ga0), .ref (gb0), .ref (gc0), .int (nI (nm)), .int (nI (0))])), (gb0, .inl (cy 0, 20, .inl (nA GB))), (gc0, .inl (cy 0, 4, .inl (nA GC))), (mA, .inl (cy 4, 20, .inr (.inr (.inr (.inr MA)))))] : va_W) ++ (mkPl pad ka a nm ++ pcPl cy pad PF a np)) _ := hP
  have hD : va_D A (([(ga0, .inl (cy 0, 20, .inl (cpI (gA GG) (fun _ => (-1)) 0 20))), (go0, .inr (3, [.ref (ga0), .ref (gb0), .ref (gc0), .int (nI (nm)), .int (nI (0))])), (gb0, .inl (cy 0, 20, .inl (nA GB))), (gc0, .inl (cy 0, 4, .inl (nA GC))), (mA, .inl (cy 4, 20, .inr (.inr (.inr (.inr MA)))))] : va_W) ++ (mkPl pad ka a nm ++ pcPl cy pad PF a np)) := hD
  rw [cpz_g] at hP hD
  have hP : va_P D vwCl (([(ga0, .inl (cy 0, 20, .inl (gA (cpN GG (fun _ => 0) 0 20)))), (go0, .inr (3, [.ref (ga0), .ref (gb0), .ref (gc0), .int (nI (nm)), .int (nI (0))])), (gb0, .inl (cy 0, 20, .inl (nA GB))), (gc0, .inl (cy 0, 4, .inl (nA GC))), (mA, .inl (cy 4, 20, .inr (.inr (.inr (.inr MA)))))] : va_W) ++ (mkPl pad ka a nm ++ pcPl cy pad PF a np)) _ := hP
  have hD : va_D A (([(ga0, .inl (cy 0, 20, .inl (gA (cpN GG (fun _ => 0) 0 20)))), (go0, .inr (3, [.ref (ga0), .ref (gb0), .ref (gc0), .int (nI (nm)), .int (nI (0))])), (gb0, .inl (cy 0, 20, .inl (nA GB))), (gc0, .inl (cy 0, 4, .inl (nA GC))), (mA, .inl (cy 4, 20, .inr (.inr (.inr (.inr MA)))))] : va_W) ++ (mkPl pad ka a nm ++ pcPl cy pad PF a np)) := hD
  have hpm := (va_perm_of (w := [(ga0, .inl (cy 0, 20, .inl (gA (cpN GG (fun _ => 0) 0 20)))), (go0, .inr (3, [.ref (ga0), .ref (gb0), .ref (gc0), .int (nI (nm)), .int (nI (0))])), (gb0, .inl (cy 0, 20, .inl (nA GB))), (gc0, .inl (cy 0, 4, .inl (nA GC))), (mA, .inl (cy 4, 20, .inr (.inr (.inr (.inr MA)))))]) (w' := [(go0, .inr (3, [.ref (ga0), .ref (gb0), .ref (gc0), .int (nI (nm)), .int (nI (0))])), (ga0, .inl (cy 0, 20, .inl (gA (cpN GG (fun _ => 0) 0 20)))), (gb0, .inl (cy 0, 20, .inl (nA GB))), (gc0, .inl (cy 0, 4, .inl (nA GC))), (mA, .inl (cy 4, 20, .inr (.inr (.inr (.inr MA)))))]) [1, 0, 2, 3, 4] (by decide) rfl rfl).append_right ((mkPl pad ka a nm ++ pcPl cy pad PF a np))
  have hP := hP.perm hpm
  have hD := hD.perm hpm
  have hP : va_P D vwCl (([(go0, .inr (3, [.ref (ga0), .ref (gb0), .ref (gc0), .int (nI (nm)), .int (nI (0))])), (ga0, .inl (cy 0, 20, .inl (gA (cpN GG (fun _ => 0) 0 20)))), (gb0, .inl (cy 0, 20, .inl (nA GB))), (gc0, .inl (cy 0, 4, .inl (nA GC))), (mA, .inl (cy 4, 20, .inr (.inr (.inr (.inr MA)))))] : va_W) ++ (mkPl pad ka a nm ++ pcPl cy pad PF a np)) _ := hP
  have hD : va_D A (([(go0, .inr (3, [.ref (ga0), .ref (gb0), .ref (gc0), .int (nI (nm)), .int (nI (0))])), (ga0, .inl (cy 0, 20, .inl (gA (cpN GG (fun _ => 0) 0 20)))), (gb0, .inl (cy 0, 20, .inl (nA GB))), (gc0, .inl (cy 0, 4, .inl (nA GC))), (mA, .inl (cy 4, 20, .inr (.inr (.inr (.inr MA)))))] : va_W) ++ (mkPl pad ka a nm ++ pcPl cy pad PF a np)) := hD
  refine lv_iconst (v := (nI (0))) hx hb dX3_sort_22 (by decide) ?_
  refine lv_istore_n (lv' := [(3, .int (nI (0))), (0, .ref (go0)), (1, .ref (mA)), (2, .int (nI (nm)))]) hx hb dX3_sort_23 rfl hl (by decide) rfl (fun ls hl => ?_)
  have lp : ∀ (i : Nat) (t : Nat) (cn : Nat) (G : Nat → Nat) (Bm : Nat → Nat), (t + i = nm) → (gInv a nm G t cn) → (cn ≤ t) → ∀ (H : Heap) (locs : List Loc) (ls : Array Slot), va_P D vwCl (([(go0, .inr (3, [.ref (ga0), .ref (gb0), .ref (gc0), .int (nI (nm)), .int (nI (cn))])), (ga0, .inl (cy 0, 20, .inl (gA G))), (gb0, .inl (cy 0, 20, .inl (nA Bm))), (gc0, .inl (cy 0, 4, .inl (nA GC))), (mA, .inl (cy 4, 20, .inr (.inr (.inr (.inr MA)))))] : va_W) ++ (mkPl pad ka a nm ++ pcPl cy pad PF a np)) H → va_D A (([(go0, .inr (3, [.ref (ga0), .ref (gb0), .ref (gc0), .int (nI (nm)), .int (nI (cn))])), (ga0, .inl (cy 0, 20, .inl (gA G))), (gb0, .inl (cy 0, 20, .inl (nA Bm))), (gc0, .inl (cy 0, 4, .inl (nA GC))), (mA, .inl (cy 4, 20, .inr (.inr (.inr (.inr MA)))))] : va_W) ++ (mkPl pad ka a nm ++ pcPl cy pad PF a np)) → va_S A s.heap H locs → lv_has ls 4 [(3, .int (nI (t))), (1, .ref (mA)), (0, .ref (go0))] → W p l e (mq_R 5 0 0 117) s m args below meth c H locs 0 0 Q (F0 m 24 ls []) := by
    intro i
    induction i with
    | zero =>
      intro t cn G Bm hk hgi hct H locs ls hP hD hS hl
      refine lv_iload_n hx hb dX3_sort_24 rfl (lv_at hl 0 rfl) ?_
      refine lv_aload_n hx hb dX3_sort_25 rfl (lv_at hl 2 rfl) ?_
      refine va_get (D := D) (ci := 3) (v := .int (nI (nm))) (C := RX3) (T := TX3) (N := 5) hx hb hts hinX3 hown hK hP 0 rfl rfl 3 (by decide) (hts (.fieldLink RX3 25 "CornDesk$Groups" "total" "I") (by decide +kernel)) (fun _ h9 => h9) rfl dX3_sort_26 ?_
      refine ln_icmp_ge (tgt := 64) hx hb dX3_sort_29 (by decide) (by omega) (by omega) (fun c1 => ?_) (fun c1 => ?_)
      · have ht0 : t = nm := by omega
        subst ht0
        exact hret _ _ _ _ _ ⟨G, Bm, cn, hgi, hct, rfl⟩ hP hD hS dX3_sort_64
      · exact absurd hk (by omega)
    | succ i ih =>
      intro t cn G Bm hk hgi hct H locs ls hP hD hS hl
      refine lv_iload_n hx hb dX3_sort_24 rfl (lv_at hl 0 rfl) ?_
      refine lv_aload_n hx hb dX3_sort_25 rfl (lv_at hl 2 rfl) ?_
      refine va_get (D := D) (ci := 3) (v := .int (nI (nm))) (C := RX3) (T := TX3) (N := 5) hx hb hts hinX3 hown hK hP 0 rfl rfl 3 (by decide) (hts (.fieldLink RX3 25 "CornDesk$Groups" "total" "I") (by decide +kernel)) (fun _ h9 => h9) rfl dX3_sort_26 ?_
      refine ln_icmp_ge (tgt := 64) hx hb dX3_sort_29 (by decide) (by omega) (by omega) (fun c1 => ?_) (fun c1 => ?_)
      · exact absurd hk (by omega)
      · have hgb := hgi.1 t (by omega)
        refine lv_aload_n hx hb dX3_sort_32 rfl (lv_at hl 2 rfl) ?_
        refine va_get (D := D) (ci := 3) (v := .ref (ga0)) (C := RX3) (T := TX3) (N := 5) hx hb hts hinX3 hown hK hP 0 rfl rfl 0 (by decide) (hts (.fieldLink RX3 9 "CornDesk$Groups" "groupOf" "[I") (by decide +kernel)) (fun _ h9 => h9) rfl dX3_sort_33 ?_
        refine lv_iload_n hx hb dX3_sort_36 rfl (lv_at hl 0 rfl) ?_
        refine ln_iald hx hb hK hP 1 0 rfl rfl (by decide) (by omega) dX3_sort_37 ?_
        refine lv_iconst (v := (-1)) hx hb dX3_sort_38 (by decide) ?_
        refine lv_icmp_ne (tgt := 58) hx hb dX3_sort_39 (by decide) (fun c2 => ?_) (fun c2 => ?_)
        · refine lv_iinc (v := (nI (t + 1))) (lv' := [(3, .int (nI (t + 1))), (1, .ref (mA)), (0, .ref (go0))]) hx hb dX3_sort_58 hl (k := 0) rfl (by rw [show (Int32.ofInt 1) = nI 1 from rfl, nI_add]) (by decide) rfl (fun ls hl => ?_)
          refine lv_goto (tgt := 24) hx hb dX3_sort_61 (by decide) ?_
          exact ih (t + 1) (cn) (G) (Bm) (by omega) (gInv_skip hgi (fun e0 => c2 ((gI_m1 (by omega)).mpr e0))) (by omega) _ _ _ hP hD hS hl
        · have hz : G t = 0 := (gI_m1 (by omega)).mp c2
          refine lv_aload_n hx hb dX3_sort_42 rfl (lv_at hl 2 rfl) ?_
          refine lv_aload_n hx hb dX3_sort_43 rfl (lv_at hl 1 rfl) ?_
          refine lv_iload_n hx hb dX3_sort_44 rfl (lv_at hl 0 rfl) ?_
          have hP : va_P D vwCl (([(go0, .inr (3, [.ref (ga0), .ref (gb0), .ref (gc0), .int (nI (nm)), .int (nI (cn))])), (ga0, .inl (cy 0, 20, .inl (gA G))), (gb0, .inl (cy 0, 20, .inl (nA Bm))), (gc0, .inl (cy 0, 4, .inl (nA GC))), (mA, .inl (cy 4, 20, .inr (.inr (.inr (.inr MA)))))] : va_W) ++ (([] : va_W) ++ (mkPl pad ka a nm ++ pcPl cy pad PF a np))) _ := hP
          have hD : va_D A (([(go0, .inr (3, [.ref (ga0), .ref (gb0), .ref (gc0), .int (nI (nm)), .int (nI (cn))])), (ga0, .inl (cy 0, 20, .inl (gA G))), (gb0, .inl (cy 0, 20, .inl (nA Bm))), (gc0, .inl (cy 0, 4, .inl (nA GC))), (mA, .inl (cy 4, 20, .inr (.inr (.inr (.inr MA)))))] : va_W) ++ (([] : va_W) ++ (mkPl pad ka a nm ++ pcPl cy pad PF a np))) := hD
          have hP := va_P.perm (w := (([(go0, .inr (3, [.ref (ga0), .ref (gb0), .ref (gc0), .int (nI (nm)), .int (nI (cn))])), (ga0, .inl (cy 0, 20, .inl (gA G))), (gb0, .inl (cy 0, 20, .inl (nA Bm))), (gc0, .inl (cy 0, 4, .inl (nA GC))), (mA, .inl (cy 4, 20, .inr (.inr (.inr (.inr MA)))))] : va_W) ++ ([] : va_W)) ++ (mkPl pad ka a nm ++ pcPl cy pad PF a np)) hP (ap_perm _ _ _)
          have hD := va_D.perm (w := (([(go0, .inr (3, [.ref (ga0), .ref (gb0), .ref (gc0), .int (nI (nm)), .int (nI (cn))])), (ga0, .inl (cy 0, 20, .inl (gA G))), (gb0, .inl (cy 0, 20, .inl (nA Bm))), (gc0, .inl (cy 0, 4, .inl (nA GC))), (mA, .inl (cy 4, 20, .inr (.inr (.inr (.inr MA)))))] : va_W) ++ ([] : va_W)) ++ (mkPl pad ka a nm ++ pcPl cy pad PF a np)) hD (ap_perm _ _ _)
          refine nq_Vv (As := [.ref (mA), .int (nI (t))]) (rest := []) (w := (([(go0, .inr (3, [.ref (ga0), .ref (gb0), .ref (gc0), .int (nI (nm)), .int (nI (cn))])), (ga0, .inl (cy 0, 20, .inl (gA G))), (gb0, .inl (cy 0, 20, .inl (nA Bm))), (gc0, .inl (cy 0, 4, .inl (nA GC))), (mA, .inl (cy 4, 20, .inr (.inr (.inr (.inr MA)))))] : va_W) ++ (mkPl pad ka a nm ++ pcPl cy pad PF a np))) (wr := []) (ci := 3) (k0 := 0) ⟨hx, hb, hml, hown, hts⟩ (qX3_gather l D cy pad PF ka a go0 ga0 gb0 gc0 nm cn G Bm GC mA MA (t) nm np (by omega) rfl (by omega) hgi hmn hMA hma hpc hnp hag) (cwV 2 hts gX3_sort_X3_gather rfl rfl rfl (by decide +kernel) ⟨Nat.le_of_ble_eq_true rfl, Nat.le_of_ble_eq_true rfl⟩) rfl rfl hP hK hD hN hS hA rfl hl.1 rfl (Nat.le_of_ble_eq_true rfl) dX3_sort_45 ⟨Nat.le_of_ble_eq_true rfl, Nat.le_of_ble_eq_true rfl⟩ (fun w1 H locs hq hP hD hS => ?_)
          obtain ⟨G_1, Bm_2, hsp, rfl⟩ := hq
          have hP := hP.perm (ap_perm _ _ _)
          have hD := hD.perm (ap_perm _ _ _)
          have hP : va_P D vwCl (([(go0, .inr (3, [.ref (ga0), .ref (gb0), .ref (gc0), .int (nI (nm)), .int (nI (cn))])), (ga0, .inl (cy 0, 20, .inl (gA G_1))), (gb0, .inl (cy 0, 20, .inl (nA Bm_2))), (gc0, .inl (cy 0, 4, .inl (nA GC))), (mA, .inl (cy 4, 20, .inr (.inr (.inr (.inr MA)))))] : va_W) ++ (mkPl pad ka a nm ++ pcPl cy pad PF a np)) _ := hP
          have hD : va_D A (([(go0, .inr (3, [.ref (ga0), .ref (gb0), .ref (gc0), .int (nI (nm)), .int (nI (cn))])), (ga0, .inl (cy 0, 20, .inl (gA G_1))), (gb0, .inl (cy 0, 20, .inl (nA Bm_2))), (gc0, .inl (cy 0, 4, .inl (nA GC))), (mA, .inl (cy 4, 20, .inr (.inr (.inr (.inr MA)))))] : va_W) ++ (mkPl pad ka a nm ++ pcPl cy pad PF a np)) := hD
          refine lv_aload_n hx hb dX3_sort_48 rfl (lv_at hl 2 rfl) ?_
          refine lv_dup hx hb dX3_sort_49 rfl ?_
          refine va_get (D := D) (ci := 3) (v := .int (nI (cn))) (C := RX3) (T := TX3) (N := 5) hx hb hts hinX3 hown hK hP 0 rfl rfl 4 (by decide) (hts (.fieldLink RX3 29 "CornDesk$Groups" "count" "I") (by decide +kernel)) (fun _ h9 => h9) rfl dX3_sort_50 ?_
          refine lv_iconst (v := (nI (1))) hx hb dX3_sort_53 (by decide) ?_
          refine ln_iadd hx hb dX3_sort_54 ?_
          refine va_put (D := D) (ci := 3) (v := .int (nI (cn + 1))) (ty := .int) (C := RX3) (T := TX3) (N := 5) hx hb hts hinX3 tyX3 tyX3_ok nmX3 hown hK hP hD hS 0 rfl rfl 4 (by decide) (hts (.fieldLink RX3 29 "CornDesk$Groups" "count" "I") (by decide +kernel)) (fun _ h9 => h9) rfl (by decide +kernel) rfl rfl (Nat.le_of_ble_eq_true rfl) dX3_sort_55 (fun H locs hP hD hS => ?_)
          have hP : va_P D vwCl (([(go0, .inr (3, [.ref (ga0), .ref (gb0), .ref (gc0), .int (nI (nm)), .int (nI (cn + 1))])), (ga0, .inl (cy 0, 20, .inl (gA G_1))), (gb0, .inl (cy 0, 20, .inl (nA Bm_2))), (gc0, .inl (cy 0, 4, .inl (nA GC))), (mA, .inl (cy 4, 20, .inr (.inr (.inr (.inr MA)))))] : va_W) ++ (mkPl pad ka a nm ++ pcPl cy pad PF a np)) _ := hP
          have hD : va_D A (([(go0, .inr (3, [.ref (ga0), .ref (gb0), .ref (gc0), .int (nI (nm)), .int (nI (cn + 1))])), (ga0, .inl (cy 0, 20, .inl (gA G_1))), (gb0, .inl (cy 0, 20, .inl (nA Bm_2))), (gc0, .inl (cy 0, 4, .inl (nA GC))), (mA, .inl (cy 4, 20, .inr (.inr (.inr (.inr MA)))))] : va_W) ++ (mkPl pad ka a nm ++ pcPl cy pad PF a np)) := hD
          refine lv_iinc (v := (nI (t + 1))) (lv' := [(3, .int (nI (t + 1))), (1, .ref (mA)), (0, .ref (go0))]) hx hb dX3_sort_58 hl (k := 0) rfl (by rw [show (Int32.ofInt 1) = nI 1 from rfl, nI_add]) (by decide) rfl (fun ls hl => ?_)
          refine lv_goto (tgt := 24) hx hb dX3_sort_61 (by decide) ?_
          exact ih (t + 1) (cn + 1) (G_1) (Bm_2) (by omega) (gInv_add hgi (by omega) hz hsp) (by omega) _ _ _ hP hD hS hl
  exact lp (nm) (0) (0) (cpN GG (fun _ => 0) 0 20) (GB) (by omega) (gInv_0 (fun j hj => cpN_i9 (by omega))) (Nat.le_refl 0) _ _ _ hP hD hS (lv_sub hl [0, 2, 1] rfl)
set_option maxHeartbeats 4000000 in
set_option maxRecDepth 100000 in
theorem qX3_groupOf (l : Launch) (D : va_G) (cy : Nat → ClassId) (go0 : Nat) (ga0 : Nat) (gb0 : Nat) (gc0 : Nat) (gt : Nat) (gn : Nat) (GG : Nat → Nat) (GB : Nat → Nat) (GC : Nat → Nat) (j : Nat) (hj : j < gt) (hgt : gt ≤ 20) : nq_i l D (cT cy) yX3_groupOf wsX3_groupOf 0 0 0 0 [.ref (go0), .int (nI (j))] ([(go0, .inr (3, [.ref (ga0), .ref (gb0), .ref (gc0), .int (nI (gt)), .int (nI (gn))])), (ga0, .inl (cy 0, 20, .inl (gA GG))), (gb0, .inl (cy 0, 20, .inl (nA GB))), (gc0, .inl (cy 0, 4, .inl (nA GC)))]) (fun r w1 => r = gI (GG j) ∧ w1 = [(go0, .inr (3, [.ref (ga0), .ref (gb0), .ref (gc0), .int (nI (gt)), .int (nI (gn))])), (ga0, .inl (cy 0, 20, .inl (gA GG))), (gb0, .inl (cy 0, 20, .inl (nA GB))), (gc0, .inl (cy 0, 4, .inl (nA GC)))]) := by
  refine nq_i_of (cc := cX3_groupOf) (maxL := 2) (by decide) rfl (Nat.le_of_ble_eq_true rfl) ?_
  intro p e s m args below meth c A Q ls hx hb hts hown hml hnm hN hA hP hK hD hS hl hret
  have hown : s.vm.findClass RX3 = some m.cls := hown
  have hinX3 : ∀ w ∈ u_ws RX3 TX3 5, w ∈ wsX3_groupOf := by decide +kernel
  have hl : lv_has ls 2 [(0, .ref (go0)), (1, .int (nI (j)))] := hl
  have hP : va_P D vwCl ([(go0, .inr (3, [.ref (ga0), .ref (gb0), .ref (gc0), .int (nI (gt)), .int (nI (gn))])), (ga0, .inl (cy 0, 20, .inl (gA GG))), (gb0, .inl (cy 0, 20, .inl (nA GB))), (gc0, .inl (cy 0, 4, .inl (nA GC)))]) s.heap := hP
  refine lv_iload_n hx hb dX3_groupOf_0 rfl (lv_at hl 1 rfl) ?_
  refine lv_if_lt (tgt := 21) hx hb dX3_groupOf_1 (by decide) (fun c1 => ?_) (fun c1 => ?_)
  · exact absurd c1 (nI_pos (by omega))
  · refine lv_iload_n hx hb dX3_groupOf_4 rfl (lv_at hl 1 rfl) ?_
    refine lv_aload_n hx hb dX3_groupOf_5 rfl (lv_at hl 0 rfl) ?_
    refine va_get (D := D) (ci := 3) (v := .int (nI (gt))) (C := RX3) (T := TX3) (N := 5) hx hb hts hinX3 hown hK hP 0 rfl rfl 3 (by decide) (hts (.fieldLink RX3 25 "CornDesk$Groups" "total" "I") (by decide +kernel)) (fun _ h9 => h9) rfl dX3_groupOf_6 ?_
    refine ln_icmp_ge (tgt := 21) hx hb dX3_groupOf_9 (by decide) (by omega) (by omega) (fun c2 => ?_) (fun c2 => ?_)
    · exact absurd c2 (by omega)
    · refine lv_aload_n hx hb dX3_groupOf_12 rfl (lv_at hl 0 rfl) ?_
      refine va_get (D := D) (ci := 3) (v := .ref (ga0)) (C := RX3) (T := TX3) (N := 5) hx hb hts hinX3 hown hK hP 0 rfl rfl 0 (by decide) (hts (.fieldLink RX3 9 "CornDesk$Groups" "groupOf" "[I") (by decide +kernel)) (fun _ h9 => h9) rfl dX3_groupOf_13 ?_
      refine lv_iload_n hx hb dX3_groupOf_16 rfl (lv_at hl 1 rfl) ?_
      refine ln_iald hx hb hK hP 1 0 rfl rfl (by decide) (by omega) dX3_groupOf_17 ?_
      refine lv_goto (tgt := 22) hx hb dX3_groupOf_18 (by decide) ?_
      exact hret _ _ _ _ _ _ ⟨rfl, rfl⟩ hP hD hS dX3_groupOf_22
set_option maxHeartbeats 4000000 in
set_option maxRecDepth 100000 in
theorem qX3_count_g (l : Launch) (D : va_G) (cy : Nat → ClassId) (go0 : Nat) (ga0 : Nat) (gb0 : Nat) (gc0 : Nat) (gt : Nat) (gn : Nat) (GG : Nat → Nat) (GB : Nat → Nat) (GC : Nat → Nat)   : nq_i l D (cT cy) yX3_count wsX3_count 0 0 0 0 [.ref (go0)] ([(go0, .inr (3, [.ref (ga0), .ref (gb0), .ref (gc0), .int (nI (gt)), .int (nI (gn))])), (ga0, .inl (cy 0, 20, .inl (gA GG))), (gb0, .inl (cy 0, 20, .inl (nA GB))), (gc0, .inl (cy 0, 4, .inl (nA GC)))]) (fun r w1 => r = nI gn ∧ w1 = [(go0, .inr (3, [.ref (ga0), .ref (gb0), .ref (gc0), .int (nI (gt)), .int (nI (gn))])), (ga0, .inl (cy 0, 20, .inl (gA GG))), (gb0, .inl (cy 0, 20, .inl (nA GB))), (gc0, .inl (cy 0, 4, .inl (nA GC)))]) := by
  refine nq_i_of (cc := cX3_count) (maxL := 1) (by decide) rfl (Nat.le_of_ble_eq_true rfl) ?_
  intro p e s m args below meth c A Q ls hx hb hts hown hml hnm hN hA hP hK hD hS hl hret
  have hown : s.vm.findClass RX3 = some m.cls := hown
  have hinX3 : ∀ w ∈ u_ws RX3 TX3 5, w ∈ wsX3_count := by decide +kernel
  have hl : lv_has ls 1 [(0, .ref (go0))] := hl
  have hP : va_P D vwCl ([(go0, .inr (3, [.ref (ga0), .ref (gb0), .ref (gc0), .int (nI (gt)), .int (nI (gn))])), (ga0, .inl (cy 0, 20, .inl (gA GG))), (gb0, .inl (cy 0, 20, .inl (nA GB))), (gc0, .inl (cy 0, 4, .inl (nA GC)))]) s.heap := hP
  refine lv_aload_n hx hb dX3_count_0 rfl (lv_at hl 0 rfl) ?_
  refine va_get (D := D) (ci := 3) (v := .int (nI (gn))) (C := RX3) (T := TX3) (N := 5) hx hb hts hinX3 hown hK hP 0 rfl rfl 4 (by decide) (hts (.fieldLink RX3 29 "CornDesk$Groups" "count" "I") (by decide +kernel)) (fun _ h9 => h9) rfl dX3_count_1 ?_
  exact hret _ _ _ _ _ _ ⟨rfl, rfl⟩ hP hD hS dX3_count_4
set_option maxHeartbeats 4000000 in
set_option maxRecDepth 100000 in
theorem qX3_has_g (l : Launch) (D : va_G) (cy : Nat → ClassId) (go0 : Nat) (ga0 : Nat) (gb0 : Nat) (gc0 : Nat) (gt : Nat) (gn : Nat) (GG : Nat → Nat) (GB : Nat → Nat) (GC : Nat → Nat) (v : Int32)  : nq_i l D (cT cy) yX3_has wsX3_has 0 0 0 0 [.ref (go0), .int (v)] ([(go0, .inr (3, [.ref (ga0), .ref (gb0), .ref (gc0), .int (nI (gt)), .int (nI (gn))])), (ga0, .inl (cy 0, 20, .inl (gA GG))), (gb0, .inl (cy 0, 20, .inl (nA GB))), (gc0, .inl (cy 0, 4, .inl (nA GC)))]) (fun r w1 => r = bI (ix gn v) ∧ w1 = [(go0, .inr (3, [.ref (ga0), .ref (gb0), .ref (gc0), .int (nI (gt)), .int (nI (gn))])), (ga0, .inl (cy 0, 20, .inl (gA GG))), (gb0, .inl (cy 0, 20, .inl (nA GB))), (gc0, .inl (cy 0, 4, .inl (nA GC)))]) := by
  refine nq_z_of (cc := cX3_has) (maxL := 2) (by decide) rfl (Nat.le_of_ble_eq_true rfl) ?_
  intro p e s m args below meth c A Q ls hx hb hts hown hml hnm hN hA hP hK hD hS hl hret
  have hown : s.vm.findClass RX3 = some m.cls := hown
  have hinX3 : ∀ w ∈ u_ws RX3 TX3 5, w ∈ wsX3_has := by decide +kernel
  have hl : lv_has ls 2 [(0, .ref (go0)), (1, .int (v))] := hl
  have hP : va_P D vwCl ([(go0, .inr (3, [.ref (ga0), .ref (gb0), .ref (gc0), .int (nI (gt)), .int (nI (gn))])), (ga0, .inl (cy 0, 20, .inl (gA GG))), (gb0, .inl (cy 0, 20, .inl (nA GB))), (gc0, .inl (cy 0, 4, .inl (nA GC)))]) s.heap := hP
  refine lv_iload_n hx hb dX3_has_0 rfl (lv_at hl 1 rfl) ?_
  refine lv_if_lt (tgt := 16) hx hb dX3_has_1 (by decide) (fun c1 => ?_) (fun c1 => ?_)
  · refine lv_iconst (v := (nI (0))) hx hb dX3_has_16 (by decide) ?_
    exact hret _ _ _ _ _ _ rfl ⟨bI_f' (fun h => absurd c1 (Int32.not_lt.mpr h.1)), rfl⟩ hP hD hS dX3_has_17
  · refine lv_iload_n hx hb dX3_has_4 rfl (lv_at hl 1 rfl) ?_
    refine lv_aload_n hx hb dX3_has_5 rfl (lv_at hl 0 rfl) ?_
    refine va_get (D := D) (ci := 3) (v := .int (nI (gn))) (C := RX3) (T := TX3) (N := 5) hx hb hts hinX3 hown hK hP 0 rfl rfl 4 (by decide) (hts (.fieldLink RX3 29 "CornDesk$Groups" "count" "I") (by decide +kernel)) (fun _ h9 => h9) rfl dX3_has_6 ?_
    refine lv_icmp_ge (tgt := 16) hx hb dX3_has_9 (by decide) (fun c2 => ?_) (fun c2 => ?_)
    · refine lv_iconst (v := (nI (0))) hx hb dX3_has_16 (by decide) ?_
      exact hret _ _ _ _ _ _ rfl ⟨bI_f' (fun h => absurd h.2 (Int32.not_lt.mpr c2)), rfl⟩ hP hD hS dX3_has_17
    · refine lv_iconst (v := (nI (1))) hx hb dX3_has_12 (by decide) ?_
      refine lv_goto (tgt := 17) hx hb dX3_has_13 (by decide) ?_
      exact hret _ _ _ _ _ _ rfl ⟨bI_t' ⟨Int32.not_lt.mp c1, Int32.not_le.mp c2⟩, rfl⟩ hP hD hS dX3_has_17
def rvJ (a G : Nat → Nat) (k i : Nat) : Nat → Nat
  | 0 => 0
  | j + 1 => rvJ a G k i j + (if i < j ∧ G i = k + 1 ∧ G j = k + 1 ∧ a (202 + 6 * i) = a (202 + 6 * j) then 1 else 0)
def rvC (a G : Nat → Nat) (k n : Nat) : Nat → Nat
  | 0 => 0
  | i + 1 => rvC a G k n i + rvJ a G k i n
theorem rvJ_0 {a G : Nat → Nat} {k i : Nat} : ∀ j, j ≤ i + 1 → rvJ a G k i j = 0
  | 0, _ => rfl
  | j + 1, h => by rw [rvJ, rvJ_0 j (by omega), if_neg (fun q => absurd q.1 (by omega))]
theorem rvJ_y {a G : Nat → Nat} {k i j : Nat} (h : i < j ∧ G i = k + 1 ∧ G j = k + 1 ∧ a (202 + 6 * i) = a (202 + 6 * j)) : rvJ a G k i (j + 1) = rvJ a G k i j + 1 := by rw [rvJ, if_pos h]
theorem rvJ_n {a G : Nat → Nat} {k i j : Nat} (h : ¬ (i < j ∧ G i = k + 1 ∧ G j = k + 1 ∧ a (202 + 6 * i) = a (202 + 6 * j))) : rvJ a G k i (j + 1) = rvJ a G k i j := by rw [rvJ, if_neg h, Nat.add_zero]
set_option maxHeartbeats 4000000 in
set_option maxRecDepth 100000 in
theorem qX3_rivalPairs (l : Launch) (D : va_G) (cy : Nat → ClassId) (pad : Nat → Nat → Nat) (PF : Nat → Nat → Nat → Nat) (ka : Nat → Nat) (a : Nat → Nat) (go0 : Nat) (ga0 : Nat) (gb0 : Nat) (gc0 : Nat) (gt : Nat) (gn : Nat) (GG : Nat → Nat) (GB : Nat → Nat) (GC : Nat → Nat) (mA : Nat) (MA : Nat → Option Nat) (k : Nat) (nm np : Nat) (hgt : gt = nm) (hk20 : k ≤ 20) (hgb : ∀ j, j < nm → GG j ≤ 21) (hmn : nm ≤ 20) (hMA : ∀ j, j < nm → MA j = some (ka j)) (hma : maR a np nm) (hpc : pcR PF a np) (hnp : np ≤ 6) : nq_i l D (cT cy) yX3_rivalPairs wsX3_rivalPairs 1 0 0 21 [.ref (go0), .ref (mA), .int (nI (k))] (([(go0, .inr (3, [.ref (ga0), .ref (gb0), .ref (gc0), .int (nI (gt)), .int (nI (gn))])), (ga0, .inl (cy 0, 20, .inl (gA GG))), (gb0, .inl (cy 0, 20, .inl (nA GB))), (gc0, .inl (cy 0, 4, .inl (nA GC))), (mA, .inl (cy 4, 20, .inr (.inr (.inr (.inr MA)))))] : va_W) ++ (mkPl pad ka a nm ++ pcPl cy pad PF a np)) (fun r w1 => r = nI (rvC a GG k nm nm) ∧ w1 = ([(go0, .inr (3, [.ref (ga0), .ref (gb0), .ref (gc0), .int (nI (gt)), .int (nI (gn))])), (ga0, .inl (cy 0, 20, .inl (gA GG))), (gb0, .inl (cy 0, 20, .inl (nA GB))), (gc0, .inl (cy 0, 4, .inl (nA GC))), (mA, .inl (cy 4, 20, .inr (.inr (.inr (.inr MA)))))] : va_W) ++ (mkPl pad ka a nm ++ pcPl cy pad PF a np)) := by
  refine nq_i_of (cc := cX3_rivalPairs) (maxL := 6) (by decide) rfl (Nat.le_of_ble_eq_true rfl) ?_
  intro p e s m args below meth c A Q ls hx hb hts hown hml hnm hN hA hP hK hD hS hl hret
  have hown : s.vm.findClass RX3 = some m.cls := hown
  have hinX3 : ∀ w ∈ u_ws RX3 TX3 5, w ∈ wsX3_rivalPairs := by decide +kernel
  have hl : lv_has ls 6 [(0, .ref (go0)), (1, .ref (mA)), (2, .int (nI (k)))] := hl
  have hP : va_P D vwCl (([(go0, .inr (3, [.ref (ga0), .ref (gb0), .ref (gc0), .int (nI (gt)), .int (nI (gn))])), (ga0, .inl (cy 0, 20, .inl (gA GG))), (gb0, .inl (cy 0, 20, .inl (nA GB))), (gc0, .inl (cy 0, 4, .inl (nA GC))), (mA, .inl (cy 4, 20, .inr (.inr (.inr (.inr MA)))))] : va_W) ++ (mkPl pad ka a nm ++ pcPl cy pad PF a np)) s.heap := hP
  refine lv_iconst (v := (nI (0))) hx hb dX3_rivalPairs_0 (by decide) ?_
  refine lv_istore_n (lv' := [(3, .int (nI (0))), (0, .ref (go0)), (1, .ref (mA)), (2, .int (nI (k)))]) hx hb dX3_rivalPairs_1 rfl hl (by decide) rfl (fun ls hl => ?_)
  refine lv_iconst (v := (nI (0))) hx hb dX3_rivalPairs_2 (by decide) ?_
  refine lv_istore (lv' := [(4, .int (nI (0))), (3, .int (nI (0))), (0, .ref (go0)), (1, .ref (mA)), (2, .int (nI (k)))]) hx hb dX3_rivalPairs_3 hl (by decide) rfl (fun ls hl => ?_)
  have lp : ∀ (i : Nat) (t : Nat), (t + i = nm) → ∀ (H : Heap) (locs : List Loc) (ls : Array Slot), va_P D vwCl (([(go0, .inr (3, [.ref (ga0), .ref (gb0), .ref (gc0), .int (nI (gt)), .int (nI (gn))])), (ga0, .inl (cy 0, 20, .inl (gA GG))), (gb0, .inl (cy 0, 20, .inl (nA GB))), (gc0, .inl (cy 0, 4, .inl (nA GC))), (mA, .inl (cy 4, 20, .inr (.inr (.inr (.inr MA)))))] : va_W) ++ (mkPl pad ka a nm ++ pcPl cy pad PF a np)) H → va_D A (([(go0, .inr (3, [.ref (ga0), .ref (gb0), .ref (gc0), .int (nI (gt)), .int (nI (gn))])), (ga0, .inl (cy 0, 20, .inl (gA GG))), (gb0, .inl (cy 0, 20, .inl (nA GB))), (gc0, .inl (cy 0, 4, .inl (nA GC))), (mA, .inl (cy 4, 20, .inr (.inr (.inr (.inr MA)))))] : va_W) ++ (mkPl pad ka a nm ++ pcPl cy pad PF a np)) → va_S A s.heap H locs → lv_has ls 6 [(4, .int (nI (t))), (3, .int (nI (rvC a GG k nm t))), (1, .ref (mA)), (2, .int (nI (k))), (0, .ref (go0))] → W p l e (mq_R 1 0 0 21) s m args below meth c H locs 0 0 Q (F0 m 5 ls []) := by
    intro i
    induction i with
    | zero =>
      intro t hk H locs ls hP hD hS hl
      refine lv_iload hx hb dX3_rivalPairs_5 (lv_at hl 0 rfl) ?_
      refine lv_aload_n hx hb dX3_rivalPairs_7 rfl (lv_at hl 4 rfl) ?_
      refine va_get (D := D) (ci := 3) (v := .int (nI (gt))) (C := RX3) (T := TX3) (N := 5) hx hb hts hinX3 hown hK hP 0 rfl rfl 3 (by decide) (hts (.fieldLink RX3 25 "CornDesk$Groups" "total" "I") (by decide +kernel)) (fun _ h9 => h9) rfl dX3_rivalPairs_8 ?_
      refine ln_icmp_ge (tgt := 80) hx hb dX3_rivalPairs_11 (by decide) (by omega) (by omega) (fun c1 => ?_) (fun c1 => ?_)
      · have ht0 : t = nm := by omega
        refine lv_iload_n hx hb dX3_rivalPairs_80 rfl (lv_at hl 1 rfl) ?_
        exact hret _ _ _ _ _ _ ⟨by rw [ht0], rfl⟩ hP hD hS dX3_rivalPairs_81
      · exact absurd hk (by omega)
    | succ i ih =>
      intro t hk H locs ls hP hD hS hl
      refine lv_iload hx hb dX3_rivalPairs_5 (lv_at hl 0 rfl) ?_
      refine lv_aload_n hx hb dX3_rivalPairs_7 rfl (lv_at hl 4 rfl) ?_
      refine va_get (D := D) (ci := 3) (v := .int (nI (gt))) (C := RX3) (T := TX3) (N := 5) hx hb hts hinX3 hown hK hP 0 rfl rfl 3 (by decide) (hts (.fieldLink RX3 25 "CornDesk$Groups" "total" "I") (by decide +kernel)) (fun _ h9 => h9) rfl dX3_rivalPairs_8 ?_
      refine ln_icmp_ge (tgt := 80) hx hb dX3_rivalPairs_11 (by decide) (by omega) (by omega) (fun c1 => ?_) (fun c1 => ?_)
      · exact absurd hk (by omega)
      · refine lv_iload hx hb dX3_rivalPairs_14 (lv_at hl 0 rfl) ?_
        refine lv_iconst (v := (nI (1))) hx hb dX3_rivalPairs_16 (by decide) ?_
        refine ln_iadd hx hb dX3_rivalPairs_17 ?_
        refine lv_istore (lv' := [(5, .int (nI (t + 1))), (4, .int (nI (t))), (3, .int (nI (rvC a GG k nm t))), (1, .ref (mA)), (2, .int (nI (k))), (0, .ref (go0))]) hx hb dX3_rivalPairs_18 hl (by decide) rfl (fun ls hl => ?_)
        have li : ∀ (i2 : Nat) (u : Nat), (u + i2 = nm) → (t < u) → ∀ (H : Heap) (locs : List Loc) (ls : Array Slot), va_P D vwCl (([(go0, .inr (3, [.ref (ga0), .ref (gb0), .ref (gc0), .int (nI (gt)), .int (nI (gn))])), (ga0, .inl (cy 0, 20, .inl (gA GG))), (gb0, .inl (cy 0, 20, .inl (nA GB))), (gc0, .inl (cy 0, 4, .inl (nA GC))), (mA, .inl (cy 4, 20, .inr (.inr (.inr (.inr MA)))))] : va_W) ++ (mkPl pad ka a nm ++ pcPl cy pad PF a np)) H → va_D A (([(go0, .inr (3, [.ref (ga0), .ref (gb0), .ref (gc0), .int (nI (gt)), .int (nI (gn))])), (ga0, .inl (cy 0, 20, .inl (gA GG))), (gb0, .inl (cy 0, 20, .inl (nA GB))), (gc0, .inl (cy 0, 4, .inl (nA GC))), (mA, .inl (cy 4, 20, .inr (.inr (.inr (.inr MA)))))] : va_W) ++ (mkPl pad ka a nm ++ pcPl cy pad PF a np)) → va_S A s.heap H locs → lv_has ls 6 [(5, .int (nI (u))), (4, .int (nI (t))), (3, .int (nI (rvC a GG k nm t + rvJ a GG k t u))), (1, .ref (mA)), (2, .int (nI (k))), (0, .ref (go0))] → W p l e (mq_R 1 0 0 21) s m args below meth c H locs 0 0 Q (F0 m 20 ls []) := by
          intro i2
          induction i2 with
          | zero =>
            intro u hk2 htu H locs ls hP hD hS hl
            refine lv_iload hx hb dX3_rivalPairs_20 (lv_at hl 0 rfl) ?_
            refine lv_aload_n hx hb dX3_rivalPairs_22 rfl (lv_at hl 5 rfl) ?_
            refine va_get (D := D) (ci := 3) (v := .int (nI (gt))) (C := RX3) (T := TX3) (N := 5) hx hb hts hinX3 hown hK hP 0 rfl rfl 3 (by decide) (hts (.fieldLink RX3 25 "CornDesk$Groups" "total" "I") (by decide +kernel)) (fun _ h9 => h9) rfl dX3_rivalPairs_23 ?_
            refine ln_icmp_ge (tgt := 74) hx hb dX3_rivalPairs_26 (by decide) (by omega) (by omega) (fun d1 => ?_) (fun d1 => ?_)
            · have hu0 : u = nm := by omega
              refine lv_iinc (v := (nI (t + 1))) (lv' := [(4, .int (nI (t + 1))), (5, .int (nI (u))), (3, .int (nI (rvC a GG k nm t + rvJ a GG k t u))), (1, .ref (mA)), (2, .int (nI (k))), (0, .ref (go0))]) hx hb dX3_rivalPairs_74 hl (k := 1) rfl (by rw [show (Int32.ofInt 1) = nI 1 from rfl, nI_add]) (by decide) rfl (fun ls hl => ?_)
              refine lv_goto (tgt := 5) hx hb dX3_rivalPairs_77 (by decide) ?_
              rw [hu0, show rvC a GG k nm t + rvJ a GG k t nm = rvC a GG k nm (t + 1) from rfl] at hl
              exact ih (t + 1) (by omega) _ _ _ hP hD hS (lv_sub hl [0, 2, 3, 4, 5] rfl)
            · exact absurd hk2 (by omega)
          | succ i2 ih2 =>
            intro u hk2 htu H locs ls hP hD hS hl
            refine lv_iload hx hb dX3_rivalPairs_20 (lv_at hl 0 rfl) ?_
            refine lv_aload_n hx hb dX3_rivalPairs_22 rfl (lv_at hl 5 rfl) ?_
            refine va_get (D := D) (ci := 3) (v := .int (nI (gt))) (C := RX3) (T := TX3) (N := 5) hx hb hts hinX3 hown hK hP 0 rfl rfl 3 (by decide) (hts (.fieldLink RX3 25 "CornDesk$Groups" "total" "I") (by decide +kernel)) (fun _ h9 => h9) rfl dX3_rivalPairs_23 ?_
            refine ln_icmp_ge (tgt := 74) hx hb dX3_rivalPairs_26 (by decide) (by omega) (by omega) (fun d1 => ?_) (fun d1 => ?_)
            · exact absurd hk2 (by omega)
            · have hgt1 := hgb t (by omega)
              have hgu1 := hgb u (by omega)
              refine lv_aload_n hx hb dX3_rivalPairs_29 rfl (lv_at hl 5 rfl) ?_
              refine va_get (D := D) (ci := 3) (v := .ref (ga0)) (C := RX3) (T := TX3) (N := 5) hx hb hts hinX3 hown hK hP 0 rfl rfl 0 (by decide) (hts (.fieldLink RX3 9 "CornDesk$Groups" "groupOf" "[I") (by decide +kernel)) (fun _ h9 => h9) rfl dX3_rivalPairs_30 ?_
              refine lv_iload hx hb dX3_rivalPairs_33 (lv_at hl 1 rfl) ?_
              refine ln_iald hx hb hK hP 1 0 rfl rfl (by decide) (by omega) dX3_rivalPairs_35 ?_
              refine lv_iload_n hx hb dX3_rivalPairs_36 rfl (lv_at hl 4 rfl) ?_
              refine lg_icmp_ne (tgt := 68) hx hb dX3_rivalPairs_37 (by decide) (by omega) (by omega) (fun d2 => ?_) (fun d2 => ?_)
              · refine lv_iinc (v := (nI (u + 1))) (lv' := [(5, .int (nI (u + 1))), (4, .int (nI (t))), (3, .int (nI (rvC a GG k nm t + rvJ a GG k t u))), (1, .ref (mA)), (2, .int (nI (k))), (0, .ref (go0))]) hx hb dX3_rivalPairs_68 hl (k := 0) rfl (by rw [show (Int32.ofInt 1) = nI 1 from rfl, nI_add]) (by decide) rfl (fun ls hl => ?_)
                refine lv_goto (tgt := 20) hx hb dX3_rivalPairs_71 (by decide) ?_
                rw [← rvJ_n (j := u) (fun q => d2 q.2.1)] at hl
                exact ih2 (u + 1) (by omega) (by omega) _ _ _ hP hD hS hl
              · refine lv_aload_n hx hb dX3_rivalPairs_40 rfl (lv_at hl 5 rfl) ?_
                refine va_get (D := D) (ci := 3) (v := .ref (ga0)) (C := RX3) (T := TX3) (N := 5) hx hb hts hinX3 hown hK hP 0 rfl rfl 0 (by decide) (hts (.fieldLink RX3 9 "CornDesk$Groups" "groupOf" "[I") (by decide +kernel)) (fun _ h9 => h9) rfl dX3_rivalPairs_41 ?_
                refine lv_iload hx hb dX3_rivalPairs_44 (lv_at hl 0 rfl) ?_
                refine ln_iald hx hb hK hP 1 0 rfl rfl (by decide) (by omega) dX3_rivalPairs_46 ?_
                refine lv_iload_n hx hb dX3_rivalPairs_47 rfl (lv_at hl 4 rfl) ?_
                refine lg_icmp_ne (tgt := 68) hx hb dX3_rivalPairs_48 (by decide) (by omega) (by omega) (fun d3 => ?_) (fun d3 => ?_)
                · refine lv_iinc (v := (nI (u + 1))) (lv' := [(5, .int (nI (u + 1))), (4, .int (nI (t))), (3, .int (nI (rvC a GG k nm t + rvJ a GG k t u))), (1, .ref (mA)), (2, .int (nI (k))), (0, .ref (go0))]) hx hb dX3_rivalPairs_68 hl (k := 0) rfl (by rw [show (Int32.ofInt 1) = nI 1 from rfl, nI_add]) (by decide) rfl (fun ls hl => ?_)
                  refine lv_goto (tgt := 20) hx hb dX3_rivalPairs_71 (by decide) ?_
                  rw [← rvJ_n (j := u) (fun q => d3 q.2.2.1)] at hl
                  exact ih2 (u + 1) (by omega) (by omega) _ _ _ hP hD hS hl
                · refine lv_aload_n hx hb dX3_rivalPairs_51 rfl (lv_at hl 3 rfl) ?_
                  refine lv_iload hx hb dX3_rivalPairs_52 (lv_at hl 1 rfl) ?_
                  refine ln_aald (v := some (ka (t))) hx hb hK hP 4 4 rfl rfl (by decide) (by omega) (hMA t (by omega)) dX3_rivalPairs_54 ?_
                  refine W.eq (g2 := F0 m 55 ls [.ref (ka (t))]) rfl ?_
                  refine lv_aload_n hx hb dX3_rivalPairs_55 rfl (lv_at hl 3 rfl) ?_
                  refine lv_iload hx hb dX3_rivalPairs_56 (lv_at hl 0 rfl) ?_
                  refine ln_aald (v := some (ka (u))) hx hb hK hP 4 4 rfl rfl (by decide) (by omega) (hMA u (by omega)) dX3_rivalPairs_58 ?_
                  refine W.eq (g2 := F0 m 59 ls [.ref (ka (u)), .ref (ka (t))]) rfl ?_
                  obtain ⟨k9, fs9, he9⟩ := mk_at cy pad PF ka a (np := np) (show t < nm by omega)
                  have hP := hP.perm (List.perm_append_comm (l₁ := ([(go0, .inr (3, [.ref (ga0), .ref (gb0), .ref (gc0), .int (nI (gt)), .int (nI (gn))])), (ga0, .inl (cy 0, 20, .inl (gA GG))), (gb0, .inl (cy 0, 20, .inl (nA GB))), (gc0, .inl (cy 0, 4, .inl (nA GC))), (mA, .inl (cy 4, 20, .inr (.inr (.inr (.inr MA)))))] : va_W)) (l₂ := (mkPl pad ka a nm ++ pcPl cy pad PF a np)))
                  have hD := hD.perm (List.perm_append_comm (l₁ := ([(go0, .inr (3, [.ref (ga0), .ref (gb0), .ref (gc0), .int (nI (gt)), .int (nI (gn))])), (ga0, .inl (cy 0, 20, .inl (gA GG))), (gb0, .inl (cy 0, 20, .inl (nA GB))), (gc0, .inl (cy 0, 4, .inl (nA GC))), (mA, .inl (cy 4, 20, .inr (.inr (.inr (.inr MA)))))] : va_W)) (l₂ := (mkPl pad ka a nm ++ pcPl cy pad PF a np)))
                  refine nq_Vi (As := [.ref (ka (u))]) (rest := []) (w := (mkPl pad ka a nm ++ pcPl cy pad PF a np)) (wr := [(go0, .inr (3, [.ref (ga0), .ref (gb0), .ref (gc0), .int (nI (gt)), .int (nI (gn))])), (ga0, .inl (cy 0, 20, .inl (gA GG))), (gb0, .inl (cy 0, 20, .inl (nA GB))), (gc0, .inl (cy 0, 4, .inl (nA GC))), (mA, .inl (cy 4, 20, .inr (.inr (.inr (.inr MA)))))]) (ci := 5) (k0 := k9) ⟨hx, hb, hml, hown, hts⟩ (qshare l D cy pad PF ka a nm np (t) (u) (by omega) (by omega) hma hpc hnp) (cwV 1 hts gX3_rivalPairs_X5_sharesPicture rfl rfl rfl (by decide +kernel) ⟨Nat.le_of_ble_eq_true rfl, Nat.le_of_ble_eq_true rfl⟩) rfl he9 hP hK hD hN hS hA rfl hl.1 rfl (Nat.le_of_ble_eq_true rfl) dX3_rivalPairs_59 ⟨Nat.le_of_ble_eq_true rfl, Nat.le_of_ble_eq_true rfl⟩ (fun r w1 H locs hq hP hD hS => ?_)
                  obtain ⟨rfl, rfl⟩ := hq
                  have hP := hP.perm List.perm_append_comm
                  have hD := hD.perm List.perm_append_comm
                  have hP : va_P D vwCl (([(go0, .inr (3, [.ref (ga0), .ref (gb0), .ref (gc0), .int (nI (gt)), .int (nI (gn))])), (ga0, .inl (cy 0, 20, .inl (gA GG))), (gb0, .inl (cy 0, 20, .inl (nA GB))), (gc0, .inl (cy 0, 4, .inl (nA GC))), (mA, .inl (cy 4, 20, .inr (.inr (.inr (.inr MA)))))] : va_W) ++ (mkPl pad ka a nm ++ pcPl cy pad PF a np)) _ := hP
                  have hD : va_D A (([(go0, .inr (3, [.ref (ga0), .ref (gb0), .ref (gc0), .int (nI (gt)), .int (nI (gn))])), (ga0, .inl (cy 0, 20, .inl (gA GG))), (gb0, .inl (cy 0, 20, .inl (nA GB))), (gc0, .inl (cy 0, 4, .inl (nA GC))), (mA, .inl (cy 4, 20, .inr (.inr (.inr (.inr MA)))))] : va_W) ++ (mkPl pad ka a nm ++ pcPl cy pad PF a np)) := hD
                  refine lb_if_eq (tgt := 68) hx hb dX3_rivalPairs_62 (by decide) (fun d4 => ?_) (fun d4 => ?_)
                  · refine lv_iinc (v := (nI (u + 1))) (lv' := [(5, .int (nI (u + 1))), (4, .int (nI (t))), (3, .int (nI (rvC a GG k nm t + rvJ a GG k t u))), (1, .ref (mA)), (2, .int (nI (k))), (0, .ref (go0))]) hx hb dX3_rivalPairs_68 hl (k := 0) rfl (by rw [show (Int32.ofInt 1) = nI 1 from rfl, nI_add]) (by decide) rfl (fun ls hl => ?_)
                    refine lv_goto (tgt := 20) hx hb dX3_rivalPairs_71 (by decide) ?_
                    rw [← rvJ_n (j := u) (fun q => d4 q.2.2.2)] at hl
                    exact ih2 (u + 1) (by omega) (by omega) _ _ _ hP hD hS hl
                  · refine lv_iinc (v := (nI (rvC a GG k nm t + rvJ a GG k t u + 1))) (lv' := [(3, .int (nI (rvC a GG k nm t + rvJ a GG k t u + 1))), (5, .int (nI (u))), (4, .int (nI (t))), (1, .ref (mA)), (2, .int (nI (k))), (0, .ref (go0))]) hx hb dX3_rivalPairs_65 hl (k := 2) rfl (by rw [show (Int32.ofInt 1) = nI 1 from rfl, nI_add]) (by decide) rfl (fun ls hl => ?_)
                    refine lv_iinc (v := (nI (u + 1))) (lv' := [(5, .int (nI (u + 1))), (3, .int (nI (rvC a GG k nm t + rvJ a GG k t u + 1))), (4, .int (nI (t))), (1, .ref (mA)), (2, .int (nI (k))), (0, .ref (go0))]) hx hb dX3_rivalPairs_68 hl (k := 1) rfl (by rw [show (Int32.ofInt 1) = nI 1 from rfl, nI_add]) (by decide) rfl (fun ls hl => ?_)
                    refine lv_goto (tgt := 20) hx hb dX3_rivalPairs_71 (by decide) ?_
                    rw [Nat.add_assoc, ← rvJ_y (j := u) ⟨by omega, d2, d3, d4⟩] at hl
                    exact ih2 (u + 1) (by omega) (by omega) _ _ _ hP hD hS (lv_sub hl [0, 2, 1, 3, 4, 5] rfl)
        rw [show rvC a GG k nm t = rvC a GG k nm t + rvJ a GG k t (t + 1) from by rw [rvJ_0 (t + 1) (Nat.le_refl _)]; rfl] at hl
        exact li (nm - (t + 1)) (t + 1) (by omega) (by omega) _ _ _ hP hD hS hl
  exact lp (nm) (0) (by omega) _ _ _ hP hD hS (lv_sub hl [0, 1, 3, 4, 2] rfl)
