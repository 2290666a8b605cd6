theorem arr_o {s : State} {args : Array Value} {C : String} (h : (Cond.arrayOver (.object C)).before args s = true) : ∃ cA : ClassId, ArrOfT s cA (.object C) ∧ va_RA s cA (.object C) := by
  obtain ⟨comp, cA, kA, h1, h2, h3, h4, h5⟩ := Cond.arrayOver_spec h
  exact ⟨cA, fun n z => ⟨(fun k q => by cases q), kA, h3, comp, h4⟩, kA, comp, h3, h4, h1, h5⟩
theorem arr_int {s : State} {args : Array Value} (h : (Cond.arrayClass .int).before args s = true) : ∃ cA : ClassId, ArrOfT s cA .int ∧ va_RA s cA .int := by
  obtain ⟨cA, kA, comp, h1, h2, h3⟩ := Cond.arrayClass_spec h
  exact ⟨cA, fun n z => ⟨(fun k q => by cases q), kA, h2, comp, h3⟩, h1⟩
theorem arr_long {s : State} {args : Array Value} (h : (Cond.arrayClass .long).before args s = true) : ∃ cA : ClassId, ArrOfT s cA .long ∧ va_RA s cA .long := by
  obtain ⟨cA, kA, comp, h1, h2, h3⟩ := Cond.arrayClass_spec h
  exact ⟨cA, fun n z => ⟨(fun k q => by cases q), kA, h2, comp, h3⟩, h1⟩
theorem arr_boolean {s : State} {args : Array Value} (h : (Cond.arrayClass .boolean).before args s = true) : ∃ cA : ClassId, ArrOfT s cA .boolean ∧ va_RA s cA .boolean := by
  obtain ⟨cA, kA, comp, h1, h2, h3⟩ := Cond.arrayClass_spec h
  exact ⟨cA, fun n z => ⟨(fun k q => by cases q), kA, h2, comp, h3⟩, h1⟩
theorem nF_in : ∀ q ∈ nF, Cond.fieldLinkNest q.1 q.2.1 q.2.2.1 q.2.2.2.1 q.2.2.2.2.1 q.2.2.2.2.2 ∈ lw_tbl := by decide +kernel
theorem nM_in : ∀ q ∈ nM, Cond.methodLinkNest q.1 q.2.1 q.2.2.1 q.2.2.2 ∈ lw_tbl := by decide +kernel
theorem nO_in : ∀ q ∈ nO, Cond.arrayOver (.object q) ∈ lw_tbl := by decide +kernel
theorem law_nst {s : State} {b : Nat} (hts : ∀ w ∈ lw_tbl, w.before #[Value.ref b] s = true) : nst s := ⟨fun q hq => va_Nw.of rfl (hts _ (nF_in q hq)), fun q hq => va_Nw.of rfl (hts _ (nM_in q hq)), fun q hq => va_AO.of (hts _ (nO_in q hq))⟩
theorem law_ka {s : State} {b : Nat} (hts : ∀ w ∈ lw_tbl, w.before #[Value.ref b] s = true) (hgv : (Jvm.Cond.and given_1 narrow_1).before #[Value.ref b] s = true) : ka (fun q : Nat => s.heap.size ≤ q) s s.heap := by
  have hs := flat_of_before _ hgv
  have h1 : (Cond.arrayOf (.static "CornDesk" "KIND_ABOVE" "[I") .int).before #[Value.ref b] s = true := hs _ (by decide +kernel)
  have h2 : (Cond.eq (.length (.static "CornDesk" "KIND_ABOVE" "[I")) (.int 4)).before #[Value.ref b] s = true := hs _ (by decide +kernel)
  have e0 : (Cond.eq (.elem (.static "CornDesk" "KIND_ABOVE" "[I") (.int 0)) (.int (-1))).before #[Value.ref b] s = true := hs _ (by decide +kernel)
  have e1 : (Cond.eq (.elem (.static "CornDesk" "KIND_ABOVE" "[I") (.int 1)) (.int 0)).before #[Value.ref b] s = true := hs _ (by decide +kernel)
  have e2 : (Cond.eq (.elem (.static "CornDesk" "KIND_ABOVE" "[I") (.int 2)) (.int 0)).before #[Value.ref b] s = true := hs _ (by decide +kernel)
  have e3 : (Cond.eq (.elem (.static "CornDesk" "KIND_ABOVE" "[I") (.int 3)) (.int 1)).before #[Value.ref b] s = true := hs _ (by decide +kernel)
  have hA : ∀ a : Nat, a < s.heap.size → ¬ s.heap.size ≤ a := fun a h => Nat.not_le.mpr h
  obtain ⟨t, ht, hT⟩ := va_Tof (tm := .static "CornDesk" "KIND_ABOVE" "[I") (f := kaF) (N := 4) (A := fun q : Nat => s.heap.size ≤ q) (by decide) h1 (va_eqt h2) (fun j hj => by
    rcases (show j = 0 ∨ j = 1 ∨ j = 2 ∨ j = 3 by omega) with rfl | rfl | rfl | rfl
    · exact va_eqt e0
    · exact va_eqt e1
    · exact va_eqt e2
    · exact va_eqt e3) hA
  exact ⟨t, va_Zref (hts _ (by decide +kernel)) (hts _ (by decide +kernel)) ht hA, hT⟩
theorem gA_c : (fun _ => 0 : Nat → Int32) = gA (fun _ => 1) := gA_1.symm
theorem law_kn {s : State} {b : Nat} (hts : ∀ w ∈ lw_tbl, w.before #[Value.ref b] s = true) : ∃ (D : va_G) (cy : Nat → ClassId), va_K D vwCl (cT cy) s := by
  obtain ⟨c0, i0, k0⟩ := u_known (C := RX0) (T := TX0) (N := 9) (n := 9) hts inX0 (hts (.instantiable RX0 9) (by decide +kernel))
  obtain ⟨c1, i1, k1⟩ := u_known (C := RX1) (T := TX1) (N := 5) (n := 5) hts inX1 (hts (.instantiable RX1 5) (by decide +kernel))
  obtain ⟨c2, i2, k2⟩ := u_known (C := RX2) (T := TX2) (N := 3) (n := 3) hts inX2 (hts (.instantiable RX2 3) (by decide +kernel))
  obtain ⟨c3, i3, k3⟩ := u_known (C := RX3) (T := TX3) (N := 5) (n := 5) hts inX3 (hts (.instantiable RX3 5) (by decide +kernel))
  obtain ⟨c4, i4, k4⟩ := u_known (C := RX4) (T := TX4) (N := 8) (n := 8) hts inX4 (hts (.instantiable RX4 8) (by decide +kernel))
  obtain ⟨c5, i5, k5⟩ := u_known (C := RX5) (T := TX5) (N := 6) (n := 6) hts inX5 (hts (.instantiable RX5 6) (by decide +kernel))
  obtain ⟨c6, i6, k6⟩ := u_known (C := RX6) (T := TX6) (N := 3) (n := 3) hts inX6 (hts (.instantiable RX6 3) (by decide +kernel))
  obtain ⟨c7, i7, k7⟩ := u_known (C := RX7) (T := TX7) (N := 3) (n := 3) hts inX7 (hts (.instantiable RX7 3) (by decide +kernel))
  obtain ⟨c8, i8, k8⟩ := u_known (C := RX8) (T := TX8) (N := 3) (n := 3) hts inX8 (hts (.instantiable RX8 3) (by decide +kernel))
  obtain ⟨c9, i9, k9⟩ := u_known (C := RX9) (T := TX9) (N := 3) (n := 3) hts inX9 (hts (.instantiable RX9 3) (by decide +kernel))
  obtain ⟨c10, i10, k10⟩ := u_known (C := RX10) (T := TX10) (N := 2) (n := 2) hts inX10 (hts (.instantiable RX10 2) (by decide +kernel))
  obtain ⟨c11, i11, k11⟩ := u_known (C := RX11) (T := TX11) (N := 13) (n := 13) hts inX11 (hts (.instantiable RX11 13) (by decide +kernel))
  obtain ⟨c12, i12, k12⟩ := u_known (C := RX12) (T := TX12) (N := 24) (n := 24) hts inX12 (hts (.instantiable RX12 24) (by decide +kernel))
  obtain ⟨a0, A0⟩ := arr_int (hts (.arrayClass .int) (by decide +kernel))
  obtain ⟨a1, A1⟩ := arr_long (hts (.arrayClass .long) (by decide +kernel))
  obtain ⟨a2, A2⟩ := arr_boolean (hts (.arrayClass .boolean) (by decide +kernel))
  obtain ⟨a3, A3⟩ := arr_o (C := "CornDesk$Picture") (hts (.arrayOver (.object "CornDesk$Picture")) (by decide +kernel))
  obtain ⟨a4, A4⟩ := arr_o (C := "CornDesk$Mark") (hts (.arrayOver (.object "CornDesk$Mark")) (by decide +kernel))
  obtain ⟨a5, A5⟩ := arr_o (C := "CornDesk$Field") (hts (.arrayOver (.object "CornDesk$Field")) (by decide +kernel))
  obtain ⟨a6, A6⟩ := arr_o (C := "CornDesk$Sheet") (hts (.arrayOver (.object "CornDesk$Sheet")) (by decide +kernel))
  obtain ⟨a7, A7⟩ := arr_o (C := "CornDesk$Step") (hts (.arrayOver (.object "CornDesk$Step")) (by decide +kernel))
  refine ⟨(fun k => ([c0, c1, c2, c3, c4, c5, c6, c7, c8, c9, c10, c11, c12] : List ClassId).getD k c0, fun k => ([i0, i1, i2, i3, i4, i5, i6, i7, i8, i9, i10, i11, i12] : List (Nat → Nat)).getD k i0), fun k => ([a0, a1, a2, a3, a4, a5, a6, a7] : List ClassId).getD k a0, fun k q hq => ?_, fun k q hq => ?_⟩
  · match k, hq with
    | 0, hq => cases hq; exact k0
    | 1, hq => cases hq; exact k1
    | 2, hq => cases hq; exact k2
    | 3, hq => cases hq; exact k3
    | 4, hq => cases hq; exact k4
    | 5, hq => cases hq; exact k5
    | 6, hq => cases hq; exact k6
    | 7, hq => cases hq; exact k7
    | 8, hq => cases hq; exact k8
    | 9, hq => cases hq; exact k9
    | 10, hq => cases hq; exact k10
    | 11, hq => cases hq; exact k11
    | 12, hq => cases hq; exact k12
    | k + 13, hq => simp [vwCl] at hq
  · match k, hq with
    | 0, hq => cases hq; exact A0
    | 1, hq => cases hq; exact A1
    | 2, hq => cases hq; exact A2
    | 3, hq => cases hq; exact A3
    | 4, hq => cases hq; exact A4
    | 5, hq => cases hq; exact A5
    | 6, hq => cases hq; exact A6
    | 7, hq => cases hq; exact A7
    | k + 8, hq => simp [cT] at hq
set_option maxRecDepth 100000 in
theorem inv_new (cy : Nat → ClassId) (d0 pA mA go0 ga0 gb0 gc0 m0 sA rA fQ t0 up lo g0 ga ho shA pq sA0 s0 z0 s1 z1 s2 z2 s3 z3 : Nat) (sa ra : Nat → Nat) : IvD cy d0 (iniA 64) (fun _ => 0) (fun _ => 0) (fun _ => 0) (fun _ => 0) 0 0 (([(d0, .inr (11, [.ref (pA), .int (nI (0)), .ref (mA), .int (nI (0)), .ref (go0), .ref (m0), .ref (fQ), .int (nI (0)), .ref (t0), .ref (g0), .ref (shA), .ref (pq), .long (0)])), (pA, .inl (cy 3, 6, .inr (.inr (.inr (.inr (fun _ => none)))))), (mA, .inl (cy 4, 20, .inr (.inr (.inr (.inr (fun _ => none)))))), (go0, .inr (3, [.ref (ga0), .ref (gb0), .ref (gc0), .int (nI (0)), .int (nI (0))])), (ga0, .inl (cy 0, 20, .inl (fun _ => 0))), (gb0, .inl (cy 0, 20, .inl (nA (fun _ => 0)))), (gc0, .inl (cy 0, 4, .inl (nA (fun _ => 0)))), (m0, .inr (2, [.ref (sA), .int (nI (0)), .ref (rA)])), (sA, .inl (cy 0, 12, .inl (nA (fun _ => 0)))), (rA, .inl (cy 0, 7, .inl (nA (fun _ => 0)))), (fQ, .inl (cy 5, 8, .inr (.inr (.inr (.inr (fun _ => none)))))), (t0, .inr (10, [.ref (up), .ref (lo)])), (up, .inl (cy 0, 64, .inl (nA (tbF 1)))), (lo, .inl (cy 0, 64, .inl (nA (tbF 2)))), (g0, .inr (1, [.ref (ga), .ref (ho), .int (nI (0)), .long (0), .int (nI (0))])), (ga, .inl (cy 1, 8, .inr (.inl (fun _ => 0)))), (ho, .inl (cy 0, 8, .inl (nA (fun _ => 0)))), (shA, .inl (cy 6, 4, .inr (.inr (.inr (.inr (va_up (va_up (va_up (va_up (fun _ => none) (0) (some (s0))) (1) (some (s1))) (2) (some (s2))) (3) (some (s3)))))))), (pq, .inr (6, [.ref (sA0), .int (nI (0)), .int (nI (0))])), (sA0, .inl (cy 7, 20, .inr (.inr (.inr (.inr (stF sa 20)))))), (s0, .inr (8, [.ref (z0), .int (nI (0)), .int (nI (0))])), (z0, .inl (cy 0, 16, .inl (fun _ => 0))), (s1, .inr (8, [.ref (z1), .int (nI (0)), .int (nI (0))])), (z1, .inl (cy 0, 16, .inl (fun _ => 0))), (s2, .inr (8, [.ref (z2), .int (nI (0)), .int (nI (0))])), (z2, .inl (cy 0, 16, .inl (fun _ => 0))), (s3, .inr (8, [.ref (z3), .int (nI (0)), .int (nI (0))])), (z3, .inl (cy 0, 16, .inl (fun _ => 0)))] : va_W) ++ stZ cy sa ra 20) := by
  refine IvD_mk cy d0 0 0 0 0 0 0 (fun k => ([d0, pA, mA, go0, ga0, gb0, gc0, m0, sA, rA, fQ, t0, up, lo, g0, ga, ho, shA, pq, sA0] : List Nat).getD k 0) (fun _ => none) (fun _ => none) (fun _ => none) (va_up (va_up (va_up (va_up (fun _ => none) (0) (some (s0))) (1) (some (s1))) (2) (some (s2))) (3) (some (s3))) (stF sa 20) 0 0 0 0 0 0 (fun _ => 1) (fun _ => 0) (fun _ => 0) (fun _ => 0) (fun _ => 0) (tbF 1) (tbF 2) (fun _ => 0) (fun _ => 0) (fun _ => 0) (fun k => ([s0, s1, s2, s3] : List Nat).getD k 0) (fun k => ([z0, z1, z2, z3] : List Nat).getD k 0) sa ra (fun _ => 0) (fun _ => 0) (fun _ => 0) (fun _ => 0) (fun _ _ => 0) (fun _ _ => 0) (fun _ _ => 0) (fun _ _ => 0) (fun _ _ _ => 0) (fun _ _ _ => 0) [] (M := []) (P := []) (F := []) ?_ ini_0.symm ini_1.symm ini_3.symm ini_2.symm rfl rfl (by rw [ini_1]; exact List.Perm.refl _) (by rw [ini_0]; exact List.Perm.refl _) (by rw [ini_3]; exact List.Perm.refl _) ?_ ?_ ?_ ?_ ?_
  · refine pEq ?_
    rw [gA_c]
    show _ = _ ++ (_ ++ (stP cy sa ra (fun _ => 0) (fun _ => 0) (fun _ _ => 0) 20 ++ []))
    rw [List.append_nil, ← List.append_assoc]
    rfl
  · exact ⟨fun i h => absurd h (by rw [ini_0]; exact Nat.not_lt_zero i), fun i h => absurd h (by rw [ini_1]; exact Nat.not_lt_zero i), fun i h => absurd h (by rw [ini_3]; exact Nat.not_lt_zero i), fun i h => by rcases (show i = 0 ∨ i = 1 ∨ i = 2 ∨ i = 3 by omega) with rfl | rfl | rfl | rfl <;> rfl, fun i h => if_pos h⟩
  · exact ⟨fun i h => absurd h (by rw [ini_0]; exact Nat.not_lt_zero i), fun i h => absurd h (by rw [ini_2]; exact Nat.not_lt_zero i), fun i h => absurd h (by rw [ini_3]; exact Nat.not_lt_zero i), fun c hc => by rw [(ini_up 64 c hc).1, (ini_up 64 c hc).2]; exact ⟨if_pos hc, if_pos hc⟩, fun _ => Nat.zero_le _⟩
  · exact ⟨fun _ _ => rfl, fun _ _ => Nat.zero_le _, fun _ _ => Nat.zero_le _, fun _ _ => Nat.zero_le _, fun _ => Nat.zero_le _⟩
  · exact fun i hi => ⟨⟨Nat.zero_le _, Or.inl rfl⟩, fun k hk => srl_0 (Or.inl rfl)⟩
  · exact ⟨by decide, by decide, fun j hj => by rw [show j = 0 by omega]; exact ok_ini, fun j hj => absurd hj (Nat.not_lt_zero j), fun j hj => absurd hj (Nat.not_lt_zero j)⟩
