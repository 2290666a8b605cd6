theorem arr_o {s : State} {args : Array Value} {C : String} (h : (Cond.arrayOver (.object C)).before args s = true) : ∃ cA : ClassId, ArrOfT s cA (.object C) ∧ va_RA s cA (.object C) := by
  obtain ⟨comp, cA, kA, h1, h2, h3, h4, h5⟩ := Cond.arrayOver_spec h
  exact ⟨cA, fun n z => ⟨(fun k q => by cases q), kA, h3, comp, h4⟩, kA, comp, h3, h4, h1, h5⟩
theorem arr_int {s : State} {args : Array Value} (h : (Cond.arrayClass .int).before args s = true) : ∃ cA : ClassId, ArrOfT s cA .int ∧ va_RA s cA .int := by
  obtain ⟨cA, kA, comp, h1, h2, h3⟩ := Cond.arrayClass_spec h
  exact ⟨cA, fun n z => ⟨(fun k q => by cases q), kA, h2, comp, h3⟩, h1⟩
theorem arr_long {s : State} {args : Array Value} (h : (Cond.arrayClass .long).before args s = true) : ∃ cA : ClassId, ArrOfT s cA .long ∧ va_RA s cA .long := by
  obtain ⟨cA, kA, comp, h1, h2, h3⟩ := Cond.arrayClass_spec h
  exact ⟨cA, fun n z => ⟨(fun k q => by cases q), kA, h2, comp, h3⟩, h1⟩
theorem arr_boolean {s : State} {args : Array Value} (h : (Cond.arrayClass .boolean).before args s = true) : ∃ cA : ClassId, ArrOfT s cA .boolean ∧ va_RA s cA .boolean := by
  obtain ⟨cA, kA, comp, h1, h2, h3⟩ := Cond.arrayClass_spec h
  exact ⟨cA, fun n z => ⟨(fun k q => by cases q), kA, h2, comp, h3⟩, h1⟩
theorem nF_in : ∀ q ∈ nF, Cond.fieldLinkNest q.1 q.2.1 q.2.2.1 q.2.2.2.1 q.2.2.2.2.1 q.2.2.2.2.2 ∈ lw_tbl := by decide +kernel
theorem nM_in : ∀ q ∈ nM, Cond.methodLinkNest q.1 q.2.1 q.2.2.1 q.2.2.2 ∈ lw_tbl := by decide +kernel
theorem nO_in : ∀ q ∈ nO, Cond.arrayOver (.object q) ∈ lw_tbl := by decide +kernel
theorem law_nst {s : State} {b : Nat} (hts : ∀ w ∈ lw_tbl, w.before #[Value.ref b] s = true) : nst s := ⟨fun q hq => va_Nw.of rfl (hts _ (nF_in q hq)), fun q hq => va_Nw.of rfl (hts _ (nM_in q hq)), fun q hq => va_AO.of (hts _ (nO_in q hq))⟩
theorem pm2 {α : Type} (F S R M : List α) : (M ++ (F ++ (S ++ R))).Perm (((F ++ S) ++ M) ++ R) := by
  have e : M ++ (F ++ (S ++ R)) = (M ++ (F ++ S)) ++ R := by simp [List.append_assoc]
  rw [e]
  exact List.Perm.append_right R List.perm_append_comm
theorem law_kn {s : State} {b : Nat} (hts : ∀ w ∈ lw_tbl, w.before #[Value.ref b] s = true) : ∃ (D : va_G) (cy : Nat → ClassId), va_K D vwCl (cT cy) s := by
  obtain ⟨c0, i0, k0⟩ := u_known (C := RX0) (T := TX0) (N := 9) (n := 9) hts inX0 (hts (.instantiable RX0 9) (by decide +kernel))
  obtain ⟨c1, i1, k1⟩ := u_known (C := RX1) (T := TX1) (N := 5) (n := 5) hts inX1 (hts (.instantiable RX1 5) (by decide +kernel))
  obtain ⟨c2, i2, k2⟩ := u_known (C := RX2) (T := TX2) (N := 3) (n := 3) hts inX2 (hts (.instantiable RX2 3) (by decide +kernel))
  obtain ⟨c3, i3, k3⟩ := u_known (C := RX3) (T := TX3) (N := 5) (n := 5) hts inX3 (hts (.instantiable RX3 5) (by decide +kernel))
  obtain ⟨c4, i4, k4⟩ := u_known (C := RX4) (T := TX4) (N := 8) (n := 8) hts inX4 (hts (.instantiable RX4 8) (by decide +kernel))
  obtain ⟨c5, i5, k5⟩ := u_known (C := RX5) (T := TX5) (N := 6) (n := 6) hts inX5 (hts (.instantiable RX5 6) (by decide +kernel))
  obtain ⟨c6, i6, k6⟩ := u_known (C := RX6) (T := TX6) (N := 3) (n := 3) hts inX6 (hts (.instantiable RX6 3) (by decide +kernel))
  obtain ⟨c7, i7, k7⟩ := u_known (C := RX7) (T := TX7) (N := 3) (n := 3) hts inX7 (hts (.instantiable RX7 3) (by decide +kernel))
  obtain ⟨c8, i8, k8⟩ := u_known (C := RX8) (T := TX8) (N := 3) (n := 3) hts inX8 (hts (.instantiable RX8 3) (by decide +kernel))
  obtain ⟨c9, i9, k9⟩ := u_known (C := RX9) (T := TX9) (N := 3) (n := 3) hts inX9 (hts (.instantiable RX9 3) (by decide +kernel))
  obtain ⟨c10, i10, k10⟩ := u_known (C := RX10) (T := TX10) (N := 2) (n := 2) hts inX10 (hts (.instantiable RX10 2) (by decide +kernel))
  obtain ⟨c11, i11, k11⟩ := u_known (C := RX11) (T := TX11) (N := 13) (n := 13) hts inX11 (hts (.instantiable RX11 13) (by decide +kernel))
  obtain ⟨c12, i12, k12⟩ := u_known (C := RX12) (T := TX12) (N := 24) (n := 24) hts inX12 (hts (.instantiable RX12 24) (by decide +kernel))
  obtain ⟨a0, A0⟩ := arr_int (hts (.arrayClass .int) (by decide +kernel))
  obtain ⟨a1, A1⟩ := arr_long (hts (.arrayClass .long) (by decide +kernel))
  obtain ⟨a2, A2⟩ := arr_boolean (hts (.arrayClass .boolean) (by decide +kernel))
  obtain ⟨a3, A3⟩ := arr_o (C := "CornDesk$Picture") (hts (.arrayOver (.object "CornDesk$Picture")) (by decide +kernel))
  obtain ⟨a4, A4⟩ := arr_o (C := "CornDesk$Mark") (hts (.arrayOver (.object "CornDesk$Mark")) (by decide +kernel))
  obtain ⟨a5, A5⟩ := arr_o (C := "CornDesk$Field") (hts (.arrayOver (.object "CornDesk$Field")) (by decide +kernel))
  obtain ⟨a6, A6⟩ := arr_o (C := "CornDesk$Sheet") (hts (.arrayOver (.object "CornDesk$Sheet")) (by decide +kernel))
  obtain ⟨a7, A7⟩ := arr_o (C := "CornDesk$Step") (hts (.arrayOver (.object "CornDesk$Step")) (by decide +kernel))
  refine ⟨(fun k => ([c0, c1, c2, c3, c4, c5, c6, c7, c8, c9, c10, c11, c12] : List ClassId).getD k c0, fun k => ([i0, i1, i2, i3, i4, i5, i6, i7, i8, i9, i10, i11, i12] : List (Nat → Nat)).getD k i0), fun k => ([a0, a1, a2, a3, a4, a5, a6, a7] : List ClassId).getD k a0, fun k q hq => ?_, fun k q hq => ?_⟩
  · match k, hq with
    | 0, hq => cases hq; exact k0
    | 1, hq => cases hq; exact k1
    | 2, hq => cases hq; exact k2
    | 3, hq => cases hq; exact k3
    | 4, hq => cases hq; exact k4
    | 5, hq => cases hq; exact k5
    | 6, hq => cases hq; exact k6
    | 7, hq => cases hq; exact k7
    | 8, hq => cases hq; exact k8
    | 9, hq => cases hq; exact k9
    | 10, hq => cases hq; exact k10
    | 11, hq => cases hq; exact k11
    | 12, hq => cases hq; exact k12
    | k + 13, hq => simp [vwCl] at hq
  · match k, hq with
    | 0, hq => cases hq; exact A0
    | 1, hq => cases hq; exact A1
    | 2, hq => cases hq; exact A2
    | 3, hq => cases hq; exact A3
    | 4, hq => cases hq; exact A4
    | 5, hq => cases hq; exact A5
    | 6, hq => cases hq; exact A6
    | 7, hq => cases hq; exact A7
    | k + 8, hq => simp [cT] at hq
