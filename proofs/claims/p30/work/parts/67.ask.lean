set_option maxHeartbeats 4000000 in
set_option maxRecDepth 100000 in
theorem ia_led (l : Launch) (D : va_G) {cy : Nat → ClassId} {d0 : Nat} {a kp bt sz : Nat → Nat} {sheets : Nat → Int32} {ke km : Nat} {w : va_W} (hI : IvD cy d0 a kp bt sz sheets ke km w) (p0 : Int32) (p1 : Int32) (p2 : Int32) (p3 : Int32) : kq_l l D (cT cy) yX11_led wsX11_led 2 0 0 56 [.ref d0, .int p0, .int p1, .int p2, .int p3] w (fun r w1 => IvD cy d0 a kp bt sz sheets ke km w1) := by
  obtain ⟨x, PA, MA, FQ, HA, SQ, gt, gn, bs, bh, fnd, bg, GG, GB, GC, SG, RO, UP, LO, HO, V0, GA, ha, za, sa, ra, AC, WH, ka, fo, RW, NU, pad, fad, PF, LF, gb, hw, hpt, hct, hax, hsh, hhs⟩ := hI
  obtain ⟨⟨b0, b1, b2, b3⟩, opl, omk, osg, ofd, osh, oz⟩ := id hhs.ok
  have hpc : pcR PF a (a 0) := fun i hi => ⟨opl i hi, hct.1 i hi⟩
  have hma : maR a (a 0) (a 1) := omk
  by_cases hx : ix (a 0) p0
  · obtain ⟨i, hi, rfl⟩ := ix_of8 hx (by omega)
    by_cases hz : p1 = 0
    · refine nk_l (qX11_led_yX l D cy  d0 (x 1) (a 0) (x 2) (a 1) (x 3) (x 7) (x 10) (a 3) (x 11) (x 14) (x 17) (x 18) fnd PA (pad 0 i) i (pad 1 i) (pad 4 i) (pad 2 i) (pad 3 i) (a (4 + i)) (PF 0 i) (PF 2 i) (pad 5 i) (pad 6 i) (PF 1 i) (PF 3 i) i p1 p2 p3 hz hi b0 (hpt.1 i hi) (opl i hi).1 (pcR_9 (j := 0) hpc hi (by decide)) (pcR_9 (j := 2) hpc hi (by decide)) (pcR_9 (j := 1) hpc hi (by decide)) (pcR_9 (j := 3) hpc hi (by decide))) (hw.trans (pm_b0P bp_0x1 (pc_get (i := i) hi))) (Nat.le_of_ble_eq_true rfl) (Nat.le_of_ble_eq_true rfl) (Nat.le_of_ble_eq_true rfl) (Nat.le_of_ble_eq_true rfl) (fun r w1 h => ⟨_, List.Perm.refl _, ?_⟩)
      rcases h with ⟨_, _, rfl⟩ | ⟨u, _, _, ⟨_, _, rfl⟩ | ⟨_, _, rfl⟩⟩
      · exact ⟨x, PA, MA, FQ, HA, SQ, gt, gn, bs, bh, _, bg, GG, GB, GC, SG, RO, UP, LO, HO, V0, GA, ha, za, sa, ra, AC, WH, ka, fo, RW, NU, pad, fad, PF, LF, gb, (pm_b0P bp_0x1 (pc_get (i := i) hi)).symm, hpt, hct, hax, hsh, hhs⟩
      · exact ⟨x, PA, MA, FQ, HA, SQ, gt, gn, bs, bh, _, bg, GG, GB, GC, SG, RO, UP, LO, HO, V0, GA, ha, za, sa, ra, AC, WH, ka, fo, RW, NU, pad, fad, PF, LF, gb, (pm_b0P bp_0x1 (pc_get (i := i) hi)).symm, hpt, hct, hax, hsh, hhs⟩
      · exact ⟨x, PA, MA, FQ, HA, SQ, gt, gn, bs, bh, _, bg, GG, GB, GC, SG, RO, UP, LO, HO, V0, GA, ha, za, sa, ra, AC, WH, ka, fo, RW, NU, pad, fad, PF, LF, gb, (pm_b0P bp_0x1 (pc_get (i := i) hi)).symm, hpt, hct, hax, hsh, hhs⟩
    · refine nk_l (qX11_led_yY l D cy  d0 (x 1) (a 0) (x 2) (a 1) (x 3) (x 7) (x 10) (a 3) (x 11) (x 14) (x 17) (x 18) fnd PA (pad 0 i) i (pad 1 i) (pad 4 i) (pad 2 i) (pad 3 i) (a (4 + i)) (PF 0 i) (PF 2 i) (pad 5 i) (pad 6 i) (PF 1 i) (PF 3 i) i p1 p2 p3 hz hi b0 (hpt.1 i hi) (opl i hi).1 (pcR_9 (j := 0) hpc hi (by decide)) (pcR_9 (j := 2) hpc hi (by decide)) (pcR_9 (j := 1) hpc hi (by decide)) (pcR_9 (j := 3) hpc hi (by decide))) (hw.trans (pm_b0P bp_0x1 (pc_get (i := i) hi))) (Nat.le_of_ble_eq_true rfl) (Nat.le_of_ble_eq_true rfl) (Nat.le_of_ble_eq_true rfl) (Nat.le_of_ble_eq_true rfl) (fun r w1 h => ⟨_, List.Perm.refl _, ?_⟩)
      rcases h with ⟨_, _, rfl⟩ | ⟨u, _, _, ⟨_, _, rfl⟩ | ⟨_, _, rfl⟩⟩
      · exact ⟨x, PA, MA, FQ, HA, SQ, gt, gn, bs, bh, _, bg, GG, GB, GC, SG, RO, UP, LO, HO, V0, GA, ha, za, sa, ra, AC, WH, ka, fo, RW, NU, pad, fad, PF, LF, gb, (pm_b0P bp_0x1 (pc_get (i := i) hi)).symm, hpt, hct, hax, hsh, hhs⟩
      · exact ⟨x, PA, MA, FQ, HA, SQ, gt, gn, bs, bh, _, bg, GG, GB, GC, SG, RO, UP, LO, HO, V0, GA, ha, za, sa, ra, AC, WH, ka, fo, RW, NU, pad, fad, PF, LF, gb, (pm_b0P bp_0x1 (pc_get (i := i) hi)).symm, hpt, hct, hax, hsh, hhs⟩
      · exact ⟨x, PA, MA, FQ, HA, SQ, gt, gn, bs, bh, _, bg, GG, GB, GC, SG, RO, UP, LO, HO, V0, GA, ha, za, sa, ra, AC, WH, ka, fo, RW, NU, pad, fad, PF, LF, gb, (pm_b0P bp_0x1 (pc_get (i := i) hi)).symm, hpt, hct, hax, hsh, hhs⟩
  · refine nk_l (qX11_led_n l D cy  d0 (x 1) (a 0) (x 2) (a 1) (x 3) (x 7) (x 10) (a 3) (x 11) (x 14) (x 17) (x 18) fnd PA p0 p1 p2 p3 hx) (hw.trans (pm_b0 bp_0x1)) (Nat.le_of_ble_eq_true rfl) (Nat.le_of_ble_eq_true rfl) (Nat.le_of_ble_eq_true rfl) (Nat.le_of_ble_eq_true rfl) (fun r w1 h => ⟨_, List.Perm.refl _, ?_⟩)
    rcases h with ⟨_, rfl⟩
    · exact ⟨x, PA, MA, FQ, HA, SQ, gt, gn, bs, bh, _, bg, GG, GB, GC, SG, RO, UP, LO, HO, V0, GA, ha, za, sa, ra, AC, WH, ka, fo, RW, NU, pad, fad, PF, LF, gb, (pm_b0 bp_0x1).symm, hpt, hct, hax, hsh, hhs⟩
set_option maxHeartbeats 4000000 in
set_option maxRecDepth 100000 in
theorem ia_miss (l : Launch) (D : va_G) {cy : Nat → ClassId} {d0 : Nat} {a kp bt sz : Nat → Nat} {sheets : Nat → Int32} {ke km : Nat} {w : va_W} (hI : IvD cy d0 a kp bt sz sheets ke km w) (p0 : Int32) (p1 : Int32) (p2 : Int32) : kq_l l D (cT cy) yX11_miss wsX11_miss 2 0 0 56 [.ref d0, .int p0, .int p1, .int p2] w (fun r w1 => IvD cy d0 a kp bt sz sheets ke km w1) := by
  obtain ⟨x, PA, MA, FQ, HA, SQ, gt, gn, bs, bh, fnd, bg, GG, GB, GC, SG, RO, UP, LO, HO, V0, GA, ha, za, sa, ra, AC, WH, ka, fo, RW, NU, pad, fad, PF, LF, gb, hw, hpt, hct, hax, hsh, hhs⟩ := hI
  obtain ⟨⟨b0, b1, b2, b3⟩, opl, omk, osg, ofd, osh, oz⟩ := id hhs.ok
  have hpc : pcR PF a (a 0) := fun i hi => ⟨opl i hi, hct.1 i hi⟩
  have hma : maR a (a 0) (a 1) := omk
  by_cases hx : ix (a 0) p0
  · obtain ⟨i, hi, rfl⟩ := ix_of8 hx (by omega)
    by_cases hz : p1 = 0
    · refine nk_l (qX11_miss_yX l D cy  d0 (x 1) (a 0) (x 2) (a 1) (x 3) (x 7) (x 10) (a 3) (x 11) (x 14) (x 17) (x 18) fnd PA (pad 0 i) i (pad 1 i) (pad 4 i) (pad 2 i) (pad 3 i) (a (4 + i)) (PF 0 i) (PF 2 i) (pad 5 i) (pad 6 i) (PF 1 i) (PF 3 i) i p1 p2 hz hi b0 (hpt.1 i hi) (opl i hi).1 (pcR_9 (j := 0) hpc hi (by decide)) (pcR_9 (j := 2) hpc hi (by decide)) (pcR_9 (j := 1) hpc hi (by decide)) (pcR_9 (j := 3) hpc hi (by decide))) (hw.trans (pm_b0P bp_0x1 (pc_get (i := i) hi))) (Nat.le_of_ble_eq_true rfl) (Nat.le_of_ble_eq_true rfl) (Nat.le_of_ble_eq_true rfl) (Nat.le_of_ble_eq_true rfl) (fun r w1 h => ⟨_, List.Perm.refl _, ?_⟩)
      rcases h with ⟨_, _, rfl⟩ | ⟨_, _, rfl⟩
      · exact ⟨x, PA, MA, FQ, HA, SQ, gt, gn, bs, bh, _, bg, GG, GB, GC, SG, RO, UP, LO, HO, V0, GA, ha, za, sa, ra, AC, WH, ka, fo, RW, NU, pad, fad, PF, LF, gb, (pm_b0P bp_0x1 (pc_get (i := i) hi)).symm, hpt, hct, hax, hsh, hhs⟩
      · exact ⟨x, PA, MA, FQ, HA, SQ, gt, gn, bs, bh, _, bg, GG, GB, GC, SG, RO, UP, LO, HO, V0, GA, ha, za, sa, ra, AC, WH, ka, fo, RW, NU, pad, fad, PF, LF, gb, (pm_b0P bp_0x1 (pc_get (i := i) hi)).symm, hpt, hct, hax, hsh, hhs⟩
    · refine nk_l (qX11_miss_yY l D cy  d0 (x 1) (a 0) (x 2) (a 1) (x 3) (x 7) (x 10) (a 3) (x 11) (x 14) (x 17) (x 18) fnd PA (pad 0 i) i (pad 1 i) (pad 4 i) (pad 2 i) (pad 3 i) (a (4 + i)) (PF 0 i) (PF 2 i) (pad 5 i) (pad 6 i) (PF 1 i) (PF 3 i) i p1 p2 hz hi b0 (hpt.1 i hi) (opl i hi).1 (pcR_9 (j := 0) hpc hi (by decide)) (pcR_9 (j := 2) hpc hi (by decide)) (pcR_9 (j := 1) hpc hi (by decide)) (pcR_9 (j := 3) hpc hi (by decide))) (hw.trans (pm_b0P bp_0x1 (pc_get (i := i) hi))) (Nat.le_of_ble_eq_true rfl) (Nat.le_of_ble_eq_true rfl) (Nat.le_of_ble_eq_true rfl) (Nat.le_of_ble_eq_true rfl) (fun r w1 h => ⟨_, List.Perm.refl _, ?_⟩)
      rcases h with ⟨_, _, rfl⟩ | ⟨_, _, rfl⟩
      · exact ⟨x, PA, MA, FQ, HA, SQ, gt, gn, bs, bh, _, bg, GG, GB, GC, SG, RO, UP, LO, HO, V0, GA, ha, za, sa, ra, AC, WH, ka, fo, RW, NU, pad, fad, PF, LF, gb, (pm_b0P bp_0x1 (pc_get (i := i) hi)).symm, hpt, hct, hax, hsh, hhs⟩
      · exact ⟨x, PA, MA, FQ, HA, SQ, gt, gn, bs, bh, _, bg, GG, GB, GC, SG, RO, UP, LO, HO, V0, GA, ha, za, sa, ra, AC, WH, ka, fo, RW, NU, pad, fad, PF, LF, gb, (pm_b0P bp_0x1 (pc_get (i := i) hi)).symm, hpt, hct, hax, hsh, hhs⟩
  · refine nk_l (qX11_miss_n l D cy  d0 (x 1) (a 0) (x 2) (a 1) (x 3) (x 7) (x 10) (a 3) (x 11) (x 14) (x 17) (x 18) fnd PA p0 p1 p2 hx) (hw.trans (pm_b0 bp_0x1)) (Nat.le_of_ble_eq_true rfl) (Nat.le_of_ble_eq_true rfl) (Nat.le_of_ble_eq_true rfl) (Nat.le_of_ble_eq_true rfl) (fun r w1 h => ⟨_, List.Perm.refl _, ?_⟩)
    rcases h with ⟨_, rfl⟩
    · exact ⟨x, PA, MA, FQ, HA, SQ, gt, gn, bs, bh, _, bg, GG, GB, GC, SG, RO, UP, LO, HO, V0, GA, ha, za, sa, ra, AC, WH, ka, fo, RW, NU, pad, fad, PF, LF, gb, (pm_b0 bp_0x1).symm, hpt, hct, hax, hsh, hhs⟩
set_option maxHeartbeats 4000000 in
set_option maxRecDepth 100000 in
theorem ia_doubt (l : Launch) (D : va_G) {cy : Nat → ClassId} {d0 : Nat} {a kp bt sz : Nat → Nat} {sheets : Nat → Int32} {ke km : Nat} {w : va_W} (hI : IvD cy d0 a kp bt sz sheets ke km w) (p0 : Int32) : kq_l l D (cT cy) yX11_doubt wsX11_doubt 2 0 0 46 [.ref d0, .int p0] w (fun r w1 => IvD cy d0 a kp bt sz sheets ke km w1) := by
  obtain ⟨x, PA, MA, FQ, HA, SQ, gt, gn, bs, bh, fnd, bg, GG, GB, GC, SG, RO, UP, LO, HO, V0, GA, ha, za, sa, ra, AC, WH, ka, fo, RW, NU, pad, fad, PF, LF, gb, hw, hpt, hct, hax, hsh, hhs⟩ := hI
  obtain ⟨⟨b0, b1, b2, b3⟩, opl, omk, osg, ofd, osh, oz⟩ := id hhs.ok
  have hpc : pcR PF a (a 0) := fun i hi => ⟨opl i hi, hct.1 i hi⟩
  have hma : maR a (a 0) (a 1) := omk
  by_cases hx : ix (a 0) p0
  · obtain ⟨i, hi, rfl⟩ := ix_of8 hx (by omega)
    refine nk_l (qX11_doubt_y l D cy  d0 (x 1) (a 0) (x 2) (a 1) (x 3) (x 7) (x 10) (a 3) (x 11) (x 14) (x 17) (x 18) fnd PA (pad 0 i) i (pad 1 i) (pad 4 i) (pad 2 i) (pad 3 i) (a (4 + i)) (PF 0 i) (PF 2 i) (pad 5 i) (pad 6 i) (PF 1 i) (PF 3 i) i hi b0 (hpt.1 i hi) (opl i hi).1 (pcR_9 (j := 0) hpc hi (by decide)) (pcR_9 (j := 2) hpc hi (by decide)) (pcR_9 (j := 1) hpc hi (by decide)) (pcR_9 (j := 3) hpc hi (by decide))) (hw.trans (pm_b0P bp_0x1 (pc_get (i := i) hi))) (Nat.le_of_ble_eq_true rfl) (Nat.le_of_ble_eq_true rfl) (Nat.le_of_ble_eq_true rfl) (Nat.le_of_ble_eq_true rfl) (fun r w1 h => ⟨_, List.Perm.refl _, ?_⟩)
    rcases h with ⟨_, _, rfl⟩ | ⟨_, _, rfl⟩
    · exact ⟨x, PA, MA, FQ, HA, SQ, gt, gn, bs, bh, _, bg, GG, GB, GC, SG, RO, UP, LO, HO, V0, GA, ha, za, sa, ra, AC, WH, ka, fo, RW, NU, pad, fad, PF, LF, gb, (pm_b0P bp_0x1 (pc_get (i := i) hi)).symm, hpt, hct, hax, hsh, hhs⟩
    · exact ⟨x, PA, MA, FQ, HA, SQ, gt, gn, bs, bh, _, bg, GG, GB, GC, SG, RO, UP, LO, HO, V0, GA, ha, za, sa, ra, AC, WH, ka, fo, RW, NU, pad, fad, PF, LF, gb, (pm_b0P bp_0x1 (pc_get (i := i) hi)).symm, hpt, hct, hax, hsh, hhs⟩
  · refine nk_l (qX11_doubt_n l D cy  d0 (x 1) (a 0) (x 2) (a 1) (x 3) (x 7) (x 10) (a 3) (x 11) (x 14) (x 17) (x 18) fnd PA p0 hx) (hw.trans (pm_b0 bp_0x1)) (Nat.le_of_ble_eq_true rfl) (Nat.le_of_ble_eq_true rfl) (Nat.le_of_ble_eq_true rfl) (Nat.le_of_ble_eq_true rfl) (fun r w1 h => ⟨_, List.Perm.refl _, ?_⟩)
    rcases h with ⟨_, rfl⟩
    · exact ⟨x, PA, MA, FQ, HA, SQ, gt, gn, bs, bh, _, bg, GG, GB, GC, SG, RO, UP, LO, HO, V0, GA, ha, za, sa, ra, AC, WH, ka, fo, RW, NU, pad, fad, PF, LF, gb, (pm_b0 bp_0x1).symm, hpt, hct, hax, hsh, hhs⟩
set_option maxHeartbeats 4000000 in
set_option maxRecDepth 100000 in
theorem ia_as (l : Launch) (D : va_G) {cy : Nat → ClassId} {d0 : Nat} {a kp bt sz : Nat → Nat} {sheets : Nat → Int32} {ke km : Nat} {w : va_W} (hI : IvD cy d0 a kp bt sz sheets ke km w) (p0 : Int32) (p1 : Int32) : kq_l l D (cT cy) yX11_as wsX11_as 3 0 0 65 [.ref d0, .int p0, .int p1] w (fun r w1 => IvD cy d0 a kp bt sz sheets ke km w1) := by
  obtain ⟨x, PA, MA, FQ, HA, SQ, gt, gn, bs, bh, fnd, bg, GG, GB, GC, SG, RO, UP, LO, HO, V0, GA, ha, za, sa, ra, AC, WH, ka, fo, RW, NU, pad, fad, PF, LF, gb, hw, hpt, hct, hax, hsh, hhs⟩ := hI
  obtain ⟨⟨b0, b1, b2, b3⟩, opl, omk, osg, ofd, osh, oz⟩ := id hhs.ok
  have hpc : pcR PF a (a 0) := fun i hi => ⟨opl i hi, hct.1 i hi⟩
  have hma : maR a (a 0) (a 1) := omk
  by_cases hx : ix (a 1) p0
  · obtain ⟨i, hi, rfl⟩ := ix_of8 hx (by omega)
    refine kk_l (qX11_as_y l D cy  d0 (x 1) (a 0) (x 2) (a 1) (x 3) (x 7) (x 10) (a 3) (x 11) (x 14) (x 17) (x 18) fnd MA (ka i) (pad 0 (a (202 + 6 * i))) (a (202 + 6 * i + 1)) (a (202 + 6 * i + 2)) (a (202 + 6 * i + 3)) (a (202 + 6 * i + 4)) (a (202 + 6 * i + 5)) i p1 hi b1 (hpt.2.1 i hi) (omk i hi).2.1) (hw.trans (pm_b0M bp_0x2 (mk_get (i := i) hi))) (Nat.le_of_ble_eq_true rfl) (Nat.le_of_ble_eq_true rfl) (Nat.le_of_ble_eq_true rfl) (Nat.le_of_ble_eq_true rfl) (fun r w1 h => ⟨_, List.Perm.refl _, ?_⟩)
    rcases h with ⟨_, _, rfl⟩ | ⟨q, _, _, ⟨_, _, rfl⟩ | ⟨_, _, rfl⟩⟩
    · exact ⟨x, PA, MA, FQ, HA, SQ, gt, gn, bs, bh, _, bg, GG, GB, GC, SG, RO, UP, LO, HO, V0, GA, ha, za, sa, ra, AC, WH, ka, fo, RW, NU, pad, fad, PF, LF, gb, (pm_b0M bp_0x2 (mk_get (i := i) hi)).symm, hpt, hct, hax, hsh, hhs⟩
    · exact ⟨x, PA, MA, FQ, HA, SQ, gt, gn, bs, bh, _, bg, GG, GB, GC, SG, RO, UP, LO, HO, V0, GA, ha, za, sa, ra, AC, WH, ka, fo, RW, NU, pad, fad, PF, LF, gb, (pm_b0M bp_0x2 (mk_get (i := i) hi)).symm, hpt, hct, hax, hsh, hhs⟩
    · exact ⟨x, PA, MA, FQ, HA, SQ, gt, gn, bs, bh, _, bg, GG, GB, GC, SG, RO, UP, LO, HO, V0, GA, ha, za, sa, ra, AC, WH, ka, fo, RW, NU, pad, fad, PF, LF, gb, (pm_b0M bp_0x2 (mk_get (i := i) hi)).symm, hpt, hct, hax, hsh, hhs⟩
  · refine nk_l (qX11_as_n l D cy  d0 (x 1) (a 0) (x 2) (a 1) (x 3) (x 7) (x 10) (a 3) (x 11) (x 14) (x 17) (x 18) fnd MA p0 p1 hx) (hw.trans (pm_b0 bp_0x2)) (Nat.le_of_ble_eq_true rfl) (Nat.le_of_ble_eq_true rfl) (Nat.le_of_ble_eq_true rfl) (Nat.le_of_ble_eq_true rfl) (fun r w1 h => ⟨_, List.Perm.refl _, ?_⟩)
    rcases h with ⟨_, rfl⟩
    · exact ⟨x, PA, MA, FQ, HA, SQ, gt, gn, bs, bh, _, bg, GG, GB, GC, SG, RO, UP, LO, HO, V0, GA, ha, za, sa, ra, AC, WH, ka, fo, RW, NU, pad, fad, PF, LF, gb, (pm_b0 bp_0x2).symm, hpt, hct, hax, hsh, hhs⟩
set_option maxHeartbeats 4000000 in
set_option maxRecDepth 100000 in
theorem ia_at (l : Launch) (D : va_G) {cy : Nat → ClassId} {d0 : Nat} {a kp bt sz : Nat → Nat} {sheets : Nat → Int32} {ke km : Nat} {w : va_W} (hI : IvD cy d0 a kp bt sz sheets ke km w) (p0 : Int32) (p1 : Int32) : kq_l l D (cT cy) yX11_at wsX11_at 3 0 0 68 [.ref d0, .int p0, .int p1] w (fun r w1 => IvD cy d0 a kp bt sz sheets ke km w1) := by
  obtain ⟨x, PA, MA, FQ, HA, SQ, gt, gn, bs, bh, fnd, bg, GG, GB, GC, SG, RO, UP, LO, HO, V0, GA, ha, za, sa, ra, AC, WH, ka, fo, RW, NU, pad, fad, PF, LF, gb, hw, hpt, hct, hax, hsh, hhs⟩ := hI
  obtain ⟨⟨b0, b1, b2, b3⟩, opl, omk, osg, ofd, osh, oz⟩ := id hhs.ok
  have hpc : pcR PF a (a 0) := fun i hi => ⟨opl i hi, hct.1 i hi⟩
  have hma : maR a (a 0) (a 1) := omk
  by_cases hx : ix (a 1) p0
  · obtain ⟨i, hi, rfl⟩ := ix_of8 hx (by omega)
    by_cases hz : p1 = 0
    · refine nk_l (qX11_at_yX l D cy  d0 (x 1) (a 0) (x 2) (a 1) (x 3) (x 7) (x 10) (a 3) (x 11) (x 14) (x 17) (x 18) fnd MA (ka i) (pad 0 (a (202 + 6 * i))) (a (202 + 6 * i + 1)) (a (202 + 6 * i + 2)) (a (202 + 6 * i + 3)) (a (202 + 6 * i + 4)) (a (202 + 6 * i + 5)) (((a (202 + 6 * i)))) (pad 1 ((a (202 + 6 * i)))) (pad 4 ((a (202 + 6 * i)))) (pad 2 ((a (202 + 6 * i)))) (pad 3 ((a (202 + 6 * i)))) (a (4 + ((a (202 + 6 * i))))) (PF 0 ((a (202 + 6 * i)))) (PF 2 ((a (202 + 6 * i)))) (pad 5 ((a (202 + 6 * i)))) (pad 6 ((a (202 + 6 * i)))) (PF 1 ((a (202 + 6 * i)))) (PF 3 ((a (202 + 6 * i)))) i p1 hz hi b1 (hpt.2.1 i hi) (opl (a (202 + 6 * i)) (omk i hi).1).1 (pcR_9 (j := 0) hpc (omk i hi).1 (by decide)) (pcR_9 (j := 2) hpc (omk i hi).1 (by decide)) (omk i hi).2.2.1) (hw.trans (pm_b0MP bp_0x2 (mk_get (i := i) hi) (pc_get (i := (a (202 + 6 * i))) (omk i hi).1))) (Nat.le_of_ble_eq_true rfl) (Nat.le_of_ble_eq_true rfl) (Nat.le_of_ble_eq_true rfl) (Nat.le_of_ble_eq_true rfl) (fun r w1 h => ⟨_, List.Perm.refl _, ?_⟩)
      rcases h with ⟨_, _, rfl⟩ | ⟨_, _, rfl⟩
      · exact ⟨x, PA, MA, FQ, HA, SQ, gt, gn, bs, bh, _, bg, GG, GB, GC, SG, RO, UP, LO, HO, V0, GA, ha, za, sa, ra, AC, WH, ka, fo, RW, NU, pad, fad, PF, LF, gb, (pm_b0MP bp_0x2 (mk_get (i := i) hi) (pc_get (i := (a (202 + 6 * i))) (omk i hi).1)).symm, hpt, hct, hax, hsh, hhs⟩
      · exact ⟨x, PA, MA, FQ, HA, SQ, gt, gn, bs, bh, _, bg, GG, GB, GC, SG, RO, UP, LO, HO, V0, GA, ha, za, sa, ra, AC, WH, ka, fo, RW, NU, pad, fad, PF, LF, gb, (pm_b0MP bp_0x2 (mk_get (i := i) hi) (pc_get (i := (a (202 + 6 * i))) (omk i hi).1)).symm, hpt, hct, hax, hsh, hhs⟩
    · refine nk_l (qX11_at_yY l D cy  d0 (x 1) (a 0) (x 2) (a 1) (x 3) (x 7) (x 10) (a 3) (x 11) (x 14) (x 17) (x 18) fnd MA (ka i) (pad 0 (a (202 + 6 * i))) (a (202 + 6 * i + 1)) (a (202 + 6 * i + 2)) (a (202 + 6 * i + 3)) (a (202 + 6 * i + 4)) (a (202 + 6 * i + 5)) (((a (202 + 6 * i)))) (pad 1 ((a (202 + 6 * i)))) (pad 4 ((a (202 + 6 * i)))) (pad 2 ((a (202 + 6 * i)))) (pad 3 ((a (202 + 6 * i)))) (a (4 + ((a (202 + 6 * i))))) (PF 0 ((a (202 + 6 * i)))) (PF 2 ((a (202 + 6 * i)))) (pad 5 ((a (202 + 6 * i)))) (pad 6 ((a (202 + 6 * i)))) (PF 1 ((a (202 + 6 * i)))) (PF 3 ((a (202 + 6 * i)))) i p1 hz hi b1 (hpt.2.1 i hi) (opl (a (202 + 6 * i)) (omk i hi).1).1 (pcR_9 (j := 1) hpc (omk i hi).1 (by decide)) (pcR_9 (j := 3) hpc (omk i hi).1 (by decide)) (omk i hi).2.2.2.1) (hw.trans (pm_b0MP bp_0x2 (mk_get (i := i) hi) (pc_get (i := (a (202 + 6 * i))) (omk i hi).1))) (Nat.le_of_ble_eq_true rfl) (Nat.le_of_ble_eq_true rfl) (Nat.le_of_ble_eq_true rfl) (Nat.le_of_ble_eq_true rfl) (fun r w1 h => ⟨_, List.Perm.refl _, ?_⟩)
      rcases h with ⟨_, _, rfl⟩ | ⟨_, _, rfl⟩
      · exact ⟨x, PA, MA, FQ, HA, SQ, gt, gn, bs, bh, _, bg, GG, GB, GC, SG, RO, UP, LO, HO, V0, GA, ha, za, sa, ra, AC, WH, ka, fo, RW, NU, pad, fad, PF, LF, gb, (pm_b0MP bp_0x2 (mk_get (i := i) hi) (pc_get (i := (a (202 + 6 * i))) (omk i hi).1)).symm, hpt, hct, hax, hsh, hhs⟩
      · exact ⟨x, PA, MA, FQ, HA, SQ, gt, gn, bs, bh, _, bg, GG, GB, GC, SG, RO, UP, LO, HO, V0, GA, ha, za, sa, ra, AC, WH, ka, fo, RW, NU, pad, fad, PF, LF, gb, (pm_b0MP bp_0x2 (mk_get (i := i) hi) (pc_get (i := (a (202 + 6 * i))) (omk i hi).1)).symm, hpt, hct, hax, hsh, hhs⟩
  · refine nk_l (qX11_at_n l D cy  d0 (x 1) (a 0) (x 2) (a 1) (x 3) (x 7) (x 10) (a 3) (x 11) (x 14) (x 17) (x 18) fnd MA p0 p1 hx) (hw.trans (pm_b0 bp_0x2)) (Nat.le_of_ble_eq_true rfl) (Nat.le_of_ble_eq_true rfl) (Nat.le_of_ble_eq_true rfl) (Nat.le_of_ble_eq_true rfl) (fun r w1 h => ⟨_, List.Perm.refl _, ?_⟩)
    rcases h with ⟨_, rfl⟩
    · exact ⟨x, PA, MA, FQ, HA, SQ, gt, gn, bs, bh, _, bg, GG, GB, GC, SG, RO, UP, LO, HO, V0, GA, ha, za, sa, ra, AC, WH, ka, fo, RW, NU, pad, fad, PF, LF, gb, (pm_b0 bp_0x2).symm, hpt, hct, hax, hsh, hhs⟩
set_option maxHeartbeats 4000000 in
set_option maxRecDepth 100000 in
theorem ia_agree (l : Launch) (D : va_G) {cy : Nat → ClassId} {d0 : Nat} {a kp bt sz : Nat → Nat} {sheets : Nat → Int32} {ke km : Nat} {w : va_W} (hI : IvD cy d0 a kp bt sz sheets ke km w) (p0 : Int32) (p1 : Int32) : kq_l l D (cT cy) yX11_agree wsX11_agree 4 0 0 91 [.ref d0, .int p0, .int p1] w (fun r w1 => IvD cy d0 a kp bt sz sheets ke km w1) := by
  obtain ⟨x, PA, MA, FQ, HA, SQ, gt, gn, bs, bh, fnd, bg, GG, GB, GC, SG, RO, UP, LO, HO, V0, GA, ha, za, sa, ra, AC, WH, ka, fo, RW, NU, pad, fad, PF, LF, gb, hw, hpt, hct, hax, hsh, hhs⟩ := hI
  obtain ⟨⟨b0, b1, b2, b3⟩, opl, omk, osg, ofd, osh, oz⟩ := id hhs.ok
  have hpc : pcR PF a (a 0) := fun i hi => ⟨opl i hi, hct.1 i hi⟩
  have hma : maR a (a 0) (a 1) := omk
  by_cases hx : ix (a 1) p0
  · obtain ⟨i, hi, rfl⟩ := ix_of8 hx (by omega)
    by_cases hy : ix (a 1) p1
    · obtain ⟨j, hj, rfl⟩ := ix_of8 hy (by omega)
      refine nk_l (qX11_agree_g l D cy pad PF ka a d0 (x 1) (a 0) (x 2) (a 1) (x 3) (x 7) (x 10) (a 3) (x 11) (x 14) (x 17) (x 18) fnd MA i j hi hj b1 hpt.2.1 hma hpc b0) (hw.trans (pm_b0MWPW bp_0x2)) (Nat.le_of_ble_eq_true rfl) (Nat.le_of_ble_eq_true rfl) (Nat.le_of_ble_eq_true rfl) (Nat.le_of_ble_eq_true rfl) (fun r w1 h => ⟨_, List.Perm.refl _, ?_⟩)
      rcases h with ⟨_, rfl⟩
      · exact ⟨x, PA, MA, FQ, HA, SQ, gt, gn, bs, bh, fnd, bg, GG, GB, GC, SG, RO, UP, LO, HO, V0, GA, ha, za, sa, ra, AC, WH, ka, fo, RW, NU, pad, fad, PF, LF, gb, (pm_b0MWPW bp_0x2).symm, hpt, hct, hax, hsh, hhs⟩
    · refine nk_l (qX11_agree_yn l D cy  d0 (x 1) (a 0) (x 2) (a 1) (x 3) (x 7) (x 10) (a 3) (x 11) (x 14) (x 17) (x 18) fnd MA i p1 b1 (ka i) hi (hpt.2.1 i hi) hy) (hw.trans (pm_b0 bp_0x2)) (Nat.le_of_ble_eq_true rfl) (Nat.le_of_ble_eq_true rfl) (Nat.le_of_ble_eq_true rfl) (Nat.le_of_ble_eq_true rfl) (fun r w1 h => ⟨_, List.Perm.refl _, ?_⟩)
      rcases h with ⟨_, rfl⟩
      · exact ⟨x, PA, MA, FQ, HA, SQ, gt, gn, bs, bh, _, bg, GG, GB, GC, SG, RO, UP, LO, HO, V0, GA, ha, za, sa, ra, AC, WH, ka, fo, RW, NU, pad, fad, PF, LF, gb, (pm_b0 bp_0x2).symm, hpt, hct, hax, hsh, hhs⟩
  · by_cases hy : ix (a 1) p1
    · obtain ⟨j, hj, rfl⟩ := ix_of8 hy (by omega)
      refine nk_l (qX11_agree_ny l D cy  d0 (x 1) (a 0) (x 2) (a 1) (x 3) (x 7) (x 10) (a 3) (x 11) (x 14) (x 17) (x 18) fnd MA p0 j b1 hx (ka j) hj (hpt.2.1 j hj)) (hw.trans (pm_b0 bp_0x2)) (Nat.le_of_ble_eq_true rfl) (Nat.le_of_ble_eq_true rfl) (Nat.le_of_ble_eq_true rfl) (Nat.le_of_ble_eq_true rfl) (fun r w1 h => ⟨_, List.Perm.refl _, ?_⟩)
      rcases h with ⟨_, rfl⟩
      · exact ⟨x, PA, MA, FQ, HA, SQ, gt, gn, bs, bh, _, bg, GG, GB, GC, SG, RO, UP, LO, HO, V0, GA, ha, za, sa, ra, AC, WH, ka, fo, RW, NU, pad, fad, PF, LF, gb, (pm_b0 bp_0x2).symm, hpt, hct, hax, hsh, hhs⟩
    · refine nk_l (qX11_agree_n l D cy  d0 (x 1) (a 0) (x 2) (a 1) (x 3) (x 7) (x 10) (a 3) (x 11) (x 14) (x 17) (x 18) fnd MA p0 p1 hx hy) (hw.trans (pm_b0 bp_0x2)) (Nat.le_of_ble_eq_true rfl) (Nat.le_of_ble_eq_true rfl) (Nat.le_of_ble_eq_true rfl) (Nat.le_of_ble_eq_true rfl) (fun r w1 h => ⟨_, List.Perm.refl _, ?_⟩)
      rcases h with ⟨_, rfl⟩
      · exact ⟨x, PA, MA, FQ, HA, SQ, gt, gn, bs, bh, _, bg, GG, GB, GC, SG, RO, UP, LO, HO, V0, GA, ha, za, sa, ra, AC, WH, ka, fo, RW, NU, pad, fad, PF, LF, gb, (pm_b0 bp_0x2).symm, hpt, hct, hax, hsh, hhs⟩
set_option maxHeartbeats 4000000 in
set_option maxRecDepth 100000 in
theorem ia_group (l : Launch) (D : va_G) {cy : Nat → ClassId} {d0 : Nat} {a kp bt sz : Nat → Nat} {sheets : Nat → Int32} {ke km : Nat} {w : va_W} (hI : IvD cy d0 a kp bt sz sheets ke km w) (p0 : Int32) : kq_l l D (cT cy) yX11_group wsX11_group 6 0 0 140 [.ref d0, .int p0] w (fun r w1 => IvD cy d0 a kp bt sz sheets ke km w1) := by
  obtain ⟨x, PA, MA, FQ, HA, SQ, gt, gn, bs, bh, fnd, bg, GG, GB, GC, SG, RO, UP, LO, HO, V0, GA, ha, za, sa, ra, AC, WH, ka, fo, RW, NU, pad, fad, PF, LF, gb, hw, hpt, hct, hax, hsh, hhs⟩ := hI
  obtain ⟨⟨b0, b1, b2, b3⟩, opl, omk, osg, ofd, osh, oz⟩ := id hhs.ok
  have hpc : pcR PF a (a 0) := fun i hi => ⟨opl i hi, hct.1 i hi⟩
  have hma : maR a (a 0) (a 1) := omk
  have hag : ∀ i j, i < a 1 → j < a 1 → (agM PF a i j ↔ agr a i j) := fun i j hi hj => ag_z hpc (omk i hi).1 (omk j hj).1
  by_cases hx : ix (a 1) p0
  · obtain ⟨i, hi, rfl⟩ := ix_of8 hx (by omega)
    refine nk_l (qX11_group_g l D cy pad PF ka a d0 (x 1) (a 0) (x 2) (a 1) (x 3) (x 7) (x 10) (a 3) (x 11) (x 14) (x 17) (x 18) fnd (x 4) (x 5) (x 6) gt gn GG GB GC MA i hi b1 hpt.2.1 hma hpc b0 hag) (hw.trans (pm_b0MWPW bp_0x3x4x5x6x2)) (Nat.le_of_ble_eq_true rfl) (Nat.le_of_ble_eq_true rfl) (Nat.le_of_ble_eq_true rfl) (Nat.le_of_ble_eq_true rfl) (fun r w1 h => ⟨_, List.Perm.refl _, ?_⟩)
    rcases h with ⟨G, Bm, c, _, _, _, rfl⟩
    · exact ⟨x, PA, MA, FQ, HA, SQ, _, _, bs, bh, fnd, bg, _, _, GC, SG, RO, UP, LO, HO, V0, GA, ha, za, sa, ra, AC, WH, ka, fo, RW, NU, pad, fad, PF, LF, gb, (pm_b0MWPW bp_0x3x4x5x6x2).symm, hpt, hct, hax, hsh, hhs⟩
  · refine nk_l (qX11_group_n l D cy  d0 (x 1) (a 0) (x 2) (a 1) (x 3) (x 7) (x 10) (a 3) (x 11) (x 14) (x 17) (x 18) fnd MA p0 hx) (hw.trans (pm_b0 bp_0x2)) (Nat.le_of_ble_eq_true rfl) (Nat.le_of_ble_eq_true rfl) (Nat.le_of_ble_eq_true rfl) (Nat.le_of_ble_eq_true rfl) (fun r w1 h => ⟨_, List.Perm.refl _, ?_⟩)
    rcases h with ⟨_, rfl⟩
    · exact ⟨x, PA, MA, FQ, HA, SQ, gt, gn, bs, bh, _, bg, GG, GB, GC, SG, RO, UP, LO, HO, V0, GA, ha, za, sa, ra, AC, WH, ka, fo, RW, NU, pad, fad, PF, LF, gb, (pm_b0 bp_0x2).symm, hpt, hct, hax, hsh, hhs⟩
set_option maxHeartbeats 4000000 in
set_option maxRecDepth 100000 in
theorem ia_groups (l : Launch) (D : va_G) {cy : Nat → ClassId} {d0 : Nat} {a kp bt sz : Nat → Nat} {sheets : Nat → Int32} {ke km : Nat} {w : va_W} (hI : IvD cy d0 a kp bt sz sheets ke km w)  : kq_l l D (cT cy) yX11_groups wsX11_groups 6 0 0 140 [.ref d0] w (fun r w1 => IvD cy d0 a kp bt sz sheets ke km w1) := by
  obtain ⟨x, PA, MA, FQ, HA, SQ, gt, gn, bs, bh, fnd, bg, GG, GB, GC, SG, RO, UP, LO, HO, V0, GA, ha, za, sa, ra, AC, WH, ka, fo, RW, NU, pad, fad, PF, LF, gb, hw, hpt, hct, hax, hsh, hhs⟩ := hI
  obtain ⟨⟨b0, b1, b2, b3⟩, opl, omk, osg, ofd, osh, oz⟩ := id hhs.ok
  have hpc : pcR PF a (a 0) := fun i hi => ⟨opl i hi, hct.1 i hi⟩
  have hma : maR a (a 0) (a 1) := omk
  have hag : ∀ i j, i < a 1 → j < a 1 → (agM PF a i j ↔ agr a i j) := fun i j hi hj => ag_z hpc (omk i hi).1 (omk j hj).1
  refine nk_l (qX11_groups_g l D cy pad PF ka a d0 (x 1) (a 0) (x 2) (a 1) (x 3) (x 7) (x 10) (a 3) (x 11) (x 14) (x 17) (x 18) fnd (x 4) (x 5) (x 6) gt gn GG GB GC MA  b1 hpt.2.1 hma hpc b0 hag) (hw.trans (pm_b0MWPW bp_0x3x4x5x6x2)) (Nat.le_of_ble_eq_true rfl) (Nat.le_of_ble_eq_true rfl) (Nat.le_of_ble_eq_true rfl) (Nat.le_of_ble_eq_true rfl) (fun r w1 h => ⟨_, List.Perm.refl _, ?_⟩)
  rcases h with ⟨G, Bm, c, _, _, _, rfl⟩
  · exact ⟨x, PA, MA, FQ, HA, SQ, _, _, bs, bh, fnd, bg, _, _, GC, SG, RO, UP, LO, HO, V0, GA, ha, za, sa, ra, AC, WH, ka, fo, RW, NU, pad, fad, PF, LF, gb, (pm_b0MWPW bp_0x3x4x5x6x2).symm, hpt, hct, hax, hsh, hhs⟩
set_option maxHeartbeats 4000000 in
set_option maxRecDepth 100000 in
theorem ia_rivals (l : Launch) (D : va_G) {cy : Nat → ClassId} {d0 : Nat} {a kp bt sz : Nat → Nat} {sheets : Nat → Int32} {ke km : Nat} {w : va_W} (hI : IvD cy d0 a kp bt sz sheets ke km w) (p0 : Int32) : kq_l l D (cT cy) yX11_rivals wsX11_rivals 6 0 0 140 [.ref d0, .int p0] w (fun r w1 => IvD cy d0 a kp bt sz sheets ke km w1) := by
  obtain ⟨x, PA, MA, FQ, HA, SQ, gt, gn, bs, bh, fnd, bg, GG, GB, GC, SG, RO, UP, LO, HO, V0, GA, ha, za, sa, ra, AC, WH, ka, fo, RW, NU, pad, fad, PF, LF, gb, hw, hpt, hct, hax, hsh, hhs⟩ := hI
  obtain ⟨⟨b0, b1, b2, b3⟩, opl, omk, osg, ofd, osh, oz⟩ := id hhs.ok
  have hpc : pcR PF a (a 0) := fun i hi => ⟨opl i hi, hct.1 i hi⟩
  have hma : maR a (a 0) (a 1) := omk
  have hag : ∀ i j, i < a 1 → j < a 1 → (agM PF a i j ↔ agr a i j) := fun i j hi hj => ag_z hpc (omk i hi).1 (omk j hj).1
  refine nk_l (qX11_rivals_g l D cy pad PF ka a d0 (x 1) (a 0) (x 2) (a 1) (x 3) (x 7) (x 10) (a 3) (x 11) (x 14) (x 17) (x 18) fnd (x 4) (x 5) (x 6) gt gn GG GB GC MA p0 b1 hpt.2.1 hma hpc b0 hag) (hw.trans (pm_b0MWPW bp_0x3x4x5x6x2)) (Nat.le_of_ble_eq_true rfl) (Nat.le_of_ble_eq_true rfl) (Nat.le_of_ble_eq_true rfl) (Nat.le_of_ble_eq_true rfl) (fun r w1 h => ⟨_, List.Perm.refl _, ?_⟩)
  rcases h with ⟨G, Bm, c, _, _, ⟨_, _, rfl⟩ | ⟨k, _, _, _, rfl⟩⟩
  · exact ⟨x, PA, MA, FQ, HA, SQ, _, _, bs, bh, _, bg, _, _, GC, SG, RO, UP, LO, HO, V0, GA, ha, za, sa, ra, AC, WH, ka, fo, RW, NU, pad, fad, PF, LF, gb, (pm_b0MWPW bp_0x3x4x5x6x2).symm, hpt, hct, hax, hsh, hhs⟩
  · exact ⟨x, PA, MA, FQ, HA, SQ, _, _, bs, bh, _, bg, _, _, GC, SG, RO, UP, LO, HO, V0, GA, ha, za, sa, ra, AC, WH, ka, fo, RW, NU, pad, fad, PF, LF, gb, (pm_b0MWPW bp_0x3x4x5x6x2).symm, hpt, hct, hax, hsh, hhs⟩
theorem exS_b {fc g ro rr : Nat → Nat} {n d : Nat} (hf : ∀ v, fc v ≤ 1000) (hg : ∀ k, k < n → g k ≤ 24) (hr : ∀ j, j < 7 → ro j ≤ 1000) (h : exS fc g ro n = (rr, d)) : ∀ j, j < 7 → rr j ≤ 1000 := by
  induction n generalizing rr d with
  | zero =>
    have e : (ro, 0) = (rr, d) := h
    cases e
    exact hr
  | succ n ih =>
    rcases hx : exS fc g ro n with ⟨r1, d1⟩
    have h1 := ih (fun k hk => hg k (by omega)) hx
    rw [exS_s hx rfl] at h
    cases h
    intro j hj
    simp only [upN]
    split
    · exact rdV_b (hg n (by omega)) (fun _ => hf _)
    · exact h1 j hj
set_option maxHeartbeats 4000000 in
set_option maxRecDepth 100000 in
theorem ia_is (l : Launch) (D : va_G) {cy : Nat → ClassId} {d0 : Nat} {a kp bt sz : Nat → Nat} {sheets : Nat → Int32} {ke km : Nat} {w : va_W} (hI : IvD cy d0 a kp bt sz sheets ke km w) (p0 : Int32) : kq_l l D (cT cy) yX11_is wsX11_is 6 0 0 140 [.ref d0, .int p0] w (fun r w1 => IvD cy d0 a kp bt sz sheets ke km w1) := by
  obtain ⟨x, PA, MA, FQ, HA, SQ, gt, gn, bs, bh, fnd, bg, GG, GB, GC, SG, RO, UP, LO, HO, V0, GA, ha, za, sa, ra, AC, WH, ka, fo, RW, NU, pad, fad, PF, LF, gb, hw, hpt, hct, hax, hsh, hhs⟩ := hI
  obtain ⟨⟨b0, b1, b2, b3⟩, opl, omk, osg, ofd, osh, oz⟩ := id hhs.ok
  have hpc : pcR PF a (a 0) := fun i hi => ⟨opl i hi, hct.1 i hi⟩
  have hma : maR a (a 0) (a 1) := omk
  have hag : ∀ i j, i < a 1 → j < a 1 → (agM PF a i j ↔ agr a i j) := fun i j hi hj => ag_z hpc (omk i hi).1 (omk j hj).1
  refine nk_l (qX11_is_g l D cy pad PF ka a d0 (x 1) (a 0) (x 2) (a 1) (x 3) (x 7) (x 10) (a 3) (x 11) (x 14) (x 17) (x 18) fnd (x 4) (x 5) (x 6) gt gn GG GB GC MA (x 8) (a 2) (x 9) SG RO p0 b1 hpt.2.1 hma hpc b0 hag hax.2.2.2.2 b2 (fun k hk => by rw [hct.2.1 k hk]; exact osg k hk) hax.2.2.2.1) (hw.trans (pm_b0MWPW bp_0x3x4x5x6x2x7x8x9)) (Nat.le_of_ble_eq_true rfl) (Nat.le_of_ble_eq_true rfl) (Nat.le_of_ble_eq_true rfl) (Nat.le_of_ble_eq_true rfl) (fun r w1 h => ⟨_, List.Perm.refl _, ?_⟩)
  rcases h with ⟨G, Bm, c, _, _, ⟨_, _, rfl⟩ | ⟨k, _, _, ⟨_, _, rfl⟩ | ⟨_, rr, d, hE, _, rfl⟩⟩⟩
  · exact ⟨x, PA, MA, FQ, HA, SQ, _, _, bs, bh, _, bg, _, _, GC, SG, RO, UP, LO, HO, V0, GA, ha, za, sa, ra, AC, WH, ka, fo, RW, NU, pad, fad, PF, LF, gb, (pm_b0MWPW bp_0x3x4x5x6x2x7x8x9).symm, hpt, hct, hax, hsh, hhs⟩
  · exact ⟨x, PA, MA, FQ, HA, SQ, _, _, bs, bh, _, bg, _, _, GC, SG, RO, UP, LO, HO, V0, GA, ha, za, sa, ra, AC, WH, ka, fo, RW, NU, pad, fad, PF, LF, gb, (pm_b0MWPW bp_0x3x4x5x6x2x7x8x9).symm, hpt, hct, hax, hsh, hhs⟩
  · exact ⟨x, PA, MA, FQ, HA, SQ, _, _, bs, bh, _, bg, _, _, _, SG, _, UP, LO, HO, V0, GA, ha, za, sa, ra, AC, WH, ka, fo, RW, NU, pad, fad, PF, LF, gb, (pm_b0MWPW bp_0x3x4x5x6x2x7x8x9).symm, hpt, hct, ⟨hax.1, hax.2.1, hax.2.2.1, exS_b (fun v => fcE_b hma b1 (cpN_b hax.2.2.2.2) _) (fun k hk => by rw [hct.2.1 k hk]; have := osg k hk; omega) hax.2.2.2.1 hE, fcE_b hma b1 (cpN_b hax.2.2.2.2)⟩, hsh, hhs⟩
set_option maxHeartbeats 4000000 in
set_option maxRecDepth 100000 in
theorem ia_wrong (l : Launch) (D : va_G) {cy : Nat → ClassId} {d0 : Nat} {a kp bt sz : Nat → Nat} {sheets : Nat → Int32} {ke km : Nat} {w : va_W} (hI : IvD cy d0 a kp bt sz sheets ke km w)  : kq_l l D (cT cy) yX11_wrong wsX11_wrong 2 0 0 43 [.ref d0] w (fun r w1 => IvD cy d0 a kp bt sz sheets ke km w1) := by
  obtain ⟨x, PA, MA, FQ, HA, SQ, gt, gn, bs, bh, fnd, bg, GG, GB, GC, SG, RO, UP, LO, HO, V0, GA, ha, za, sa, ra, AC, WH, ka, fo, RW, NU, pad, fad, PF, LF, gb, hw, hpt, hct, hax, hsh, hhs⟩ := hI
  obtain ⟨⟨b0, b1, b2, b3⟩, opl, omk, osg, ofd, osh, oz⟩ := id hhs.ok
  have hpc : pcR PF a (a 0) := fun i hi => ⟨opl i hi, hct.1 i hi⟩
  have hma : maR a (a 0) (a 1) := omk
  refine nk_l (qX11_wrong l D cy  d0 (x 1) (a 0) (x 2) (a 1) (x 3) (x 7) (x 10) (a 3) (x 11) (x 14) (x 17) (x 18) fnd (x 8) (a 2) (x 9) SG RO  b2 (fun k hk => by rw [hct.2.1 k hk]; have := osg k hk; omega)) (hw.trans (pm_b0 bp_0x7x8x9)) (Nat.le_of_ble_eq_true rfl) (Nat.le_of_ble_eq_true rfl) (Nat.le_of_ble_eq_true rfl) (Nat.le_of_ble_eq_true rfl) (fun r w1 h => ⟨_, List.Perm.refl _, ?_⟩)
  rcases h with ⟨_, rfl⟩
  · exact ⟨x, PA, MA, FQ, HA, SQ, gt, gn, bs, bh, fnd, bg, GG, GB, GC, SG, RO, UP, LO, HO, V0, GA, ha, za, sa, ra, AC, WH, ka, fo, RW, NU, pad, fad, PF, LF, gb, (pm_b0 bp_0x7x8x9).symm, hpt, hct, hax, hsh, hhs⟩
set_option maxHeartbeats 4000000 in
set_option maxRecDepth 100000 in
theorem ia_showing (l : Launch) (D : va_G) {cy : Nat → ClassId} {d0 : Nat} {a kp bt sz : Nat → Nat} {sheets : Nat → Int32} {ke km : Nat} {w : va_W} (hI : IvD cy d0 a kp bt sz sheets ke km w) (p0 : Int32) (p1 : Int32) (p2 : Int32) (p3 : Int32) : kq_l l D (cT cy) yX11_showing wsX11_showing 4 0 0 87 [.ref d0, .int p0, .int p1, .int p2, .int p3] w (fun r w1 => IvD cy d0 a kp bt sz sheets ke km w1) := by
  obtain ⟨x, PA, MA, FQ, HA, SQ, gt, gn, bs, bh, fnd, bg, GG, GB, GC, SG, RO, UP, LO, HO, V0, GA, ha, za, sa, ra, AC, WH, ka, fo, RW, NU, pad, fad, PF, LF, gb, hw, hpt, hct, hax, hsh, hhs⟩ := hI
  obtain ⟨⟨b0, b1, b2, b3⟩, opl, omk, osg, ofd, osh, oz⟩ := id hhs.ok
  have hpc : pcR PF a (a 0) := fun i hi => ⟨opl i hi, hct.1 i hi⟩
  have hma : maR a (a 0) (a 1) := omk
  refine nk_l (qX11_showing l D cy  d0 (x 1) (a 0) (x 2) (a 1) (x 3) (x 7) (x 10) (a 3) (x 11) (x 14) (x 17) (x 18) fnd (x 12) (x 13) UP LO p0 p1 p2 p3 ) (hw.trans (pm_b0 bp_0x11x12x13)) (Nat.le_of_ble_eq_true rfl) (Nat.le_of_ble_eq_true rfl) (Nat.le_of_ble_eq_true rfl) (Nat.le_of_ble_eq_true rfl) (fun r w1 h => ⟨_, List.Perm.refl _, ?_⟩)
  rcases h with ⟨_, _, rfl⟩ | ⟨so, cr, dr, _, _, rfl⟩
  · exact ⟨x, PA, MA, FQ, HA, SQ, gt, gn, bs, bh, _, bg, GG, GB, GC, SG, RO, UP, LO, HO, V0, GA, ha, za, sa, ra, AC, WH, ka, fo, RW, NU, pad, fad, PF, LF, gb, (pm_b0 bp_0x11x12x13).symm, hpt, hct, hax, hsh, hhs⟩
  · exact ⟨x, PA, MA, FQ, HA, SQ, gt, gn, bs, bh, _, bg, GG, GB, GC, SG, RO, UP, LO, HO, V0, GA, ha, za, sa, ra, AC, WH, ka, fo, RW, NU, pad, fad, PF, LF, gb, (pm_b0 bp_0x11x12x13).symm, hpt, hct, hax, hsh, hhs⟩
set_option maxHeartbeats 4000000 in
set_option maxRecDepth 100000 in
theorem ia_all (l : Launch) (D : va_G) {cy : Nat → ClassId} {d0 : Nat} {a kp bt sz : Nat → Nat} {sheets : Nat → Int32} {ke km : Nat} {w : va_W} (hI : IvD cy d0 a kp bt sz sheets ke km w) (p0 : Int32) : kq_l l D (cT cy) yX11_all wsX11_all 1 0 0 22 [.ref d0, .int p0] w (fun r w1 => IvD cy d0 a kp bt sz sheets ke km w1) := by
  obtain ⟨x, PA, MA, FQ, HA, SQ, gt, gn, bs, bh, fnd, bg, GG, GB, GC, SG, RO, UP, LO, HO, V0, GA, ha, za, sa, ra, AC, WH, ka, fo, RW, NU, pad, fad, PF, LF, gb, hw, hpt, hct, hax, hsh, hhs⟩ := hI
  obtain ⟨⟨b0, b1, b2, b3⟩, opl, omk, osg, ofd, osh, oz⟩ := id hhs.ok
  have hpc : pcR PF a (a 0) := fun i hi => ⟨opl i hi, hct.1 i hi⟩
  have hma : maR a (a 0) (a 1) := omk
  refine nk_l (qX11_all l D cy  d0 (x 1) (a 0) (x 2) (a 1) (x 3) (x 7) (x 10) (a 3) (x 11) (x 14) (x 17) (x 18) fnd (x 8) (a 2) (x 9) SG RO p0 ) (hw.trans (pm_b0 bp_0x7x8x9)) (Nat.le_of_ble_eq_true rfl) (Nat.le_of_ble_eq_true rfl) (Nat.le_of_ble_eq_true rfl) (Nat.le_of_ble_eq_true rfl) (fun r w1 h => ⟨_, List.Perm.refl _, ?_⟩)
  rcases h with ⟨_, _, rfl⟩ | ⟨k, _, _, _, rfl⟩
  · exact ⟨x, PA, MA, FQ, HA, SQ, gt, gn, bs, bh, _, bg, GG, GB, GC, SG, RO, UP, LO, HO, V0, GA, ha, za, sa, ra, AC, WH, ka, fo, RW, NU, pad, fad, PF, LF, gb, (pm_b0 bp_0x7x8x9).symm, hpt, hct, hax, hsh, hhs⟩
  · exact ⟨x, PA, MA, FQ, HA, SQ, gt, gn, bs, bh, _, bg, GG, GB, GC, SG, RO, UP, LO, HO, V0, GA, ha, za, sa, ra, AC, WH, ka, fo, RW, NU, pad, fad, PF, LF, gb, (pm_b0 bp_0x7x8x9).symm, hpt, hct, hax, hsh, hhs⟩
theorem lk_ok {a : Nat → Nat} {LF : Nat → Nat → Nat → Nat} {i : Nat} (hf : fdOk a i) (h : ∀ k, k < a (334 + 5 * i + 4) → ∀ j, j < 3 → LF j i k = a (374 + 12 * i + 3 * k + j)) : lkOk (a (334 + 5 * i + 4)) (LF 0 i) (LF 1 i) (LF 2 i) := fun k hk => by
  obtain ⟨q1, q2, q3⟩ := hf.2.2.2.2.2 k hk
  rw [h k hk 0 (by decide), h k hk 1 (by decide), h k hk 2 (by decide)]
  exact ⟨q1, q2, q3⟩
theorem tb_ok {a UP LO : Nat → Nat} (hok : okA a) (h : ∀ c, c < 64 → UP c = a (470 + 2 * c) ∧ LO c = a (470 + 2 * c + 1)) : ∀ c, c < 64 → 1 ≤ UP c ∧ UP c < LO c ∧ LO c ≤ 34 := fun c hc => by
  rw [(h c hc).1, (h c hc).2]
  exact okA_sh hok hc
theorem bu_b {ch so : Nat} {CR DR U L' : Nat → Nat} {lk : Nat} {SN : Nat → Nat} (hs : so ≤ 3) (hk : lkOk lk CR DR SN) (hch : 1 ≤ ch ∧ ch ≤ 99) (ht : ∀ c, c < 64 → 1 ≤ U c ∧ U c < L' c ∧ L' c ≤ 34) : ∀ k, k ≤ lk → buU ch so CR DR U L' k ≤ 99 * 34 ^ k ∧ buN ch so CR DR L' k ≤ 99 * 34 ^ k ∧ 0 < buN ch so CR DR L' k
  | 0, _ => by
    show ch ≤ _ ∧ 100 - ch ≤ _ ∧ 0 < 100 - ch
    omega
  | k + 1, h => by
    obtain ⟨h1, h2, h3⟩ := bu_b (U := U) hs hk hch ht k (by omega)
    obtain ⟨t1, t2, t3⟩ := ht _ (fcC_lt hs hk (show k < lk by omega))
    rw [buU, buN]
    refine ⟨?_, ?_, Nat.mul_pos h3 (by omega)⟩
    · rw [Nat.pow_succ, ← Nat.mul_assoc]
      exact Nat.mul_le_mul h1 (by omega)
    · rw [Nat.pow_succ, ← Nat.mul_assoc]
      exact Nat.mul_le_mul h2 t3
theorem p34 {k : Nat} (h : k ≤ 4) : 99 * 34 ^ k < 2 ^ 49 := Nat.lt_of_le_of_lt (Nat.mul_le_mul_left 99 (Nat.pow_le_pow_right (by decide) h)) (by decide)
set_option maxHeartbeats 4000000 in
set_option maxRecDepth 100000 in
theorem ia_belief (l : Launch) (D : va_G) {cy : Nat → ClassId} {d0 : Nat} {a kp bt sz : Nat → Nat} {sheets : Nat → Int32} {ke km : Nat} {w : va_W} (hI : IvD cy d0 a kp bt sz sheets ke km w) (p0 : Int32) (p1 : Int32) : kq_l l D (cT cy) yX11_belief wsX11_belief 5 0 0 120 [.ref d0, .int p0, .int p1] w (fun r w1 => IvD cy d0 a kp bt sz sheets ke km w1) := by
  obtain ⟨x, PA, MA, FQ, HA, SQ, gt, gn, bs, bh, fnd, bg, GG, GB, GC, SG, RO, UP, LO, HO, V0, GA, ha, za, sa, ra, AC, WH, ka, fo, RW, NU, pad, fad, PF, LF, gb, hw, hpt, hct, hax, hsh, hhs⟩ := hI
  obtain ⟨⟨b0, b1, b2, b3⟩, opl, omk, osg, ofd, osh, oz⟩ := id hhs.ok
  have hpc : pcR PF a (a 0) := fun i hi => ⟨opl i hi, hct.1 i hi⟩
  have hma : maR a (a 0) (a 1) := omk
  by_cases hx : ix (a 3) p0
  · obtain ⟨i, hi, rfl⟩ := ix_of8 hx (by omega)
    obtain ⟨f1, f2, f3, f4, f5, f6⟩ := id (ofd i hi)
    have hlk := lk_ok (ofd i hi) (hct.2.2.1 i hi)
    have htb := tb_ok hhs.ok hct.2.2.2.1
    obtain ⟨u1, u2, u3⟩ := bu_b (SN := LF 2 i) f1 hlk f2 htb _ (Nat.le_refl _)
    have u4 := p34 f5
    refine nk_l (qX11_belief_y l D cy  d0 (x 1) (a 0) (x 2) (a 1) (x 3) (x 7) (x 10) (a 3) (x 11) (x 14) (x 17) (x 18) fnd FQ (fad 0 i) (a (334 + 5 * i)) (a (334 + 5 * i + 1)) (a (334 + 5 * i + 2)) (fad 1 i) (fad 2 i) (fad 3 i) (a (334 + 5 * i + 4)) (a (334 + 5 * i + 3)) (fo i) (LF 0 i) (LF 1 i) (LF 2 i) (x 12) (x 13) UP LO i p1 hi b3 (hpt.2.2.1 i hi) f5 hlk f1 f2 (fun c hc => ⟨(htb c hc).1, (htb c hc).2.1, Nat.le_trans (htb c hc).2.2 (by decide)⟩) (Nat.lt_of_le_of_lt u1 u4) (Nat.lt_of_le_of_lt u2 u4) u3) (hw.trans (pm_b0Fb1 bp_0x10_11x12x13 (fl_get (i := i) hi))) (Nat.le_of_ble_eq_true rfl) (Nat.le_of_ble_eq_true rfl) (Nat.le_of_ble_eq_true rfl) (Nat.le_of_ble_eq_true rfl) (fun r w1 h => ⟨_, List.Perm.refl _, ?_⟩)
    rcases h with ⟨_, rfl⟩
    · exact ⟨x, PA, MA, FQ, HA, SQ, gt, gn, bs, bh, fnd, bg, GG, GB, GC, SG, RO, UP, LO, HO, V0, GA, ha, za, sa, ra, AC, WH, ka, fo, RW, NU, pad, fad, PF, LF, gb, (pm_b0Fb1 bp_0x10_11x12x13 (fl_get (i := i) hi)).symm, hpt, hct, hax, hsh, hhs⟩
  · refine nk_l (qX11_belief_n l D cy  d0 (x 1) (a 0) (x 2) (a 1) (x 3) (x 7) (x 10) (a 3) (x 11) (x 14) (x 17) (x 18) fnd FQ p0 p1 hx) (hw.trans (pm_b0 bp_0x10)) (Nat.le_of_ble_eq_true rfl) (Nat.le_of_ble_eq_true rfl) (Nat.le_of_ble_eq_true rfl) (Nat.le_of_ble_eq_true rfl) (fun r w1 h => ⟨_, List.Perm.refl _, ?_⟩)
    rcases h with ⟨_, rfl⟩
    · exact ⟨x, PA, MA, FQ, HA, SQ, gt, gn, bs, bh, _, bg, GG, GB, GC, SG, RO, UP, LO, HO, V0, GA, ha, za, sa, ra, AC, WH, ka, fo, RW, NU, pad, fad, PF, LF, gb, (pm_b0 bp_0x10).symm, hpt, hct, hax, hsh, hhs⟩
theorem wf_hax {GA : Nat → Int64} {V0 HO RO GC V H : Nat → Nat} {n : Nat} (h : Axs GA V0 HO RO GC) (hv : ∀ j, j < n → V j ≤ 49500000) (hh : ∀ j, j < n → H j ≤ 9) : Axs (wfG GA V n) (wfN V0 V n) (wfN HO H n) RO GC := ⟨wfG_V h.1, wfN_b h.2.1 hv, wfN_b h.2.2.1 hh, h.2.2.2⟩
set_option maxHeartbeats 4000000 in
set_option maxRecDepth 100000 in
theorem ia_plan (l : Launch) (D : va_G) {cy : Nat → ClassId} {d0 : Nat} {a kp bt sz : Nat → Nat} {sheets : Nat → Int32} {ke km : Nat} {w : va_W} (hI : IvD cy d0 a kp bt sz sheets ke km w) (p0 : Int32) (p1 : Int32) (p2 : Int32) : kq_l l D (cT cy) yX11_plan wsX11_plan 7 0 0 161 [.ref d0, .int p0, .int p1, .int p2] w (fun r w1 => IvD cy d0 a kp bt sz sheets ke km w1) := by
  obtain ⟨x, PA, MA, FQ, HA, SQ, gt, gn, bs, bh, fnd, bg, GG, GB, GC, SG, RO, UP, LO, HO, V0, GA, ha, za, sa, ra, AC, WH, ka, fo, RW, NU, pad, fad, PF, LF, gb, hw, hpt, hct, hax, hsh, hhs⟩ := hI
  obtain ⟨⟨b0, b1, b2, b3⟩, opl, omk, osg, ofd, osh, oz⟩ := id hhs.ok
  have hpc : pcR PF a (a 0) := fun i hi => ⟨opl i hi, hct.1 i hi⟩
  have hma : maR a (a 0) (a 1) := omk
  have htb := tb_ok hhs.ok hct.2.2.2.1
  have htb2 : tbOk UP LO := fun c hc => ⟨(htb c hc).1, (htb c hc).2.1, Nat.le_trans (htb c hc).2.2 (by decide)⟩
  have hfl : ∀ j, j < a 3 → flOk (fad 0) (fad 1) (fad 2) (fad 3) (fun i => a (334 + 5 * i)) (fun i => a (334 + 5 * i + 1)) (fun i => a (334 + 5 * i + 2)) (fun i => a (334 + 5 * i + 4)) (fun i => a (334 + 5 * i + 3)) fo (LF 0) (LF 1) (LF 2) j := fun j hj => ⟨(ofd j hj).2.2.2.2.1, lk_ok (ofd j hj) (hct.2.2.1 j hj), (ofd j hj).1, (ofd j hj).2.2.2.1, (ofd j hj).2.1, (ofd j hj).2.2.1.2⟩
  refine nk_l (qX11_plan_g l D cy (fad 0) (fad 1) (fad 2) (fad 3) (fun i => a (334 + 5 * i)) (fun i => a (334 + 5 * i + 1)) (fun i => a (334 + 5 * i + 2)) (fun i => a (334 + 5 * i + 4)) (fun i => a (334 + 5 * i + 3)) fo (LF 0) (LF 1) (LF 2) d0 (x 1) (a 0) (x 2) (a 1) (x 3) (x 7) (x 10) (a 3) (x 11) (x 14) (x 17) (x 18) fnd (x 15) (x 16) bs bg bh GA HO (x 12) (x 13) UP LO FQ p0 p1 p2 V0 hax.1 hax.2.1 hax.2.2.1 b3 hpt.2.2.1 hfl htb2) (hw.trans (pm_b0FW bp_0x14x15x16x11x12x13x10)) (Nat.le_of_ble_eq_true rfl) (Nat.le_of_ble_eq_true rfl) (Nat.le_of_ble_eq_true rfl) (Nat.le_of_ble_eq_true rfl) (fun r w1 h => ⟨_, List.Perm.refl _, ?_⟩)
  rcases h with ⟨_, _, rfl⟩ | ⟨hr, cr, dr, ⟨_, _, _, z1, z2, z3⟩, _, rfl⟩
  · exact ⟨x, PA, MA, FQ, HA, SQ, gt, gn, bs, bh, _, bg, GG, GB, GC, SG, RO, UP, LO, HO, V0, GA, ha, za, sa, ra, AC, WH, ka, fo, RW, NU, pad, fad, PF, LF, gb, (pm_b0FW bp_0x14x15x16x11x12x13x10).symm, hpt, hct, hax, hsh, hhs⟩
  · exact ⟨x, PA, MA, FQ, HA, SQ, gt, gn, _, _, fnd, _, GG, GB, GC, SG, RO, UP, LO, _, _, _, ha, za, sa, ra, AC, WH, ka, fo, RW, NU, pad, fad, PF, LF, gb, (pm_b0FW bp_0x14x15x16x11x12x13x10).symm, hpt, hct, wf_hax hax (fun j hj => Nat.le_trans (fgV_b (ofd j hj).1 (ofd j hj).2.1.2 z2 z3 htb2) (by decide)) (fun j hj => (ofd j hj).2.2.1.2), hsh, hhs⟩
set_option maxHeartbeats 4000000 in
set_option maxRecDepth 100000 in
theorem ia_brings (l : Launch) (D : va_G) {cy : Nat → ClassId} {d0 : Nat} {a kp bt sz : Nat → Nat} {sheets : Nat → Int32} {ke km : Nat} {w : va_W} (hI : IvD cy d0 a kp bt sz sheets ke km w) (p0 : Int32) (p1 : Int32) (p2 : Int32) : kq_l l D (cT cy) yX11_brings wsX11_brings 7 0 0 161 [.ref d0, .int p0, .int p1, .int p2] w (fun r w1 => IvD cy d0 a kp bt sz sheets ke km w1) := by
  obtain ⟨x, PA, MA, FQ, HA, SQ, gt, gn, bs, bh, fnd, bg, GG, GB, GC, SG, RO, UP, LO, HO, V0, GA, ha, za, sa, ra, AC, WH, ka, fo, RW, NU, pad, fad, PF, LF, gb, hw, hpt, hct, hax, hsh, hhs⟩ := hI
  obtain ⟨⟨b0, b1, b2, b3⟩, opl, omk, osg, ofd, osh, oz⟩ := id hhs.ok
  have hpc : pcR PF a (a 0) := fun i hi => ⟨opl i hi, hct.1 i hi⟩
  have hma : maR a (a 0) (a 1) := omk
  have htb := tb_ok hhs.ok hct.2.2.2.1
  have htb2 : tbOk UP LO := fun c hc => ⟨(htb c hc).1, (htb c hc).2.1, Nat.le_trans (htb c hc).2.2 (by decide)⟩
  have hfl : ∀ j, j < a 3 → flOk (fad 0) (fad 1) (fad 2) (fad 3) (fun i => a (334 + 5 * i)) (fun i => a (334 + 5 * i + 1)) (fun i => a (334 + 5 * i + 2)) (fun i => a (334 + 5 * i + 4)) (fun i => a (334 + 5 * i + 3)) fo (LF 0) (LF 1) (LF 2) j := fun j hj => ⟨(ofd j hj).2.2.2.2.1, lk_ok (ofd j hj) (hct.2.2.1 j hj), (ofd j hj).1, (ofd j hj).2.2.2.1, (ofd j hj).2.1, (ofd j hj).2.2.1.2⟩
  refine nk_l (qX11_brings_g l D cy (fad 0) (fad 1) (fad 2) (fad 3) (fun i => a (334 + 5 * i)) (fun i => a (334 + 5 * i + 1)) (fun i => a (334 + 5 * i + 2)) (fun i => a (334 + 5 * i + 4)) (fun i => a (334 + 5 * i + 3)) fo (LF 0) (LF 1) (LF 2) d0 (x 1) (a 0) (x 2) (a 1) (x 3) (x 7) (x 10) (a 3) (x 11) (x 14) (x 17) (x 18) fnd (x 15) (x 16) bs bg bh GA HO (x 12) (x 13) UP LO FQ p0 p1 p2 V0 hax.1 hax.2.1 hax.2.2.1 b3 hpt.2.2.1 hfl htb2) (hw.trans (pm_b0FW bp_0x14x15x16x11x12x13x10)) (Nat.le_of_ble_eq_true rfl) (Nat.le_of_ble_eq_true rfl) (Nat.le_of_ble_eq_true rfl) (Nat.le_of_ble_eq_true rfl) (fun r w1 h => ⟨_, List.Perm.refl _, ?_⟩)
  rcases h with ⟨_, _, rfl⟩ | ⟨hr, cr, dr, ⟨_, _, _, z1, z2, z3⟩, _, rfl⟩
  · exact ⟨x, PA, MA, FQ, HA, SQ, gt, gn, bs, bh, _, bg, GG, GB, GC, SG, RO, UP, LO, HO, V0, GA, ha, za, sa, ra, AC, WH, ka, fo, RW, NU, pad, fad, PF, LF, gb, (pm_b0FW bp_0x14x15x16x11x12x13x10).symm, hpt, hct, hax, hsh, hhs⟩
  · exact ⟨x, PA, MA, FQ, HA, SQ, gt, gn, _, _, fnd, _, GG, GB, GC, SG, RO, UP, LO, _, _, _, ha, za, sa, ra, AC, WH, ka, fo, RW, NU, pad, fad, PF, LF, gb, (pm_b0FW bp_0x14x15x16x11x12x13x10).symm, hpt, hct, wf_hax hax (fun j hj => Nat.le_trans (fgV_b (ofd j hj).1 (ofd j hj).2.1.2 z2 z3 htb2) (by decide)) (fun j hj => (ofd j hj).2.2.1.2), hsh, hhs⟩
