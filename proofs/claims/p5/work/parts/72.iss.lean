set_option maxHeartbeats 4000000 in
set_option maxRecDepth 100000 in
theorem is_led (l : Launch) (D : va_G) {cy : Nat → ClassId} {d0 : Nat} {a kp bt sz : Nat → Nat} {sheets : Nat → Int32} {ke km : Nat} {w : va_W} (hI : IvD cy d0 a kp bt sz sheets ke km w) (p0 : Int32) (p1 : Int32) (p2 : Int32) (p3 : Int32) : kq_l l D (cT cy) yX11_led wsX11_led 2 0 0 56 [.ref d0, .int p0, .int p1, .int p2, .int p3] w (fun r w1 => MP_led a kp bt sz sheets ke km p0 p1 p2 p3 r (fun a kp bt sz sheets ke km => IvD cy d0 a kp bt sz sheets ke km w1)) := by
  obtain ⟨x, PA, MA, FQ, HA, SQ, gt, gn, bs, bh, fnd, bg, GG, GB, GC, SG, RO, UP, LO, HO, V0, GA, ha, za, sa, ra, AC, WH, ka, fo, RW, NU, pad, fad, PF, LF, gb, hw, hpt, hct, hax, hsh, hhs⟩ := hI
  obtain ⟨⟨b0, b1, b2, b3⟩, opl, omk, osg, ofd, osh, oz⟩ := id hhs.ok
  have hpc : pcR PF a (a 0) := fun i hi => ⟨opl i hi, hct.1 i hi⟩
  have hma : maR a (a 0) (a 1) := omk
  by_cases hx : ix (a 0) p0
  · obtain ⟨i, hi, rfl⟩ := ix_of8 hx (by omega)
    by_cases hz : p1 = 0
    · refine nk_l (qX11_led_yX l D cy  d0 (x 1) (a 0) (x 2) (a 1) (x 3) (x 7) (x 10) (a 3) (x 11) (x 14) (x 17) (x 18) fnd PA (pad 0 i) i (pad 1 i) (pad 4 i) (pad 2 i) (pad 3 i) (a (4 + i)) (PF 0 i) (PF 2 i) (pad 5 i) (pad 6 i) (PF 1 i) (PF 3 i) i p1 p2 p3 hz hi b0 (hpt.1 i hi) (opl i hi).1 (pcR_9 (j := 0) hpc hi (by decide)) (pcR_9 (j := 2) hpc hi (by decide)) (pcR_9 (j := 1) hpc hi (by decide)) (pcR_9 (j := 3) hpc hi (by decide))) (hw.trans (pm_b0P bp_0x1 (pc_get (i := i) hi))) (Nat.le_of_ble_eq_true rfl) (Nat.le_of_ble_eq_true rfl) (Nat.le_of_ble_eq_true rfl) (Nat.le_of_ble_eq_true rfl) (fun r w1 h => ⟨_, List.Perm.refl _, ?_⟩)
      rcases h with ⟨g, e, rfl⟩ | ⟨u, rfl, hu, ⟨g, e, rfl⟩ | ⟨g, e, rfl⟩⟩
      · exact .inl ⟨fun h => g h.2, e, ⟨x, PA, MA, FQ, HA, SQ, gt, gn, bs, bh, _, bg, GG, GB, GC, SG, RO, UP, LO, HO, V0, GA, ha, za, sa, ra, AC, WH, ka, fo, RW, NU, pad, fad, PF, LF, gb, (pm_b0P bp_0x1 (pc_get (i := i) hi)).symm, hpt, hct, hax, hsh, hhs⟩⟩
      · exact .inr ⟨i, u, ⟨rfl, rfl, hi, hu⟩, .inl ⟨by rw [zN_0 hz, ← (sp_z (hct.1 i hi) (w := 0) (by decide))]; exact g, e, ⟨x, PA, MA, FQ, HA, SQ, gt, gn, bs, bh, _, bg, GG, GB, GC, SG, RO, UP, LO, HO, V0, GA, ha, za, sa, ra, AC, WH, ka, fo, RW, NU, pad, fad, PF, LF, gb, (pm_b0P bp_0x1 (pc_get (i := i) hi)).symm, hpt, hct, hax, hsh, hhs⟩⟩⟩
      · have g2 : 0 < zSp a i 0 (a (4 + i)) := by rw [← (sp_z (hct.1 i hi) (w := 0) (by decide))]; exact g
        exact .inr ⟨i, u, ⟨rfl, rfl, hi, hu⟩, .inr ⟨by rw [zN_0 hz]; exact g2, by rw [e, zN_0 hz]; exact led_z (opl i hi) (hct.1 i hi) (w := 0) (by decide) g2 _ _, ⟨x, PA, MA, FQ, HA, SQ, gt, gn, bs, bh, _, bg, GG, GB, GC, SG, RO, UP, LO, HO, V0, GA, ha, za, sa, ra, AC, WH, ka, fo, RW, NU, pad, fad, PF, LF, gb, (pm_b0P bp_0x1 (pc_get (i := i) hi)).symm, hpt, hct, hax, hsh, hhs⟩⟩⟩
    · refine nk_l (qX11_led_yY l D cy  d0 (x 1) (a 0) (x 2) (a 1) (x 3) (x 7) (x 10) (a 3) (x 11) (x 14) (x 17) (x 18) fnd PA (pad 0 i) i (pad 1 i) (pad 4 i) (pad 2 i) (pad 3 i) (a (4 + i)) (PF 0 i) (PF 2 i) (pad 5 i) (pad 6 i) (PF 1 i) (PF 3 i) i p1 p2 p3 hz hi b0 (hpt.1 i hi) (opl i hi).1 (pcR_9 (j := 0) hpc hi (by decide)) (pcR_9 (j := 2) hpc hi (by decide)) (pcR_9 (j := 1) hpc hi (by decide)) (pcR_9 (j := 3) hpc hi (by decide))) (hw.trans (pm_b0P bp_0x1 (pc_get (i := i) hi))) (Nat.le_of_ble_eq_true rfl) (Nat.le_of_ble_eq_true rfl) (Nat.le_of_ble_eq_true rfl) (Nat.le_of_ble_eq_true rfl) (fun r w1 h => ⟨_, List.Perm.refl _, ?_⟩)
      rcases h with ⟨g, e, rfl⟩ | ⟨u, rfl, hu, ⟨g, e, rfl⟩ | ⟨g, e, rfl⟩⟩
      · exact .inl ⟨fun h => g h.2, e, ⟨x, PA, MA, FQ, HA, SQ, gt, gn, bs, bh, _, bg, GG, GB, GC, SG, RO, UP, LO, HO, V0, GA, ha, za, sa, ra, AC, WH, ka, fo, RW, NU, pad, fad, PF, LF, gb, (pm_b0P bp_0x1 (pc_get (i := i) hi)).symm, hpt, hct, hax, hsh, hhs⟩⟩
      · exact .inr ⟨i, u, ⟨rfl, rfl, hi, hu⟩, .inl ⟨by rw [zN_1 hz, ← (sp_z (hct.1 i hi) (w := 1) (by decide))]; exact g, e, ⟨x, PA, MA, FQ, HA, SQ, gt, gn, bs, bh, _, bg, GG, GB, GC, SG, RO, UP, LO, HO, V0, GA, ha, za, sa, ra, AC, WH, ka, fo, RW, NU, pad, fad, PF, LF, gb, (pm_b0P bp_0x1 (pc_get (i := i) hi)).symm, hpt, hct, hax, hsh, hhs⟩⟩⟩
      · have g2 : 0 < zSp a i 1 (a (4 + i)) := by rw [← (sp_z (hct.1 i hi) (w := 1) (by decide))]; exact g
        exact .inr ⟨i, u, ⟨rfl, rfl, hi, hu⟩, .inr ⟨by rw [zN_1 hz]; exact g2, by rw [e, zN_1 hz]; exact led_z (opl i hi) (hct.1 i hi) (w := 1) (by decide) g2 _ _, ⟨x, PA, MA, FQ, HA, SQ, gt, gn, bs, bh, _, bg, GG, GB, GC, SG, RO, UP, LO, HO, V0, GA, ha, za, sa, ra, AC, WH, ka, fo, RW, NU, pad, fad, PF, LF, gb, (pm_b0P bp_0x1 (pc_get (i := i) hi)).symm, hpt, hct, hax, hsh, hhs⟩⟩⟩
  · refine nk_l (qX11_led_n l D cy  d0 (x 1) (a 0) (x 2) (a 1) (x 3) (x 7) (x 10) (a 3) (x 11) (x 14) (x 17) (x 18) fnd PA p0 p1 p2 p3 hx) (hw.trans (pm_b0 bp_0x1)) (Nat.le_of_ble_eq_true rfl) (Nat.le_of_ble_eq_true rfl) (Nat.le_of_ble_eq_true rfl) (Nat.le_of_ble_eq_true rfl) (fun r w1 h => ⟨_, List.Perm.refl _, ?_⟩)
    rcases h with ⟨e, rfl⟩
    · exact .inl ⟨fun h => hx h.1, e, ⟨x, PA, MA, FQ, HA, SQ, gt, gn, bs, bh, _, bg, GG, GB, GC, SG, RO, UP, LO, HO, V0, GA, ha, za, sa, ra, AC, WH, ka, fo, RW, NU, pad, fad, PF, LF, gb, (pm_b0 bp_0x1).symm, hpt, hct, hax, hsh, hhs⟩⟩
set_option maxHeartbeats 4000000 in
set_option maxRecDepth 100000 in
theorem is_miss (l : Launch) (D : va_G) {cy : Nat → ClassId} {d0 : Nat} {a kp bt sz : Nat → Nat} {sheets : Nat → Int32} {ke km : Nat} {w : va_W} (hI : IvD cy d0 a kp bt sz sheets ke km w) (p0 : Int32) (p1 : Int32) (p2 : Int32) : kq_l l D (cT cy) yX11_miss wsX11_miss 2 0 0 56 [.ref d0, .int p0, .int p1, .int p2] w (fun r w1 => MP_miss a kp bt sz sheets ke km p0 p1 p2 r (fun a kp bt sz sheets ke km => IvD cy d0 a kp bt sz sheets ke km w1)) := by
  obtain ⟨x, PA, MA, FQ, HA, SQ, gt, gn, bs, bh, fnd, bg, GG, GB, GC, SG, RO, UP, LO, HO, V0, GA, ha, za, sa, ra, AC, WH, ka, fo, RW, NU, pad, fad, PF, LF, gb, hw, hpt, hct, hax, hsh, hhs⟩ := hI
  obtain ⟨⟨b0, b1, b2, b3⟩, opl, omk, osg, ofd, osh, oz⟩ := id hhs.ok
  have hpc : pcR PF a (a 0) := fun i hi => ⟨opl i hi, hct.1 i hi⟩
  have hma : maR a (a 0) (a 1) := omk
  by_cases hx : ix (a 0) p0
  · obtain ⟨i, hi, rfl⟩ := ix_of8 hx (by omega)
    by_cases hz : p1 = 0
    · refine nk_l (qX11_miss_yX l D cy  d0 (x 1) (a 0) (x 2) (a 1) (x 3) (x 7) (x 10) (a 3) (x 11) (x 14) (x 17) (x 18) fnd PA (pad 0 i) i (pad 1 i) (pad 4 i) (pad 2 i) (pad 3 i) (a (4 + i)) (PF 0 i) (PF 2 i) (pad 5 i) (pad 6 i) (PF 1 i) (PF 3 i) i p1 p2 hz hi b0 (hpt.1 i hi) (opl i hi).1 (pcR_9 (j := 0) hpc hi (by decide)) (pcR_9 (j := 2) hpc hi (by decide)) (pcR_9 (j := 1) hpc hi (by decide)) (pcR_9 (j := 3) hpc hi (by decide))) (hw.trans (pm_b0P bp_0x1 (pc_get (i := i) hi))) (Nat.le_of_ble_eq_true rfl) (Nat.le_of_ble_eq_true rfl) (Nat.le_of_ble_eq_true rfl) (Nat.le_of_ble_eq_true rfl) (fun r w1 h => ⟨_, List.Perm.refl _, ?_⟩)
      rcases h with ⟨g, e, rfl⟩ | ⟨g, e, rfl⟩
      · exact .inr ⟨i, ⟨rfl, hi⟩, .inl ⟨by rw [zN_0 hz, ← (sp_z (hct.1 i hi) (w := 0) (by decide))]; exact g, e, ⟨x, PA, MA, FQ, HA, SQ, gt, gn, bs, bh, _, bg, GG, GB, GC, SG, RO, UP, LO, HO, V0, GA, ha, za, sa, ra, AC, WH, ka, fo, RW, NU, pad, fad, PF, LF, gb, (pm_b0P bp_0x1 (pc_get (i := i) hi)).symm, hpt, hct, hax, hsh, hhs⟩⟩⟩
      · exact .inr ⟨i, ⟨rfl, hi⟩, .inr ⟨by rw [zN_0 hz, ← (sp_z (hct.1 i hi) (w := 0) (by decide))]; exact g, by rw [e, zN_0 hz]; exact miss_z (hct.1 i hi) (w := 0) (by decide) _, ⟨x, PA, MA, FQ, HA, SQ, gt, gn, bs, bh, _, bg, GG, GB, GC, SG, RO, UP, LO, HO, V0, GA, ha, za, sa, ra, AC, WH, ka, fo, RW, NU, pad, fad, PF, LF, gb, (pm_b0P bp_0x1 (pc_get (i := i) hi)).symm, hpt, hct, hax, hsh, hhs⟩⟩⟩
    · refine nk_l (qX11_miss_yY l D cy  d0 (x 1) (a 0) (x 2) (a 1) (x 3) (x 7) (x 10) (a 3) (x 11) (x 14) (x 17) (x 18) fnd PA (pad 0 i) i (pad 1 i) (pad 4 i) (pad 2 i) (pad 3 i) (a (4 + i)) (PF 0 i) (PF 2 i) (pad 5 i) (pad 6 i) (PF 1 i) (PF 3 i) i p1 p2 hz hi b0 (hpt.1 i hi) (opl i hi).1 (pcR_9 (j := 0) hpc hi (by decide)) (pcR_9 (j := 2) hpc hi (by decide)) (pcR_9 (j := 1) hpc hi (by decide)) (pcR_9 (j := 3) hpc hi (by decide))) (hw.trans (pm_b0P bp_0x1 (pc_get (i := i) hi))) (Nat.le_of_ble_eq_true rfl) (Nat.le_of_ble_eq_true rfl) (Nat.le_of_ble_eq_true rfl) (Nat.le_of_ble_eq_true rfl) (fun r w1 h => ⟨_, List.Perm.refl _, ?_⟩)
      rcases h with ⟨g, e, rfl⟩ | ⟨g, e, rfl⟩
      · exact .inr ⟨i, ⟨rfl, hi⟩, .inl ⟨by rw [zN_1 hz, ← (sp_z (hct.1 i hi) (w := 1) (by decide))]; exact g, e, ⟨x, PA, MA, FQ, HA, SQ, gt, gn, bs, bh, _, bg, GG, GB, GC, SG, RO, UP, LO, HO, V0, GA, ha, za, sa, ra, AC, WH, ka, fo, RW, NU, pad, fad, PF, LF, gb, (pm_b0P bp_0x1 (pc_get (i := i) hi)).symm, hpt, hct, hax, hsh, hhs⟩⟩⟩
      · exact .inr ⟨i, ⟨rfl, hi⟩, .inr ⟨by rw [zN_1 hz, ← (sp_z (hct.1 i hi) (w := 1) (by decide))]; exact g, by rw [e, zN_1 hz]; exact miss_z (hct.1 i hi) (w := 1) (by decide) _, ⟨x, PA, MA, FQ, HA, SQ, gt, gn, bs, bh, _, bg, GG, GB, GC, SG, RO, UP, LO, HO, V0, GA, ha, za, sa, ra, AC, WH, ka, fo, RW, NU, pad, fad, PF, LF, gb, (pm_b0P bp_0x1 (pc_get (i := i) hi)).symm, hpt, hct, hax, hsh, hhs⟩⟩⟩
  · refine nk_l (qX11_miss_n l D cy  d0 (x 1) (a 0) (x 2) (a 1) (x 3) (x 7) (x 10) (a 3) (x 11) (x 14) (x 17) (x 18) fnd PA p0 p1 p2 hx) (hw.trans (pm_b0 bp_0x1)) (Nat.le_of_ble_eq_true rfl) (Nat.le_of_ble_eq_true rfl) (Nat.le_of_ble_eq_true rfl) (Nat.le_of_ble_eq_true rfl) (fun r w1 h => ⟨_, List.Perm.refl _, ?_⟩)
    rcases h with ⟨e, rfl⟩
    · exact .inl ⟨hx, e, ⟨x, PA, MA, FQ, HA, SQ, gt, gn, bs, bh, _, bg, GG, GB, GC, SG, RO, UP, LO, HO, V0, GA, ha, za, sa, ra, AC, WH, ka, fo, RW, NU, pad, fad, PF, LF, gb, (pm_b0 bp_0x1).symm, hpt, hct, hax, hsh, hhs⟩⟩
set_option maxHeartbeats 4000000 in
set_option maxRecDepth 100000 in
theorem is_doubt (l : Launch) (D : va_G) {cy : Nat → ClassId} {d0 : Nat} {a kp bt sz : Nat → Nat} {sheets : Nat → Int32} {ke km : Nat} {w : va_W} (hI : IvD cy d0 a kp bt sz sheets ke km w) (p0 : Int32) : kq_l l D (cT cy) yX11_doubt wsX11_doubt 2 0 0 46 [.ref d0, .int p0] w (fun r w1 => MP_doubt a kp bt sz sheets ke km p0 r (fun a kp bt sz sheets ke km => IvD cy d0 a kp bt sz sheets ke km w1)) := by
  obtain ⟨x, PA, MA, FQ, HA, SQ, gt, gn, bs, bh, fnd, bg, GG, GB, GC, SG, RO, UP, LO, HO, V0, GA, ha, za, sa, ra, AC, WH, ka, fo, RW, NU, pad, fad, PF, LF, gb, hw, hpt, hct, hax, hsh, hhs⟩ := hI
  obtain ⟨⟨b0, b1, b2, b3⟩, opl, omk, osg, ofd, osh, oz⟩ := id hhs.ok
  have hpc : pcR PF a (a 0) := fun i hi => ⟨opl i hi, hct.1 i hi⟩
  have hma : maR a (a 0) (a 1) := omk
  by_cases hx : ix (a 0) p0
  · obtain ⟨i, hi, rfl⟩ := ix_of8 hx (by omega)
    refine nk_l (qX11_doubt_y l D cy  d0 (x 1) (a 0) (x 2) (a 1) (x 3) (x 7) (x 10) (a 3) (x 11) (x 14) (x 17) (x 18) fnd PA (pad 0 i) i (pad 1 i) (pad 4 i) (pad 2 i) (pad 3 i) (a (4 + i)) (PF 0 i) (PF 2 i) (pad 5 i) (pad 6 i) (PF 1 i) (PF 3 i) i hi b0 (hpt.1 i hi) (opl i hi).1 (pcR_9 (j := 0) hpc hi (by decide)) (pcR_9 (j := 2) hpc hi (by decide)) (pcR_9 (j := 1) hpc hi (by decide)) (pcR_9 (j := 3) hpc hi (by decide))) (hw.trans (pm_b0P bp_0x1 (pc_get (i := i) hi))) (Nat.le_of_ble_eq_true rfl) (Nat.le_of_ble_eq_true rfl) (Nat.le_of_ble_eq_true rfl) (Nat.le_of_ble_eq_true rfl) (fun r w1 h => ⟨_, List.Perm.refl _, ?_⟩)
    rcases h with ⟨g, e, rfl⟩ | ⟨g, e, rfl⟩
    · exact .inr ⟨i, ⟨rfl, hi⟩, .inr ⟨doubt_n (by rw [← (sp_z (hct.1 i hi) (w := 0) (by decide)), ← (sp_z (hct.1 i hi) (w := 1) (by decide))]; exact g), e, ⟨x, PA, MA, FQ, HA, SQ, gt, gn, bs, bh, _, bg, GG, GB, GC, SG, RO, UP, LO, HO, V0, GA, ha, za, sa, ra, AC, WH, ka, fo, RW, NU, pad, fad, PF, LF, gb, (pm_b0P bp_0x1 (pc_get (i := i) hi)).symm, hpt, hct, hax, hsh, hhs⟩⟩⟩
    · have g2 : 0 < zSp a i 0 (a (4 + i)) ∧ 0 < zSp a i 1 (a (4 + i)) := by rw [← (sp_z (hct.1 i hi) (w := 0) (by decide)), ← (sp_z (hct.1 i hi) (w := 1) (by decide))]; exact g
      obtain ⟨d1, d2⟩ := doubt_z (opl i hi) (hct.1 i hi) g2
      exact .inr ⟨i, ⟨rfl, hi⟩, .inl ⟨d2, by rw [e]; exact d1, ⟨x, PA, MA, FQ, HA, SQ, gt, gn, bs, bh, _, bg, GG, GB, GC, SG, RO, UP, LO, HO, V0, GA, ha, za, sa, ra, AC, WH, ka, fo, RW, NU, pad, fad, PF, LF, gb, (pm_b0P bp_0x1 (pc_get (i := i) hi)).symm, hpt, hct, hax, hsh, hhs⟩⟩⟩
  · refine nk_l (qX11_doubt_n l D cy  d0 (x 1) (a 0) (x 2) (a 1) (x 3) (x 7) (x 10) (a 3) (x 11) (x 14) (x 17) (x 18) fnd PA p0 hx) (hw.trans (pm_b0 bp_0x1)) (Nat.le_of_ble_eq_true rfl) (Nat.le_of_ble_eq_true rfl) (Nat.le_of_ble_eq_true rfl) (Nat.le_of_ble_eq_true rfl) (fun r w1 h => ⟨_, List.Perm.refl _, ?_⟩)
    rcases h with ⟨e, rfl⟩
    · exact .inl ⟨hx, e, ⟨x, PA, MA, FQ, HA, SQ, gt, gn, bs, bh, _, bg, GG, GB, GC, SG, RO, UP, LO, HO, V0, GA, ha, za, sa, ra, AC, WH, ka, fo, RW, NU, pad, fad, PF, LF, gb, (pm_b0 bp_0x1).symm, hpt, hct, hax, hsh, hhs⟩⟩
theorem as_z {k u : Nat} (hu : u ≤ 3) : undr k u ↔ asOk u k := by
  show (u = k ∨ u = 0 ∨ (k = 3 ∧ u = 1)) ↔ (u = 0 ∨ k = u ∨ (u = 1 ∧ (k = 1 ∨ k = 3)))
  omega
set_option maxHeartbeats 4000000 in
set_option maxRecDepth 100000 in
theorem is_as (l : Launch) (D : va_G) {cy : Nat → ClassId} {d0 : Nat} {a kp bt sz : Nat → Nat} {sheets : Nat → Int32} {ke km : Nat} {w : va_W} (hI : IvD cy d0 a kp bt sz sheets ke km w) (p0 : Int32) (p1 : Int32) : kq_l l D (cT cy) yX11_as wsX11_as 3 0 0 65 [.ref d0, .int p0, .int p1] w (fun r w1 => MP_as a kp bt sz sheets ke km p0 p1 r (fun a kp bt sz sheets ke km => IvD cy d0 a kp bt sz sheets ke km w1)) := by
  obtain ⟨x, PA, MA, FQ, HA, SQ, gt, gn, bs, bh, fnd, bg, GG, GB, GC, SG, RO, UP, LO, HO, V0, GA, ha, za, sa, ra, AC, WH, ka, fo, RW, NU, pad, fad, PF, LF, gb, hw, hpt, hct, hax, hsh, hhs⟩ := hI
  obtain ⟨⟨b0, b1, b2, b3⟩, opl, omk, osg, ofd, osh, oz⟩ := id hhs.ok
  have hpc : pcR PF a (a 0) := fun i hi => ⟨opl i hi, hct.1 i hi⟩
  have hma : maR a (a 0) (a 1) := omk
  by_cases hx : ix (a 1) p0
  · obtain ⟨i, hi, rfl⟩ := ix_of8 hx (by omega)
    refine kk_l (qX11_as_y l D cy  d0 (x 1) (a 0) (x 2) (a 1) (x 3) (x 7) (x 10) (a 3) (x 11) (x 14) (x 17) (x 18) fnd MA (ka i) (pad 0 (a (202 + 6 * i))) (a (202 + 6 * i + 1)) (a (202 + 6 * i + 2)) (a (202 + 6 * i + 3)) (a (202 + 6 * i + 4)) (a (202 + 6 * i + 5)) i p1 hi b1 (hpt.2.1 i hi) (omk i hi).2.1) (hw.trans (pm_b0M bp_0x2 (mk_get (i := i) hi))) (Nat.le_of_ble_eq_true rfl) (Nat.le_of_ble_eq_true rfl) (Nat.le_of_ble_eq_true rfl) (Nat.le_of_ble_eq_true rfl) (fun r w1 h => ⟨_, List.Perm.refl _, ?_⟩)
    rcases h with ⟨g, e, rfl⟩ | ⟨q, rfl, hq, ⟨g, e, rfl⟩ | ⟨g, e, rfl⟩⟩
    · exact .inl ⟨fun h => g h.2, e, ⟨x, PA, MA, FQ, HA, SQ, gt, gn, bs, bh, _, bg, GG, GB, GC, SG, RO, UP, LO, HO, V0, GA, ha, za, sa, ra, AC, WH, ka, fo, RW, NU, pad, fad, PF, LF, gb, (pm_b0M bp_0x2 (mk_get (i := i) hi)).symm, hpt, hct, hax, hsh, hhs⟩⟩
    · exact .inr ⟨i, q, ⟨rfl, rfl, hi, hq⟩, .inl ⟨(as_z hq).mp g, e, ⟨x, PA, MA, FQ, HA, SQ, gt, gn, bs, bh, _, bg, GG, GB, GC, SG, RO, UP, LO, HO, V0, GA, ha, za, sa, ra, AC, WH, ka, fo, RW, NU, pad, fad, PF, LF, gb, (pm_b0M bp_0x2 (mk_get (i := i) hi)).symm, hpt, hct, hax, hsh, hhs⟩⟩⟩
    · exact .inr ⟨i, q, ⟨rfl, rfl, hi, hq⟩, .inr ⟨fun z => g ((as_z hq).mpr z), e, ⟨x, PA, MA, FQ, HA, SQ, gt, gn, bs, bh, _, bg, GG, GB, GC, SG, RO, UP, LO, HO, V0, GA, ha, za, sa, ra, AC, WH, ka, fo, RW, NU, pad, fad, PF, LF, gb, (pm_b0M bp_0x2 (mk_get (i := i) hi)).symm, hpt, hct, hax, hsh, hhs⟩⟩⟩
  · refine nk_l (qX11_as_n l D cy  d0 (x 1) (a 0) (x 2) (a 1) (x 3) (x 7) (x 10) (a 3) (x 11) (x 14) (x 17) (x 18) fnd MA p0 p1 hx) (hw.trans (pm_b0 bp_0x2)) (Nat.le_of_ble_eq_true rfl) (Nat.le_of_ble_eq_true rfl) (Nat.le_of_ble_eq_true rfl) (Nat.le_of_ble_eq_true rfl) (fun r w1 h => ⟨_, List.Perm.refl _, ?_⟩)
    rcases h with ⟨e, rfl⟩
    · exact .inl ⟨fun h => hx h.1, e, ⟨x, PA, MA, FQ, HA, SQ, gt, gn, bs, bh, _, bg, GG, GB, GC, SG, RO, UP, LO, HO, V0, GA, ha, za, sa, ra, AC, WH, ka, fo, RW, NU, pad, fad, PF, LF, gb, (pm_b0 bp_0x2).symm, hpt, hct, hax, hsh, hhs⟩⟩
set_option maxHeartbeats 4000000 in
set_option maxRecDepth 100000 in
theorem is_at (l : Launch) (D : va_G) {cy : Nat → ClassId} {d0 : Nat} {a kp bt sz : Nat → Nat} {sheets : Nat → Int32} {ke km : Nat} {w : va_W} (hI : IvD cy d0 a kp bt sz sheets ke km w) (p0 : Int32) (p1 : Int32) : kq_l l D (cT cy) yX11_at wsX11_at 3 0 0 68 [.ref d0, .int p0, .int p1] w (fun r w1 => MP_at a kp bt sz sheets ke km p0 p1 r (fun a kp bt sz sheets ke km => IvD cy d0 a kp bt sz sheets ke km w1)) := by
  obtain ⟨x, PA, MA, FQ, HA, SQ, gt, gn, bs, bh, fnd, bg, GG, GB, GC, SG, RO, UP, LO, HO, V0, GA, ha, za, sa, ra, AC, WH, ka, fo, RW, NU, pad, fad, PF, LF, gb, hw, hpt, hct, hax, hsh, hhs⟩ := hI
  obtain ⟨⟨b0, b1, b2, b3⟩, opl, omk, osg, ofd, osh, oz⟩ := id hhs.ok
  have hpc : pcR PF a (a 0) := fun i hi => ⟨opl i hi, hct.1 i hi⟩
  have hma : maR a (a 0) (a 1) := omk
  by_cases hx : ix (a 1) p0
  · obtain ⟨i, hi, rfl⟩ := ix_of8 hx (by omega)
    have hm := (omk i hi).1
    by_cases hz : p1 = 0
    · refine nk_l (qX11_at_yX l D cy  d0 (x 1) (a 0) (x 2) (a 1) (x 3) (x 7) (x 10) (a 3) (x 11) (x 14) (x 17) (x 18) fnd MA (ka i) (pad 0 (a (202 + 6 * i))) (a (202 + 6 * i + 1)) (a (202 + 6 * i + 2)) (a (202 + 6 * i + 3)) (a (202 + 6 * i + 4)) (a (202 + 6 * i + 5)) (((a (202 + 6 * i)))) (pad 1 ((a (202 + 6 * i)))) (pad 4 ((a (202 + 6 * i)))) (pad 2 ((a (202 + 6 * i)))) (pad 3 ((a (202 + 6 * i)))) (a (4 + ((a (202 + 6 * i))))) (PF 0 ((a (202 + 6 * i)))) (PF 2 ((a (202 + 6 * i)))) (pad 5 ((a (202 + 6 * i)))) (pad 6 ((a (202 + 6 * i)))) (PF 1 ((a (202 + 6 * i)))) (PF 3 ((a (202 + 6 * i)))) i p1 hz hi b1 (hpt.2.1 i hi) (opl (a (202 + 6 * i)) hm).1 (pcR_9 (j := 0) hpc hm (by decide)) (pcR_9 (j := 2) hpc hm (by decide)) (omk i hi).2.2.1) (hw.trans (pm_b0MP bp_0x2 (mk_get (i := i) hi) (pc_get (i := (a (202 + 6 * i))) hm))) (Nat.le_of_ble_eq_true rfl) (Nat.le_of_ble_eq_true rfl) (Nat.le_of_ble_eq_true rfl) (Nat.le_of_ble_eq_true rfl) (fun r w1 h => ⟨_, List.Perm.refl _, ?_⟩)
      rcases h with ⟨g, e, rfl⟩ | ⟨g, e, rfl⟩
      · exact .inr ⟨i, ⟨rfl, hi⟩, .inl ⟨by rw [zN_0 hz, ← (sp_z (hct.1 _ hm) (w := 0) (by decide))]; exact g, e, ⟨x, PA, MA, FQ, HA, SQ, gt, gn, bs, bh, _, bg, GG, GB, GC, SG, RO, UP, LO, HO, V0, GA, ha, za, sa, ra, AC, WH, ka, fo, RW, NU, pad, fad, PF, LF, gb, (pm_b0MP bp_0x2 (mk_get (i := i) hi) (pc_get (i := (a (202 + 6 * i))) hm)).symm, hpt, hct, hax, hsh, hhs⟩⟩⟩
      · have g2 : 0 < zSp a (a (202 + 6 * i)) 0 (a (4 + (a (202 + 6 * i)))) := by rw [← (sp_z (hct.1 _ hm) (w := 0) (by decide))]; exact g
        exact .inr ⟨i, ⟨rfl, hi⟩, .inr ⟨by rw [zN_0 hz]; exact g2, by rw [e, zN_0 hz]; exact congrArg lZ (pt_z (opl _ hm) (hct.1 _ hm) (w := 0) (by decide) g2 _), ⟨x, PA, MA, FQ, HA, SQ, gt, gn, bs, bh, _, bg, GG, GB, GC, SG, RO, UP, LO, HO, V0, GA, ha, za, sa, ra, AC, WH, ka, fo, RW, NU, pad, fad, PF, LF, gb, (pm_b0MP bp_0x2 (mk_get (i := i) hi) (pc_get (i := (a (202 + 6 * i))) hm)).symm, hpt, hct, hax, hsh, hhs⟩⟩⟩
    · refine nk_l (qX11_at_yY l D cy  d0 (x 1) (a 0) (x 2) (a 1) (x 3) (x 7) (x 10) (a 3) (x 11) (x 14) (x 17) (x 18) fnd MA (ka i) (pad 0 (a (202 + 6 * i))) (a (202 + 6 * i + 1)) (a (202 + 6 * i + 2)) (a (202 + 6 * i + 3)) (a (202 + 6 * i + 4)) (a (202 + 6 * i + 5)) (((a (202 + 6 * i)))) (pad 1 ((a (202 + 6 * i)))) (pad 4 ((a (202 + 6 * i)))) (pad 2 ((a (202 + 6 * i)))) (pad 3 ((a (202 + 6 * i)))) (a (4 + ((a (202 + 6 * i))))) (PF 0 ((a (202 + 6 * i)))) (PF 2 ((a (202 + 6 * i)))) (pad 5 ((a (202 + 6 * i)))) (pad 6 ((a (202 + 6 * i)))) (PF 1 ((a (202 + 6 * i)))) (PF 3 ((a (202 + 6 * i)))) i p1 hz hi b1 (hpt.2.1 i hi) (opl (a (202 + 6 * i)) hm).1 (pcR_9 (j := 1) hpc hm (by decide)) (pcR_9 (j := 3) hpc hm (by decide)) (omk i hi).2.2.2.1) (hw.trans (pm_b0MP bp_0x2 (mk_get (i := i) hi) (pc_get (i := (a (202 + 6 * i))) hm))) (Nat.le_of_ble_eq_true rfl) (Nat.le_of_ble_eq_true rfl) (Nat.le_of_ble_eq_true rfl) (Nat.le_of_ble_eq_true rfl) (fun r w1 h => ⟨_, List.Perm.refl _, ?_⟩)
      rcases h with ⟨g, e, rfl⟩ | ⟨g, e, rfl⟩
      · exact .inr ⟨i, ⟨rfl, hi⟩, .inl ⟨by rw [zN_1 hz, ← (sp_z (hct.1 _ hm) (w := 1) (by decide))]; exact g, e, ⟨x, PA, MA, FQ, HA, SQ, gt, gn, bs, bh, _, bg, GG, GB, GC, SG, RO, UP, LO, HO, V0, GA, ha, za, sa, ra, AC, WH, ka, fo, RW, NU, pad, fad, PF, LF, gb, (pm_b0MP bp_0x2 (mk_get (i := i) hi) (pc_get (i := (a (202 + 6 * i))) hm)).symm, hpt, hct, hax, hsh, hhs⟩⟩⟩
      · have g2 : 0 < zSp a (a (202 + 6 * i)) 1 (a (4 + (a (202 + 6 * i)))) := by rw [← (sp_z (hct.1 _ hm) (w := 1) (by decide))]; exact g
        exact .inr ⟨i, ⟨rfl, hi⟩, .inr ⟨by rw [zN_1 hz]; exact g2, by rw [e, zN_1 hz]; exact congrArg lZ (pt_z (opl _ hm) (hct.1 _ hm) (w := 1) (by decide) g2 _), ⟨x, PA, MA, FQ, HA, SQ, gt, gn, bs, bh, _, bg, GG, GB, GC, SG, RO, UP, LO, HO, V0, GA, ha, za, sa, ra, AC, WH, ka, fo, RW, NU, pad, fad, PF, LF, gb, (pm_b0MP bp_0x2 (mk_get (i := i) hi) (pc_get (i := (a (202 + 6 * i))) hm)).symm, hpt, hct, hax, hsh, hhs⟩⟩⟩
  · refine nk_l (qX11_at_n l D cy  d0 (x 1) (a 0) (x 2) (a 1) (x 3) (x 7) (x 10) (a 3) (x 11) (x 14) (x 17) (x 18) fnd MA p0 p1 hx) (hw.trans (pm_b0 bp_0x2)) (Nat.le_of_ble_eq_true rfl) (Nat.le_of_ble_eq_true rfl) (Nat.le_of_ble_eq_true rfl) (Nat.le_of_ble_eq_true rfl) (fun r w1 h => ⟨_, List.Perm.refl _, ?_⟩)
    rcases h with ⟨e, rfl⟩
    · exact .inl ⟨hx, e, ⟨x, PA, MA, FQ, HA, SQ, gt, gn, bs, bh, _, bg, GG, GB, GC, SG, RO, UP, LO, HO, V0, GA, ha, za, sa, ra, AC, WH, ka, fo, RW, NU, pad, fad, PF, LF, gb, (pm_b0 bp_0x2).symm, hpt, hct, hax, hsh, hhs⟩⟩
set_option maxHeartbeats 4000000 in
set_option maxRecDepth 100000 in
theorem is_agree (l : Launch) (D : va_G) {cy : Nat → ClassId} {d0 : Nat} {a kp bt sz : Nat → Nat} {sheets : Nat → Int32} {ke km : Nat} {w : va_W} (hI : IvD cy d0 a kp bt sz sheets ke km w) (p0 : Int32) (p1 : Int32) : kq_l l D (cT cy) yX11_agree wsX11_agree 4 0 0 91 [.ref d0, .int p0, .int p1] w (fun r w1 => MP_agree a kp bt sz sheets ke km p0 p1 r (fun a kp bt sz sheets ke km => IvD cy d0 a kp bt sz sheets ke km w1)) := by
  obtain ⟨x, PA, MA, FQ, HA, SQ, gt, gn, bs, bh, fnd, bg, GG, GB, GC, SG, RO, UP, LO, HO, V0, GA, ha, za, sa, ra, AC, WH, ka, fo, RW, NU, pad, fad, PF, LF, gb, hw, hpt, hct, hax, hsh, hhs⟩ := hI
  obtain ⟨⟨b0, b1, b2, b3⟩, opl, omk, osg, ofd, osh, oz⟩ := id hhs.ok
  have hpc : pcR PF a (a 0) := fun i hi => ⟨opl i hi, hct.1 i hi⟩
  have hma : maR a (a 0) (a 1) := omk
  by_cases hx : ix (a 1) p0
  · obtain ⟨i, hi, rfl⟩ := ix_of8 hx (by omega)
    by_cases hy : ix (a 1) p1
    · obtain ⟨j, hj, rfl⟩ := ix_of8 hy (by omega)
      refine nk_l (qX11_agree_g l D cy pad PF ka a d0 (x 1) (a 0) (x 2) (a 1) (x 3) (x 7) (x 10) (a 3) (x 11) (x 14) (x 17) (x 18) fnd MA i j hi hj b1 hpt.2.1 hma hpc b0) (hw.trans (pm_b0MWPW bp_0x2)) (Nat.le_of_ble_eq_true rfl) (Nat.le_of_ble_eq_true rfl) (Nat.le_of_ble_eq_true rfl) (Nat.le_of_ble_eq_true rfl) (fun r w1 h => ⟨_, List.Perm.refl _, ?_⟩)
      rcases h with ⟨e, rfl⟩
      · exact .inr ⟨i, j, ⟨rfl, rfl, hi, hj⟩, by rw [e]; exact ite_congr (propext (ag_z hpc (omk i hi).1 (omk j hj).1)) (fun _ => rfl) (fun _ => rfl), ⟨x, PA, MA, FQ, HA, SQ, gt, gn, bs, bh, fnd, bg, GG, GB, GC, SG, RO, UP, LO, HO, V0, GA, ha, za, sa, ra, AC, WH, ka, fo, RW, NU, pad, fad, PF, LF, gb, (pm_b0MWPW bp_0x2).symm, hpt, hct, hax, hsh, hhs⟩⟩
    · refine nk_l (qX11_agree_yn l D cy  d0 (x 1) (a 0) (x 2) (a 1) (x 3) (x 7) (x 10) (a 3) (x 11) (x 14) (x 17) (x 18) fnd MA i p1 b1 (ka i) hi (hpt.2.1 i hi) hy) (hw.trans (pm_b0 bp_0x2)) (Nat.le_of_ble_eq_true rfl) (Nat.le_of_ble_eq_true rfl) (Nat.le_of_ble_eq_true rfl) (Nat.le_of_ble_eq_true rfl) (fun r w1 h => ⟨_, List.Perm.refl _, ?_⟩)
      rcases h with ⟨e, rfl⟩
      · exact .inl ⟨fun h => hy h.2, e, ⟨x, PA, MA, FQ, HA, SQ, gt, gn, bs, bh, _, bg, GG, GB, GC, SG, RO, UP, LO, HO, V0, GA, ha, za, sa, ra, AC, WH, ka, fo, RW, NU, pad, fad, PF, LF, gb, (pm_b0 bp_0x2).symm, hpt, hct, hax, hsh, hhs⟩⟩
  · by_cases hy : ix (a 1) p1
    · obtain ⟨j, hj, rfl⟩ := ix_of8 hy (by omega)
      refine nk_l (qX11_agree_ny l D cy  d0 (x 1) (a 0) (x 2) (a 1) (x 3) (x 7) (x 10) (a 3) (x 11) (x 14) (x 17) (x 18) fnd MA p0 j b1 hx (ka j) hj (hpt.2.1 j hj)) (hw.trans (pm_b0 bp_0x2)) (Nat.le_of_ble_eq_true rfl) (Nat.le_of_ble_eq_true rfl) (Nat.le_of_ble_eq_true rfl) (Nat.le_of_ble_eq_true rfl) (fun r w1 h => ⟨_, List.Perm.refl _, ?_⟩)
      rcases h with ⟨e, rfl⟩
      · exact .inl ⟨fun h => hx h.1, e, ⟨x, PA, MA, FQ, HA, SQ, gt, gn, bs, bh, _, bg, GG, GB, GC, SG, RO, UP, LO, HO, V0, GA, ha, za, sa, ra, AC, WH, ka, fo, RW, NU, pad, fad, PF, LF, gb, (pm_b0 bp_0x2).symm, hpt, hct, hax, hsh, hhs⟩⟩
    · refine nk_l (qX11_agree_n l D cy  d0 (x 1) (a 0) (x 2) (a 1) (x 3) (x 7) (x 10) (a 3) (x 11) (x 14) (x 17) (x 18) fnd MA p0 p1 hx hy) (hw.trans (pm_b0 bp_0x2)) (Nat.le_of_ble_eq_true rfl) (Nat.le_of_ble_eq_true rfl) (Nat.le_of_ble_eq_true rfl) (Nat.le_of_ble_eq_true rfl) (fun r w1 h => ⟨_, List.Perm.refl _, ?_⟩)
      rcases h with ⟨e, rfl⟩
      · exact .inl ⟨fun h => hx h.1, e, ⟨x, PA, MA, FQ, HA, SQ, gt, gn, bs, bh, _, bg, GG, GB, GC, SG, RO, UP, LO, HO, V0, GA, ha, za, sa, ra, AC, WH, ka, fo, RW, NU, pad, fad, PF, LF, gb, (pm_b0 bp_0x2).symm, hpt, hct, hax, hsh, hhs⟩⟩
set_option maxHeartbeats 4000000 in
set_option maxRecDepth 100000 in
theorem is_group (l : Launch) (D : va_G) {cy : Nat → ClassId} {d0 : Nat} {a kp bt sz : Nat → Nat} {sheets : Nat → Int32} {ke km : Nat} {w : va_W} (hI : IvD cy d0 a kp bt sz sheets ke km w) (p0 : Int32) : kq_l l D (cT cy) yX11_group wsX11_group 6 0 0 140 [.ref d0, .int p0] w (fun r w1 => MP_group a kp bt sz sheets ke km p0 r (fun a kp bt sz sheets ke km => IvD cy d0 a kp bt sz sheets ke km w1)) := by
  obtain ⟨x, PA, MA, FQ, HA, SQ, gt, gn, bs, bh, fnd, bg, GG, GB, GC, SG, RO, UP, LO, HO, V0, GA, ha, za, sa, ra, AC, WH, ka, fo, RW, NU, pad, fad, PF, LF, gb, hw, hpt, hct, hax, hsh, hhs⟩ := hI
  obtain ⟨⟨b0, b1, b2, b3⟩, opl, omk, osg, ofd, osh, oz⟩ := id hhs.ok
  have hpc : pcR PF a (a 0) := fun i hi => ⟨opl i hi, hct.1 i hi⟩
  have hma : maR a (a 0) (a 1) := omk
  have hag : ∀ i j, i < a 1 → j < a 1 → (agM PF a i j ↔ agr a i j) := fun i j hi hj => ag_z hpc (omk i hi).1 (omk j hj).1
  by_cases hx : ix (a 1) p0
  · obtain ⟨i, hi, rfl⟩ := ix_of8 hx (by omega)
    refine nk_l (qX11_group_g l D cy pad PF ka a d0 (x 1) (a 0) (x 2) (a 1) (x 3) (x 7) (x 10) (a 3) (x 11) (x 14) (x 17) (x 18) fnd (x 4) (x 5) (x 6) gt gn GG GB GC MA i hi b1 hpt.2.1 hma hpc b0 hag) (hw.trans (pm_b0MWPW bp_0x3x4x5x6x2)) (Nat.le_of_ble_eq_true rfl) (Nat.le_of_ble_eq_true rfl) (Nat.le_of_ble_eq_true rfl) (Nat.le_of_ble_eq_true rfl) (fun r w1 h => ⟨_, List.Perm.refl _, ?_⟩)
    rcases h with ⟨G, Bm, c, hg, hc, e, rfl⟩
    · exact .inr ⟨i, ⟨rfl, hi⟩, G, c, hg, hc, e, ⟨x, PA, MA, FQ, HA, SQ, _, _, bs, bh, fnd, bg, _, _, GC, SG, RO, UP, LO, HO, V0, GA, ha, za, sa, ra, AC, WH, ka, fo, RW, NU, pad, fad, PF, LF, gb, (pm_b0MWPW bp_0x3x4x5x6x2).symm, hpt, hct, hax, hsh, hhs⟩⟩
  · refine nk_l (qX11_group_n l D cy  d0 (x 1) (a 0) (x 2) (a 1) (x 3) (x 7) (x 10) (a 3) (x 11) (x 14) (x 17) (x 18) fnd MA p0 hx) (hw.trans (pm_b0 bp_0x2)) (Nat.le_of_ble_eq_true rfl) (Nat.le_of_ble_eq_true rfl) (Nat.le_of_ble_eq_true rfl) (Nat.le_of_ble_eq_true rfl) (fun r w1 h => ⟨_, List.Perm.refl _, ?_⟩)
    rcases h with ⟨e, rfl⟩
    · exact .inl ⟨hx, e, ⟨x, PA, MA, FQ, HA, SQ, gt, gn, bs, bh, _, bg, GG, GB, GC, SG, RO, UP, LO, HO, V0, GA, ha, za, sa, ra, AC, WH, ka, fo, RW, NU, pad, fad, PF, LF, gb, (pm_b0 bp_0x2).symm, hpt, hct, hax, hsh, hhs⟩⟩
set_option maxHeartbeats 4000000 in
set_option maxRecDepth 100000 in
theorem is_groups (l : Launch) (D : va_G) {cy : Nat → ClassId} {d0 : Nat} {a kp bt sz : Nat → Nat} {sheets : Nat → Int32} {ke km : Nat} {w : va_W} (hI : IvD cy d0 a kp bt sz sheets ke km w)  : kq_l l D (cT cy) yX11_groups wsX11_groups 6 0 0 140 [.ref d0] w (fun r w1 => MP_groups a kp bt sz sheets ke km  r (fun a kp bt sz sheets ke km => IvD cy d0 a kp bt sz sheets ke km w1)) := by
  obtain ⟨x, PA, MA, FQ, HA, SQ, gt, gn, bs, bh, fnd, bg, GG, GB, GC, SG, RO, UP, LO, HO, V0, GA, ha, za, sa, ra, AC, WH, ka, fo, RW, NU, pad, fad, PF, LF, gb, hw, hpt, hct, hax, hsh, hhs⟩ := hI
  obtain ⟨⟨b0, b1, b2, b3⟩, opl, omk, osg, ofd, osh, oz⟩ := id hhs.ok
  have hpc : pcR PF a (a 0) := fun i hi => ⟨opl i hi, hct.1 i hi⟩
  have hma : maR a (a 0) (a 1) := omk
  have hag : ∀ i j, i < a 1 → j < a 1 → (agM PF a i j ↔ agr a i j) := fun i j hi hj => ag_z hpc (omk i hi).1 (omk j hj).1
  refine nk_l (qX11_groups_g l D cy pad PF ka a d0 (x 1) (a 0) (x 2) (a 1) (x 3) (x 7) (x 10) (a 3) (x 11) (x 14) (x 17) (x 18) fnd (x 4) (x 5) (x 6) gt gn GG GB GC MA  b1 hpt.2.1 hma hpc b0 hag) (hw.trans (pm_b0MWPW bp_0x3x4x5x6x2)) (Nat.le_of_ble_eq_true rfl) (Nat.le_of_ble_eq_true rfl) (Nat.le_of_ble_eq_true rfl) (Nat.le_of_ble_eq_true rfl) (fun r w1 h => ⟨_, List.Perm.refl _, ?_⟩)
  rcases h with ⟨G, Bm, c, hg, hc, e, rfl⟩
  · exact ⟨G, c, hg, hc, e, ⟨x, PA, MA, FQ, HA, SQ, _, _, bs, bh, fnd, bg, _, _, GC, SG, RO, UP, LO, HO, V0, GA, ha, za, sa, ra, AC, WH, ka, fo, RW, NU, pad, fad, PF, LF, gb, (pm_b0MWPW bp_0x3x4x5x6x2).symm, hpt, hct, hax, hsh, hhs⟩⟩
set_option maxHeartbeats 4000000 in
set_option maxRecDepth 100000 in
theorem is_rivals (l : Launch) (D : va_G) {cy : Nat → ClassId} {d0 : Nat} {a kp bt sz : Nat → Nat} {sheets : Nat → Int32} {ke km : Nat} {w : va_W} (hI : IvD cy d0 a kp bt sz sheets ke km w) (p0 : Int32) : kq_l l D (cT cy) yX11_rivals wsX11_rivals 6 0 0 140 [.ref d0, .int p0] w (fun r w1 => MP_rivals a kp bt sz sheets ke km p0 r (fun a kp bt sz sheets ke km => IvD cy d0 a kp bt sz sheets ke km w1)) := by
  obtain ⟨x, PA, MA, FQ, HA, SQ, gt, gn, bs, bh, fnd, bg, GG, GB, GC, SG, RO, UP, LO, HO, V0, GA, ha, za, sa, ra, AC, WH, ka, fo, RW, NU, pad, fad, PF, LF, gb, hw, hpt, hct, hax, hsh, hhs⟩ := hI
  obtain ⟨⟨b0, b1, b2, b3⟩, opl, omk, osg, ofd, osh, oz⟩ := id hhs.ok
  have hpc : pcR PF a (a 0) := fun i hi => ⟨opl i hi, hct.1 i hi⟩
  have hma : maR a (a 0) (a 1) := omk
  have hag : ∀ i j, i < a 1 → j < a 1 → (agM PF a i j ↔ agr a i j) := fun i j hi hj => ag_z hpc (omk i hi).1 (omk j hj).1
  refine nk_l (qX11_rivals_g l D cy pad PF ka a d0 (x 1) (a 0) (x 2) (a 1) (x 3) (x 7) (x 10) (a 3) (x 11) (x 14) (x 17) (x 18) fnd (x 4) (x 5) (x 6) gt gn GG GB GC MA p0 b1 hpt.2.1 hma hpc b0 hag) (hw.trans (pm_b0MWPW bp_0x3x4x5x6x2)) (Nat.le_of_ble_eq_true rfl) (Nat.le_of_ble_eq_true rfl) (Nat.le_of_ble_eq_true rfl) (Nat.le_of_ble_eq_true rfl) (fun r w1 h => ⟨_, List.Perm.refl _, ?_⟩)
  rcases h with ⟨G, Bm, c, hg, hc, ⟨g, e, rfl⟩ | ⟨k, rfl, g, e, rfl⟩⟩
  · exact ⟨G, c, hg, hc, .inl ⟨g, e, ⟨x, PA, MA, FQ, HA, SQ, _, _, bs, bh, _, bg, _, _, GC, SG, RO, UP, LO, HO, V0, GA, ha, za, sa, ra, AC, WH, ka, fo, RW, NU, pad, fad, PF, LF, gb, (pm_b0MWPW bp_0x3x4x5x6x2).symm, hpt, hct, hax, hsh, hhs⟩⟩⟩
  · exact ⟨G, c, hg, hc, .inr ⟨k, rfl, g, by rw [e, rvC_N], ⟨x, PA, MA, FQ, HA, SQ, _, _, bs, bh, _, bg, _, _, GC, SG, RO, UP, LO, HO, V0, GA, ha, za, sa, ra, AC, WH, ka, fo, RW, NU, pad, fad, PF, LF, gb, (pm_b0MWPW bp_0x3x4x5x6x2).symm, hpt, hct, hax, hsh, hhs⟩⟩⟩
set_option maxHeartbeats 4000000 in
set_option maxRecDepth 100000 in
theorem is_is (l : Launch) (D : va_G) {cy : Nat → ClassId} {d0 : Nat} {a kp bt sz : Nat → Nat} {sheets : Nat → Int32} {ke km : Nat} {w : va_W} (hI : IvD cy d0 a kp bt sz sheets ke km w) (p0 : Int32) : kq_l l D (cT cy) yX11_is wsX11_is 6 0 0 140 [.ref d0, .int p0] w (fun r w1 => MP_is a kp bt sz sheets ke km p0 r (fun a kp bt sz sheets ke km => IvD cy d0 a kp bt sz sheets ke km w1)) := by
  obtain ⟨x, PA, MA, FQ, HA, SQ, gt, gn, bs, bh, fnd, bg, GG, GB, GC, SG, RO, UP, LO, HO, V0, GA, ha, za, sa, ra, AC, WH, ka, fo, RW, NU, pad, fad, PF, LF, gb, hw, hpt, hct, hax, hsh, hhs⟩ := hI
  obtain ⟨⟨b0, b1, b2, b3⟩, opl, omk, osg, ofd, osh, oz⟩ := id hhs.ok
  have hpc : pcR PF a (a 0) := fun i hi => ⟨opl i hi, hct.1 i hi⟩
  have hma : maR a (a 0) (a 1) := omk
  have hag : ∀ i j, i < a 1 → j < a 1 → (agM PF a i j ↔ agr a i j) := fun i j hi hj => ag_z hpc (omk i hi).1 (omk j hj).1
  have hwc : wrGo SG (a 2) (a 2) 0 0 = wrGo (fun j => a (322 + j)) (a 2) (a 2) 0 0 := wr_cong (fun j hj => hct.2.1 j hj) _ _ _ (by omega)
  refine nk_l (qX11_is_g l D cy pad PF ka a d0 (x 1) (a 0) (x 2) (a 1) (x 3) (x 7) (x 10) (a 3) (x 11) (x 14) (x 17) (x 18) fnd (x 4) (x 5) (x 6) gt gn GG GB GC MA (x 8) (a 2) (x 9) SG RO p0 b1 hpt.2.1 hma hpc b0 hag hax.2.2.2.2 b2 (fun k hk => by rw [hct.2.1 k hk]; exact osg k hk) hax.2.2.2.1) (hw.trans (pm_b0MWPW bp_0x3x4x5x6x2x7x8x9)) (Nat.le_of_ble_eq_true rfl) (Nat.le_of_ble_eq_true rfl) (Nat.le_of_ble_eq_true rfl) (Nat.le_of_ble_eq_true rfl) (fun r w1 h => ⟨_, List.Perm.refl _, ?_⟩)
  rcases h with ⟨G, Bm, c, hg, hc, ⟨g, e, rfl⟩ | ⟨k, rfl, g, ⟨g2, e, rfl⟩ | ⟨g2, rr, d, hE, e, rfl⟩⟩⟩
  · exact ⟨G, c, hg, hc, .inl ⟨g, e, ⟨x, PA, MA, FQ, HA, SQ, _, _, bs, bh, _, bg, _, _, GC, SG, RO, UP, LO, HO, V0, GA, ha, za, sa, ra, AC, WH, ka, fo, RW, NU, pad, fad, PF, LF, gb, (pm_b0MWPW bp_0x3x4x5x6x2x7x8x9).symm, hpt, hct, hax, hsh, hhs⟩⟩⟩
  · exact ⟨G, c, hg, hc, .inr ⟨k, rfl, g, .inl ⟨by rw [← hwc]; exact g2, e, ⟨x, PA, MA, FQ, HA, SQ, _, _, bs, bh, _, bg, _, _, GC, SG, RO, UP, LO, HO, V0, GA, ha, za, sa, ra, AC, WH, ka, fo, RW, NU, pad, fad, PF, LF, gb, (pm_b0MWPW bp_0x3x4x5x6x2x7x8x9).symm, hpt, hct, hax, hsh, hhs⟩⟩⟩⟩
  · exact ⟨G, c, hg, hc, .inr ⟨k, rfl, g, .inr ⟨by rw [← hwc]; exact g2, RO, rr, d, by rw [← hE]; exact (exS_cg (fun k hk => hct.2.1 k hk) (fun k hk hv => fcE_V a G _ _ _ (by have := osg k hk; rw [← hct.2.1 k hk] at this; omega))).symm, e, ⟨x, PA, MA, FQ, HA, SQ, _, _, bs, bh, _, bg, _, _, _, SG, _, UP, LO, HO, V0, GA, ha, za, sa, ra, AC, WH, ka, fo, RW, NU, pad, fad, PF, LF, gb, (pm_b0MWPW bp_0x3x4x5x6x2x7x8x9).symm, hpt, hct, ⟨hax.1, hax.2.1, hax.2.2.1, exS_b (fun v => fcE_b hma b1 (cpN_b hax.2.2.2.2) _) (fun k hk => by rw [hct.2.1 k hk]; have := osg k hk; omega) hax.2.2.2.1 hE, fcE_b hma b1 (cpN_b hax.2.2.2.2)⟩, hsh, hhs⟩⟩⟩⟩
set_option maxHeartbeats 4000000 in
set_option maxRecDepth 100000 in
theorem is_wrong (l : Launch) (D : va_G) {cy : Nat → ClassId} {d0 : Nat} {a kp bt sz : Nat → Nat} {sheets : Nat → Int32} {ke km : Nat} {w : va_W} (hI : IvD cy d0 a kp bt sz sheets ke km w)  : kq_l l D (cT cy) yX11_wrong wsX11_wrong 2 0 0 43 [.ref d0] w (fun r w1 => MP_wrong a kp bt sz sheets ke km  r (fun a kp bt sz sheets ke km => IvD cy d0 a kp bt sz sheets ke km w1)) := by
  obtain ⟨x, PA, MA, FQ, HA, SQ, gt, gn, bs, bh, fnd, bg, GG, GB, GC, SG, RO, UP, LO, HO, V0, GA, ha, za, sa, ra, AC, WH, ka, fo, RW, NU, pad, fad, PF, LF, gb, hw, hpt, hct, hax, hsh, hhs⟩ := hI
  obtain ⟨⟨b0, b1, b2, b3⟩, opl, omk, osg, ofd, osh, oz⟩ := id hhs.ok
  have hpc : pcR PF a (a 0) := fun i hi => ⟨opl i hi, hct.1 i hi⟩
  have hma : maR a (a 0) (a 1) := omk
  refine nk_l (qX11_wrong l D cy  d0 (x 1) (a 0) (x 2) (a 1) (x 3) (x 7) (x 10) (a 3) (x 11) (x 14) (x 17) (x 18) fnd (x 8) (a 2) (x 9) SG RO  b2 (fun k hk => by rw [hct.2.1 k hk]; have := osg k hk; omega)) (hw.trans (pm_b0 bp_0x7x8x9)) (Nat.le_of_ble_eq_true rfl) (Nat.le_of_ble_eq_true rfl) (Nat.le_of_ble_eq_true rfl) (Nat.le_of_ble_eq_true rfl) (fun r w1 h => ⟨_, List.Perm.refl _, ?_⟩)
  rcases h with ⟨e, rfl⟩
  · exact ⟨by rw [e, wr_cong (fun j hj => hct.2.1 j hj) _ _ _ (by omega)], ⟨x, PA, MA, FQ, HA, SQ, gt, gn, bs, bh, fnd, bg, GG, GB, GC, SG, RO, UP, LO, HO, V0, GA, ha, za, sa, ra, AC, WH, ka, fo, RW, NU, pad, fad, PF, LF, gb, (pm_b0 bp_0x7x8x9).symm, hpt, hct, hax, hsh, hhs⟩⟩
theorem sh_z {a UP LO : Nat → Nat} (ht : ∀ c, c < 64 → UP c = a (470 + 2 * c) ∧ LO c = a (470 + 2 * c + 1)) {so cr dr : Nat} (h1 : so ≤ 3) (h2 : cr ≤ 3) (h3 : dr ≤ 3) (z : Int32) : (if z = 0 then UP ((so * 4 + cr) * 4 + dr) else LO ((so * 4 + cr) * 4 + dr)) = a (470 + 2 * (16 * so + 4 * cr + dr) + zN z) := by
  have e : (so * 4 + cr) * 4 + dr = 16 * so + 4 * cr + dr := by omega
  obtain ⟨t1, t2⟩ := ht (16 * so + 4 * cr + dr) (by omega)
  rw [e]
  by_cases q : z = 0
  · rw [if_pos q, zN_0 q, t1]
    rfl
  · rw [if_neg q, zN_1 q, t2]
set_option maxHeartbeats 4000000 in
set_option maxRecDepth 100000 in
theorem is_showing (l : Launch) (D : va_G) {cy : Nat → ClassId} {d0 : Nat} {a kp bt sz : Nat → Nat} {sheets : Nat → Int32} {ke km : Nat} {w : va_W} (hI : IvD cy d0 a kp bt sz sheets ke km w) (p0 : Int32) (p1 : Int32) (p2 : Int32) (p3 : Int32) : kq_l l D (cT cy) yX11_showing wsX11_showing 4 0 0 87 [.ref d0, .int p0, .int p1, .int p2, .int p3] w (fun r w1 => MP_showing a kp bt sz sheets ke km p0 p1 p2 p3 r (fun a kp bt sz sheets ke km => IvD cy d0 a kp bt sz sheets ke km w1)) := by
  obtain ⟨x, PA, MA, FQ, HA, SQ, gt, gn, bs, bh, fnd, bg, GG, GB, GC, SG, RO, UP, LO, HO, V0, GA, ha, za, sa, ra, AC, WH, ka, fo, RW, NU, pad, fad, PF, LF, gb, hw, hpt, hct, hax, hsh, hhs⟩ := hI
  obtain ⟨⟨b0, b1, b2, b3⟩, opl, omk, osg, ofd, osh, oz⟩ := id hhs.ok
  have hpc : pcR PF a (a 0) := fun i hi => ⟨opl i hi, hct.1 i hi⟩
  have hma : maR a (a 0) (a 1) := omk
  refine nk_l (qX11_showing l D cy  d0 (x 1) (a 0) (x 2) (a 1) (x 3) (x 7) (x 10) (a 3) (x 11) (x 14) (x 17) (x 18) fnd (x 12) (x 13) UP LO p0 p1 p2 p3 ) (hw.trans (pm_b0 bp_0x11x12x13)) (Nat.le_of_ble_eq_true rfl) (Nat.le_of_ble_eq_true rfl) (Nat.le_of_ble_eq_true rfl) (Nat.le_of_ble_eq_true rfl) (fun r w1 h => ⟨_, List.Perm.refl _, ?_⟩)
  rcases h with ⟨g, e, rfl⟩ | ⟨so, cr, dr, ⟨rfl, rfl, rfl, q1, q2, q3⟩, e, rfl⟩
  · exact .inl ⟨g, e, ⟨x, PA, MA, FQ, HA, SQ, gt, gn, bs, bh, _, bg, GG, GB, GC, SG, RO, UP, LO, HO, V0, GA, ha, za, sa, ra, AC, WH, ka, fo, RW, NU, pad, fad, PF, LF, gb, (pm_b0 bp_0x11x12x13).symm, hpt, hct, hax, hsh, hhs⟩⟩
  · exact .inr ⟨so, cr, dr, ⟨rfl, rfl, rfl, q1, q2, q3⟩, by rw [e, sh_z hct.2.2.2.1 q1 q2 q3], ⟨x, PA, MA, FQ, HA, SQ, gt, gn, bs, bh, _, bg, GG, GB, GC, SG, RO, UP, LO, HO, V0, GA, ha, za, sa, ra, AC, WH, ka, fo, RW, NU, pad, fad, PF, LF, gb, (pm_b0 bp_0x11x12x13).symm, hpt, hct, hax, hsh, hhs⟩⟩
set_option maxHeartbeats 4000000 in
set_option maxRecDepth 100000 in
theorem is_belief (l : Launch) (D : va_G) {cy : Nat → ClassId} {d0 : Nat} {a kp bt sz : Nat → Nat} {sheets : Nat → Int32} {ke km : Nat} {w : va_W} (hI : IvD cy d0 a kp bt sz sheets ke km w) (p0 : Int32) (p1 : Int32) : kq_l l D (cT cy) yX11_belief wsX11_belief 5 0 0 120 [.ref d0, .int p0, .int p1] w (fun r w1 => MP_belief a kp bt sz sheets ke km p0 p1 r (fun a kp bt sz sheets ke km => IvD cy d0 a kp bt sz sheets ke km w1)) := by
  obtain ⟨x, PA, MA, FQ, HA, SQ, gt, gn, bs, bh, fnd, bg, GG, GB, GC, SG, RO, UP, LO, HO, V0, GA, ha, za, sa, ra, AC, WH, ka, fo, RW, NU, pad, fad, PF, LF, gb, hw, hpt, hct, hax, hsh, hhs⟩ := hI
  obtain ⟨⟨b0, b1, b2, b3⟩, opl, omk, osg, ofd, osh, oz⟩ := id hhs.ok
  have hpc : pcR PF a (a 0) := fun i hi => ⟨opl i hi, hct.1 i hi⟩
  have hma : maR a (a 0) (a 1) := omk
  by_cases hx : ix (a 3) p0
  · obtain ⟨i, hi, rfl⟩ := ix_of8 hx (by omega)
    obtain ⟨f1, f2, f3, f4, f5, f6⟩ := id (ofd i hi)
    have hlk := lk_ok (ofd i hi) (hct.2.2.1 i hi)
    have htb := tb_ok hhs.ok hct.2.2.2.1
    obtain ⟨u1, u2, u3⟩ := bu_b (SN := LF 2 i) f1 hlk f2 htb _ (Nat.le_refl _)
    have u4 := p34 f5
    refine nk_l (qX11_belief_y l D cy  d0 (x 1) (a 0) (x 2) (a 1) (x 3) (x 7) (x 10) (a 3) (x 11) (x 14) (x 17) (x 18) fnd FQ (fad 0 i) (a (334 + 5 * i)) (a (334 + 5 * i + 1)) (a (334 + 5 * i + 2)) (fad 1 i) (fad 2 i) (fad 3 i) (a (334 + 5 * i + 4)) (a (334 + 5 * i + 3)) (fo i) (LF 0 i) (LF 1 i) (LF 2 i) (x 12) (x 13) UP LO i p1 hi b3 (hpt.2.2.1 i hi) f5 hlk f1 f2 (fun c hc => ⟨(htb c hc).1, (htb c hc).2.1, Nat.le_trans (htb c hc).2.2 (by decide)⟩) (Nat.lt_of_le_of_lt u1 u4) (Nat.lt_of_le_of_lt u2 u4) u3) (hw.trans (pm_b0Fb1 bp_0x10_11x12x13 (fl_get (i := i) hi))) (Nat.le_of_ble_eq_true rfl) (Nat.le_of_ble_eq_true rfl) (Nat.le_of_ble_eq_true rfl) (Nat.le_of_ble_eq_true rfl) (fun r w1 h => ⟨_, List.Perm.refl _, ?_⟩)
    rcases h with ⟨e, rfl⟩
    · have es := fs_z (ofd i hi) (hct.2.2.1 i hi) _ (Nat.le_refl _)
      obtain ⟨x1, x2⟩ := bu_z (ofd i hi) (hct.2.2.1 i hi) hct.2.2.2.1 _ (Nat.le_refl _)
      rw [es, x1, x2] at e
      by_cases q : sn a i
      · exact .inr ⟨i, ⟨rfl, hi⟩, .inl ⟨q, by rw [e]; exact if_pos q, ⟨x, PA, MA, FQ, HA, SQ, gt, gn, bs, bh, fnd, bg, GG, GB, GC, SG, RO, UP, LO, HO, V0, GA, ha, za, sa, ra, AC, WH, ka, fo, RW, NU, pad, fad, PF, LF, gb, (pm_b0Fb1 bp_0x10_11x12x13 (fl_get (i := i) hi)).symm, hpt, hct, hax, hsh, hhs⟩⟩⟩
      · exact .inr ⟨i, ⟨rfl, hi⟩, .inr ⟨q, by rw [e]; exact if_neg q, ⟨x, PA, MA, FQ, HA, SQ, gt, gn, bs, bh, fnd, bg, GG, GB, GC, SG, RO, UP, LO, HO, V0, GA, ha, za, sa, ra, AC, WH, ka, fo, RW, NU, pad, fad, PF, LF, gb, (pm_b0Fb1 bp_0x10_11x12x13 (fl_get (i := i) hi)).symm, hpt, hct, hax, hsh, hhs⟩⟩⟩
  · refine nk_l (qX11_belief_n l D cy  d0 (x 1) (a 0) (x 2) (a 1) (x 3) (x 7) (x 10) (a 3) (x 11) (x 14) (x 17) (x 18) fnd FQ p0 p1 hx) (hw.trans (pm_b0 bp_0x10)) (Nat.le_of_ble_eq_true rfl) (Nat.le_of_ble_eq_true rfl) (Nat.le_of_ble_eq_true rfl) (Nat.le_of_ble_eq_true rfl) (fun r w1 h => ⟨_, List.Perm.refl _, ?_⟩)
    rcases h with ⟨e, rfl⟩
    · exact .inl ⟨hx, e, ⟨x, PA, MA, FQ, HA, SQ, gt, gn, bs, bh, _, bg, GG, GB, GC, SG, RO, UP, LO, HO, V0, GA, ha, za, sa, ra, AC, WH, ka, fo, RW, NU, pad, fad, PF, LF, gb, (pm_b0 bp_0x10).symm, hpt, hct, hax, hsh, hhs⟩⟩
theorem pl_z {a UP LO V0 HO : Nat → Nat} {LF : Nat → Nat → Nat → Nat} (ofd : ∀ i, i < a 3 → fdOk a i) (b3 : a 3 ≤ 8) (h : ∀ i, i < a 3 → ∀ k, k < a (334 + 5 * i + 4) → ∀ j, j < 3 → LF j i k = a (374 + 12 * i + 3 * k + j)) (ht : ∀ c, c < 64 → UP c = a (470 + 2 * c) ∧ LO c = a (470 + 2 * c + 1)) {cr dr : Nat} (hc : cr ≤ 3) (hd : dr ≤ 3) (hr : Nat) : plB (fun st => sumS (wfN V0 (fgV (fun i => a (334 + 5 * i)) (fun i => a (334 + 5 * i + 1)) (fun i => a (334 + 5 * i + 4)) (fun i => a (334 + 5 * i + 3)) (LF 2) UP LO cr dr) (a 3)) st 8) (fun st => sumS (wfN HO (fun i => a (334 + 5 * i + 2)) (a 3)) st 8) hr (2 ^ a 3) = plB (fun st => sumS (fun f => brv a f cr dr) st (a 3)) (fun st => sumS (fun f => a (334 + 5 * f + 2)) st (a 3)) hr (2 ^ a 3) := plB_top b3 (fun f hf => by
    rw [wfN, if_pos hf]
    exact fg_z (ofd f hf) (h f hf) ht hc hd) (fun f hf => if_pos hf)
theorem pl_b {a : Nat → Nat} (hok : okA a) {cr dr : Nat} (hc : cr ≤ 3) (hd : dr ≤ 3) (K : Nat → Nat) (hr : Nat) : (plB (fun st => sumS (fun f => brv a f cr dr) st (a 3)) K hr (2 ^ a 3)).2.1 < 2 ^ 31 := by
  have h3 := hok.1.2.2.2
  have h := (plB_b (S := fun st => sumS (fun f => brv a f cr dr) st (a 3)) (K := K) (hr := hr) (B := a 3 * 49500000) (n := 2 ^ a 3) (fun k _ => sumS_b (fun q hq => brv_b (hok.2.2.2.2.1 q hq) (okA_shOk hok) hc hd))).1
  omega
set_option maxHeartbeats 4000000 in
set_option maxRecDepth 100000 in
theorem is_plan (l : Launch) (D : va_G) {cy : Nat → ClassId} {d0 : Nat} {a kp bt sz : Nat → Nat} {sheets : Nat → Int32} {ke km : Nat} {w : va_W} (hI : IvD cy d0 a kp bt sz sheets ke km w) (p0 : Int32) (p1 : Int32) (p2 : Int32) : kq_l l D (cT cy) yX11_plan wsX11_plan 7 0 0 161 [.ref d0, .int p0, .int p1, .int p2] w (fun r w1 => MP_plan a kp bt sz sheets ke km p0 p1 p2 r (fun a kp bt sz sheets ke km => IvD cy d0 a kp bt sz sheets ke km w1)) := by
  obtain ⟨x, PA, MA, FQ, HA, SQ, gt, gn, bs, bh, fnd, bg, GG, GB, GC, SG, RO, UP, LO, HO, V0, GA, ha, za, sa, ra, AC, WH, ka, fo, RW, NU, pad, fad, PF, LF, gb, hw, hpt, hct, hax, hsh, hhs⟩ := hI
  obtain ⟨⟨b0, b1, b2, b3⟩, opl, omk, osg, ofd, osh, oz⟩ := id hhs.ok
  have hpc : pcR PF a (a 0) := fun i hi => ⟨opl i hi, hct.1 i hi⟩
  have hma : maR a (a 0) (a 1) := omk
  have htb := tb_ok hhs.ok hct.2.2.2.1
  have htb2 : tbOk UP LO := fun c hc => ⟨(htb c hc).1, (htb c hc).2.1, Nat.le_trans (htb c hc).2.2 (by decide)⟩
  have hfl : ∀ j, j < a 3 → flOk (fad 0) (fad 1) (fad 2) (fad 3) (fun i => a (334 + 5 * i)) (fun i => a (334 + 5 * i + 1)) (fun i => a (334 + 5 * i + 2)) (fun i => a (334 + 5 * i + 4)) (fun i => a (334 + 5 * i + 3)) fo (LF 0) (LF 1) (LF 2) j := fun j hj => ⟨(ofd j hj).2.2.2.2.1, lk_ok (ofd j hj) (hct.2.2.1 j hj), (ofd j hj).1, (ofd j hj).2.2.2.1, (ofd j hj).2.1, (ofd j hj).2.2.1.2⟩
  refine nk_l (qX11_plan_g l D cy (fad 0) (fad 1) (fad 2) (fad 3) (fun i => a (334 + 5 * i)) (fun i => a (334 + 5 * i + 1)) (fun i => a (334 + 5 * i + 2)) (fun i => a (334 + 5 * i + 4)) (fun i => a (334 + 5 * i + 3)) fo (LF 0) (LF 1) (LF 2) d0 (x 1) (a 0) (x 2) (a 1) (x 3) (x 7) (x 10) (a 3) (x 11) (x 14) (x 17) (x 18) fnd (x 15) (x 16) bs bg bh GA HO (x 12) (x 13) UP LO FQ p0 p1 p2 V0 hax.1 hax.2.1 hax.2.2.1 b3 hpt.2.2.1 hfl htb2) (hw.trans (pm_b0FW bp_0x14x15x16x11x12x13x10)) (Nat.le_of_ble_eq_true rfl) (Nat.le_of_ble_eq_true rfl) (Nat.le_of_ble_eq_true rfl) (Nat.le_of_ble_eq_true rfl) (fun r w1 h => ⟨_, List.Perm.refl _, ?_⟩)
  rcases h with ⟨g, e, rfl⟩ | ⟨hr, cr, dr, ⟨rfl, rfl, rfl, z1, z2, z3⟩, e, rfl⟩
  · exact .inl ⟨g, e, ⟨x, PA, MA, FQ, HA, SQ, gt, gn, bs, bh, _, bg, GG, GB, GC, SG, RO, UP, LO, HO, V0, GA, ha, za, sa, ra, AC, WH, ka, fo, RW, NU, pad, fad, PF, LF, gb, (pm_b0FW bp_0x14x15x16x11x12x13x10).symm, hpt, hct, hax, hsh, hhs⟩⟩
  · exact .inr ⟨hr, cr, dr, ⟨rfl, rfl, rfl, z1, z2, z3⟩, by rw [e, pl_z ofd b3 hct.2.2.1 hct.2.2.2.1 z2 z3], ⟨x, PA, MA, FQ, HA, SQ, gt, gn, _, _, fnd, _, GG, GB, GC, SG, RO, UP, LO, _, _, _, ha, za, sa, ra, AC, WH, ka, fo, RW, NU, pad, fad, PF, LF, gb, (pm_b0FW bp_0x14x15x16x11x12x13x10).symm, hpt, hct, wf_hax hax (fun j hj => Nat.le_trans (fgV_b (ofd j hj).1 (ofd j hj).2.1.2 z2 z3 htb2) (by decide)) (fun j hj => (ofd j hj).2.2.1.2), hsh, hhs⟩⟩
set_option maxHeartbeats 4000000 in
set_option maxRecDepth 100000 in
theorem is_brings (l : Launch) (D : va_G) {cy : Nat → ClassId} {d0 : Nat} {a kp bt sz : Nat → Nat} {sheets : Nat → Int32} {ke km : Nat} {w : va_W} (hI : IvD cy d0 a kp bt sz sheets ke km w) (p0 : Int32) (p1 : Int32) (p2 : Int32) : kq_l l D (cT cy) yX11_brings wsX11_brings 7 0 0 161 [.ref d0, .int p0, .int p1, .int p2] w (fun r w1 => MP_brings a kp bt sz sheets ke km p0 p1 p2 r (fun a kp bt sz sheets ke km => IvD cy d0 a kp bt sz sheets ke km w1)) := by
  obtain ⟨x, PA, MA, FQ, HA, SQ, gt, gn, bs, bh, fnd, bg, GG, GB, GC, SG, RO, UP, LO, HO, V0, GA, ha, za, sa, ra, AC, WH, ka, fo, RW, NU, pad, fad, PF, LF, gb, hw, hpt, hct, hax, hsh, hhs⟩ := hI
  obtain ⟨⟨b0, b1, b2, b3⟩, opl, omk, osg, ofd, osh, oz⟩ := id hhs.ok
  have hpc : pcR PF a (a 0) := fun i hi => ⟨opl i hi, hct.1 i hi⟩
  have hma : maR a (a 0) (a 1) := omk
  have htb := tb_ok hhs.ok hct.2.2.2.1
  have htb2 : tbOk UP LO := fun c hc => ⟨(htb c hc).1, (htb c hc).2.1, Nat.le_trans (htb c hc).2.2 (by decide)⟩
  have hfl : ∀ j, j < a 3 → flOk (fad 0) (fad 1) (fad 2) (fad 3) (fun i => a (334 + 5 * i)) (fun i => a (334 + 5 * i + 1)) (fun i => a (334 + 5 * i + 2)) (fun i => a (334 + 5 * i + 4)) (fun i => a (334 + 5 * i + 3)) fo (LF 0) (LF 1) (LF 2) j := fun j hj => ⟨(ofd j hj).2.2.2.2.1, lk_ok (ofd j hj) (hct.2.2.1 j hj), (ofd j hj).1, (ofd j hj).2.2.2.1, (ofd j hj).2.1, (ofd j hj).2.2.1.2⟩
  refine nk_l (qX11_brings_g l D cy (fad 0) (fad 1) (fad 2) (fad 3) (fun i => a (334 + 5 * i)) (fun i => a (334 + 5 * i + 1)) (fun i => a (334 + 5 * i + 2)) (fun i => a (334 + 5 * i + 4)) (fun i => a (334 + 5 * i + 3)) fo (LF 0) (LF 1) (LF 2) d0 (x 1) (a 0) (x 2) (a 1) (x 3) (x 7) (x 10) (a 3) (x 11) (x 14) (x 17) (x 18) fnd (x 15) (x 16) bs bg bh GA HO (x 12) (x 13) UP LO FQ p0 p1 p2 V0 hax.1 hax.2.1 hax.2.2.1 b3 hpt.2.2.1 hfl htb2) (hw.trans (pm_b0FW bp_0x14x15x16x11x12x13x10)) (Nat.le_of_ble_eq_true rfl) (Nat.le_of_ble_eq_true rfl) (Nat.le_of_ble_eq_true rfl) (Nat.le_of_ble_eq_true rfl) (fun r w1 h => ⟨_, List.Perm.refl _, ?_⟩)
  rcases h with ⟨g, e, rfl⟩ | ⟨hr, cr, dr, ⟨rfl, rfl, rfl, z1, z2, z3⟩, e, rfl⟩
  · exact .inl ⟨g, e, ⟨x, PA, MA, FQ, HA, SQ, gt, gn, bs, bh, _, bg, GG, GB, GC, SG, RO, UP, LO, HO, V0, GA, ha, za, sa, ra, AC, WH, ka, fo, RW, NU, pad, fad, PF, LF, gb, (pm_b0FW bp_0x14x15x16x11x12x13x10).symm, hpt, hct, hax, hsh, hhs⟩⟩
  · exact .inr ⟨hr, cr, dr, ⟨rfl, rfl, rfl, z1, z2, z3⟩, by rw [e, pl_z ofd b3 hct.2.2.1 hct.2.2.2.1 z2 z3]; exact (nI_l (pl_b hhs.ok z2 z3 _ _)).symm, ⟨x, PA, MA, FQ, HA, SQ, gt, gn, _, _, fnd, _, GG, GB, GC, SG, RO, UP, LO, _, _, _, ha, za, sa, ra, AC, WH, ka, fo, RW, NU, pad, fad, PF, LF, gb, (pm_b0FW bp_0x14x15x16x11x12x13x10).symm, hpt, hct, wf_hax hax (fun j hj => Nat.le_trans (fgV_b (ofd j hj).1 (ofd j hj).2.1.2 z2 z3 htb2) (by decide)) (fun j hj => (ofd j hj).2.2.1.2), hsh, hhs⟩⟩
