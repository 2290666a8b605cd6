theorem as_z {k u : Nat} (hu : u ≤ 3) : undr k u ↔ asOk u k := by
  show (u = k ∨ u = 0 ∨ (k = 3 ∧ u = 1)) ↔ (u = 0 ∨ k = u ∨ (u = 1 ∧ (k = 1 ∨ k = 3)))
  omega
set_option maxHeartbeats 4000000 in
set_option maxRecDepth 100000 in
theorem is_is (l : Launch) (D : va_G) {cy : Nat → ClassId} {d0 : Nat} {a kp bt sz : Nat → Nat} {sheets : Nat → Int32} {ke km : Nat} {w : va_W} (hI : IvD cy d0 a kp bt sz sheets ke km w) (p0 : Int32) : kq_l l D (cT cy) yX11_is wsX11_is 6 0 0 140 [.ref d0, .int p0] w (fun r w1 => MP_is a kp bt sz sheets ke km p0 r (fun a kp bt sz sheets ke km => IvD cy d0 a kp bt sz sheets ke km w1)) := by
  obtain ⟨x, PA, MA, FQ, HA, SQ, gt, gn, bs, bh, fnd, bg, GG, GB, GC, SG, RO, UP, LO, HO, V0, GA, ha, za, sa, ra, AC, WH, ka, fo, RW, NU, pad, fad, PF, LF, gb, hw, hpt, hct, hax, hsh, hhs⟩ := hI
  obtain ⟨⟨b0, b1, b2, b3⟩, opl, omk, osg, ofd, osh, oz⟩ := id hhs.ok
  have hpc : pcR PF a (a 0) := fun i hi => ⟨opl i hi, hct.1 i hi⟩
  have hma : maR a (a 0) (a 1) := omk
  have hag : ∀ i j, i < a 1 → j < a 1 → (agM PF a i j ↔ agr a i j) := fun i j hi hj => ag_z hpc (omk i hi).1 (omk j hj).1
  have hwc : wrGo SG (a 2) (a 2) 0 0 = wrGo (fun j => a (322 + j)) (a 2) (a 2) 0 0 := wr_cong (fun j hj => hct.2.1 j hj) _ _ _ (by omega)
  refine nk_l (qX11_is_g l D cy pad PF ka a d0 (x 1) (a 0) (x 2) (a 1) (x 3) (x 7) (x 10) (a 3) (x 11) (x 14) (x 17) (x 18) fnd (x 4) (x 5) (x 6) gt gn GG GB GC MA (x 8) (a 2) (x 9) SG RO p0 b1 hpt.2.1 hma hpc b0 hag hax.2.2.2.2 b2 (fun k hk => by rw [hct.2.1 k hk]; exact osg k hk) hax.2.2.2.1) (hw.trans (pm_b0MWPW bp_0x3x4x5x6x2x7x8x9)) (Nat.le_of_ble_eq_true rfl) (Nat.le_of_ble_eq_true rfl) (Nat.le_of_ble_eq_true rfl) (Nat.le_of_ble_eq_true rfl) (fun r w1 h => ⟨_, List.Perm.refl _, ?_⟩)
  rcases h with ⟨G, Bm, c, hg, hc, ⟨g, e, rfl⟩ | ⟨k, rfl, g, ⟨g2, e, rfl⟩ | ⟨g2, rr, d, hE, e, rfl⟩⟩⟩
  · exact ⟨G, c, hg, hc, .inl ⟨g, e, ⟨x, PA, MA, FQ, HA, SQ, _, _, bs, bh, _, bg, _, _, GC, SG, RO, UP, LO, HO, V0, GA, ha, za, sa, ra, AC, WH, ka, fo, RW, NU, pad, fad, PF, LF, gb, (pm_b0MWPW bp_0x3x4x5x6x2x7x8x9).symm, hpt, hct, hax, hsh, hhs⟩⟩⟩
  · exact ⟨G, c, hg, hc, .inr ⟨k, rfl, g, .inl ⟨by rw [← hwc]; exact g2, e, ⟨x, PA, MA, FQ, HA, SQ, _, _, bs, bh, _, bg, _, _, GC, SG, RO, UP, LO, HO, V0, GA, ha, za, sa, ra, AC, WH, ka, fo, RW, NU, pad, fad, PF, LF, gb, (pm_b0MWPW bp_0x3x4x5x6x2x7x8x9).symm, hpt, hct, hax, hsh, hhs⟩⟩⟩⟩
  · exact ⟨G, c, hg, hc, .inr ⟨k, rfl, g, .inr ⟨by rw [← hwc]; exact g2, RO, rr, d, by rw [← hE]; exact (exS_cg (fun k hk => hct.2.1 k hk) (fun k hk hv => fcE_V a G _ _ _ (by have := osg k hk; rw [← hct.2.1 k hk] at this; omega))).symm, e, ⟨x, PA, MA, FQ, HA, SQ, _, _, bs, bh, _, bg, _, _, _, SG, _, UP, LO, HO, V0, GA, ha, za, sa, ra, AC, WH, ka, fo, RW, NU, pad, fad, PF, LF, gb, (pm_b0MWPW bp_0x3x4x5x6x2x7x8x9).symm, hpt, hct, ⟨hax.1, hax.2.1, hax.2.2.1, exS_b (fun v => fcE_b hma b1 (cpN_b hax.2.2.2.2) _) (fun k hk => by rw [hct.2.1 k hk]; have := osg k hk; omega) hax.2.2.2.1 hE, fcE_b hma b1 (cpN_b hax.2.2.2.2)⟩, hsh, hhs⟩⟩⟩⟩
theorem sh_z {a UP LO : Nat → Nat} (ht : ∀ c, c < 64 → UP c = a (470 + 2 * c) ∧ LO c = a (470 + 2 * c + 1)) {so cr dr : Nat} (h1 : so ≤ 3) (h2 : cr ≤ 3) (h3 : dr ≤ 3) (z : Int32) : (if z = 0 then UP ((so * 4 + cr) * 4 + dr) else LO ((so * 4 + cr) * 4 + dr)) = a (470 + 2 * (16 * so + 4 * cr + dr) + zN z) := by
  have e : (so * 4 + cr) * 4 + dr = 16 * so + 4 * cr + dr := by omega
  obtain ⟨t1, t2⟩ := ht (16 * so + 4 * cr + dr) (by omega)
  rw [e]
  by_cases q : z = 0
  · rw [if_pos q, zN_0 q, t1]
    rfl
  · rw [if_neg q, zN_1 q, t2]
theorem pl_z {a UP LO V0 HO : Nat → Nat} {LF : Nat → Nat → Nat → Nat} (ofd : ∀ i, i < a 3 → fdOk a i) (b3 : a 3 ≤ 8) (h : ∀ i, i < a 3 → ∀ k, k < a (334 + 5 * i + 4) → ∀ j, j < 3 → LF j i k = a (374 + 12 * i + 3 * k + j)) (ht : ∀ c, c < 64 → UP c = a (470 + 2 * c) ∧ LO c = a (470 + 2 * c + 1)) {cr dr : Nat} (hc : cr ≤ 3) (hd : dr ≤ 3) (hr : Nat) : plB (fun st => sumS (wfN V0 (fgV (fun i => a (334 + 5 * i)) (fun i => a (334 + 5 * i + 1)) (fun i => a (334 + 5 * i + 4)) (fun i => a (334 + 5 * i + 3)) (LF 2) UP LO cr dr) (a 3)) st 8) (fun st => sumS (wfN HO (fun i => a (334 + 5 * i + 2)) (a 3)) st 8) hr (2 ^ a 3) = plB (fun st => sumS (fun f => brv a f cr dr) st (a 3)) (fun st => sumS (fun f => a (334 + 5 * f + 2)) st (a 3)) hr (2 ^ a 3) := plB_top b3 (fun f hf => by
    rw [wfN, if_pos hf]
    exact fg_z (ofd f hf) (h f hf) ht hc hd) (fun f hf => if_pos hf)
theorem pl_b {a : Nat → Nat} (hok : okA a) {cr dr : Nat} (hc : cr ≤ 3) (hd : dr ≤ 3) (K : Nat → Nat) (hr : Nat) : (plB (fun st => sumS (fun f => brv a f cr dr) st (a 3)) K hr (2 ^ a 3)).2.1 < 2 ^ 31 := by
  have h3 := hok.1.2.2.2
  have h := (plB_b (S := fun st => sumS (fun f => brv a f cr dr) st (a 3)) (K := K) (hr := hr) (B := a 3 * 49500000) (n := 2 ^ a 3) (fun k _ => sumS_b (fun q hq => brv_b (hok.2.2.2.2.1 q hq) (okA_shOk hok) hc hd))).1
  omega
