theorem as_z {k u : Nat} (hu : u ≤ 3) : undr k u ↔ asOk u k := by
  show (u = k ∨ u = 0 ∨ (k = 3 ∧ u = 1)) ↔ (u = 0 ∨ k = u ∨ (u = 1 ∧ (k = 1 ∨ k = 3)))
  omega
theorem sh_z {a UP LO : Nat → Nat} (ht : ∀ c, c < 64 → UP c = a (470 + 2 * c) ∧ LO c = a (470 + 2 * c + 1)) {so cr dr : Nat} (h1 : so ≤ 3) (h2 : cr ≤ 3) (h3 : dr ≤ 3) (z : Int32) : (if z = 0 then UP ((so * 4 + cr) * 4 + dr) else LO ((so * 4 + cr) * 4 + dr)) = a (470 + 2 * (16 * so + 4 * cr + dr) + zN z) := by
  have e : (so * 4 + cr) * 4 + dr = 16 * so + 4 * cr + dr := by omega
  obtain ⟨t1, t2⟩ := ht (16 * so + 4 * cr + dr) (by omega)
  rw [e]
  by_cases q : z = 0
  · rw [if_pos q, zN_0 q, t1]
    rfl
  · rw [if_neg q, zN_1 q, t2]
theorem pl_z {a UP LO V0 HO : Nat → Nat} {LF : Nat → Nat → Nat → Nat} (ofd : ∀ i, i < a 3 → fdOk a i) (b3 : a 3 ≤ 8) (h : ∀ i, i < a 3 → ∀ k, k < a (334 + 5 * i + 4) → ∀ j, j < 3 → LF j i k = a (374 + 12 * i + 3 * k + j)) (ht : ∀ c, c < 64 → UP c = a (470 + 2 * c) ∧ LO c = a (470 + 2 * c + 1)) {cr dr : Nat} (hc : cr ≤ 3) (hd : dr ≤ 3) (hr : Nat) : plB (fun st => sumS (wfN V0 (fgV (fun i => a (334 + 5 * i)) (fun i => a (334 + 5 * i + 1)) (fun i => a (334 + 5 * i + 4)) (fun i => a (334 + 5 * i + 3)) (LF 2) UP LO cr dr) (a 3)) st 8) (fun st => sumS (wfN HO (fun i => a (334 + 5 * i + 2)) (a 3)) st 8) hr (2 ^ a 3) = plB (fun st => sumS (fun f => brv a f cr dr) st (a 3)) (fun st => sumS (fun f => a (334 + 5 * f + 2)) st (a 3)) hr (2 ^ a 3) := plB_top b3 (fun f hf => by
    rw [wfN, if_pos hf]
    exact fg_z (ofd f hf) (h f hf) ht hc hd) (fun f hf => if_pos hf)
theorem pl_b {a : Nat → Nat} (hok : okA a) {cr dr : Nat} (hc : cr ≤ 3) (hd : dr ≤ 3) (K : Nat → Nat) (hr : Nat) : (plB (fun st => sumS (fun f => brv a f cr dr) st (a 3)) K hr (2 ^ a 3)).2.1 < 2 ^ 31 := by
  have h3 := hok.1.2.2.2
  have h := (plB_b (S := fun st => sumS (fun f => brv a f cr dr) st (a 3)) (K := K) (hr := hr) (B := a 3 * 49500000) (n := 2 ^ a 3) (fun k _ => sumS_b (fun q hq => brv_b (hok.2.2.2.2.1 q hq) (okA_shOk hok) hc hd))).1
  omega
set_option maxHeartbeats 4000000 in
set_option maxRecDepth 100000 in
theorem is_brings (l : Launch) (D : va_G) {cy : Nat → ClassId} {d0 : Nat} {a kp bt sz : Nat → Nat} {sheets : Nat → Int32} {ke km : Nat} {w : va_W} (hI : IvD cy d0 a kp bt sz sheets ke km w) (p0 : Int32) (p1 : Int32) (p2 : Int32) : kq_l l D (cT cy) yX11_brings wsX11_brings 7 0 0 161 [.ref d0, .int p0, .int p1, .int p2] w (fun r w1 => MP_brings a kp bt sz sheets ke km p0 p1 p2 r (fun a kp bt sz sheets ke km => IvD cy d0 a kp bt sz sheets ke km w1)) := by
  obtain ⟨x, PA, MA, FQ, HA, SQ, gt, gn, bs, bh, fnd, bg, GG, GB, GC, SG, RO, UP, LO, HO, V0, GA, ha, za, sa, ra, AC, WH, ka, fo, RW, NU, pad, fad, PF, LF, gb, hw, hpt, hct, hax, hsh, hhs⟩ := hI
  obtain ⟨⟨b0, b1, b2, b3⟩, opl, omk, osg, ofd, osh, oz⟩ := id hhs.ok
  have hpc : pcR PF a (a 0) := fun i hi => ⟨opl i hi, hct.1 i hi⟩
  have hma : maR a (a 0) (a 1) := omk
  have htb := tb_ok hhs.ok hct.2.2.2.1
  have htb2 : tbOk UP LO := fun c hc => ⟨(htb c hc).1, (htb c hc).2.1, Nat.le_trans (htb c hc).2.2 (by decide)⟩
  have hfl : ∀ j, j < a 3 → flOk (fad 0) (fad 1) (fad 2) (fad 3) (fun i => a (334 + 5 * i)) (fun i => a (334 + 5 * i + 1)) (fun i => a (334 + 5 * i + 2)) (fun i => a (334 + 5 * i + 4)) (fun i => a (334 + 5 * i + 3)) fo (LF 0) (LF 1) (LF 2) j := fun j hj => ⟨(ofd j hj).2.2.2.2.1, lk_ok (ofd j hj) (hct.2.2.1 j hj), (ofd j hj).1, (ofd j hj).2.2.2.1, (ofd j hj).2.1, (ofd j hj).2.2.1.2⟩
  refine nk_l (qX11_brings_g l D cy (fad 0) (fad 1) (fad 2) (fad 3) (fun i => a (334 + 5 * i)) (fun i => a (334 + 5 * i + 1)) (fun i => a (334 + 5 * i + 2)) (fun i => a (334 + 5 * i + 4)) (fun i => a (334 + 5 * i + 3)) fo (LF 0) (LF 1) (LF 2) d0 (x 1) (a 0) (x 2) (a 1) (x 3) (x 7) (x 10) (a 3) (x 11) (x 14) (x 17) (x 18) fnd (x 15) (x 16) bs bg bh GA HO (x 12) (x 13) UP LO FQ p0 p1 p2 V0 hax.1 hax.2.1 hax.2.2.1 b3 hpt.2.2.1 hfl htb2) (hw.trans (pm_b0FW bp_0x14x15x16x11x12x13x10)) (Nat.le_of_ble_eq_true rfl) (Nat.le_of_ble_eq_true rfl) (Nat.le_of_ble_eq_true rfl) (Nat.le_of_ble_eq_true rfl) (fun r w1 h => ⟨_, List.Perm.refl _, ?_⟩)
  rcases h with ⟨g, e, rfl⟩ | ⟨hr, cr, dr, ⟨rfl, rfl, rfl, z1, z2, z3⟩, e, rfl⟩
  · exact .inl ⟨g, e, ⟨x, PA, MA, FQ, HA, SQ, gt, gn, bs, bh, _, bg, GG, GB, GC, SG, RO, UP, LO, HO, V0, GA, ha, za, sa, ra, AC, WH, ka, fo, RW, NU, pad, fad, PF, LF, gb, (pm_b0FW bp_0x14x15x16x11x12x13x10).symm, hpt, hct, hax, hsh, hhs⟩⟩
  · exact .inr ⟨hr, cr, dr, ⟨rfl, rfl, rfl, z1, z2, z3⟩, by rw [e, pl_z ofd b3 hct.2.2.1 hct.2.2.2.1 z2 z3]; exact (nI_l (pl_b hhs.ok z2 z3 _ _)).symm, ⟨x, PA, MA, FQ, HA, SQ, gt, gn, _, _, fnd, _, GG, GB, GC, SG, RO, UP, LO, _, _, _, ha, za, sa, ra, AC, WH, ka, fo, RW, NU, pad, fad, PF, LF, gb, (pm_b0FW bp_0x14x15x16x11x12x13x10).symm, hpt, hct, wf_hax hax (fun j hj => Nat.le_trans (fgV_b (ofd j hj).1 (ofd j hj).2.1.2 z2 z3 htb2) (by decide)) (fun j hj => (ofd j hj).2.2.1.2), hsh, hhs⟩⟩
