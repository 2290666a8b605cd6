def MP_brings (a kp bt sz : Nat → Nat) (sheets : Nat → Int32) (ke km : Nat) (x : Int32) (y : Int32) (z : Int32) (r : Int64) (K : Kt) : Prop := (¬ (rg 0 99 x ∧ rg 0 3 y ∧ rg 0 3 z) ∧ r = -1000000001 ∧ K a kp bt sz sheets ke km) ∨ (∃ hr cr dr : Nat, (x = nI hr ∧ y = nI cr ∧ z = nI dr ∧ hr ≤ 99 ∧ cr ≤ 3 ∧ dr ≤ 3) ∧ r = (nI ((plB (fun st => sumS (fun f => brv a f cr dr) st (a 3)) (fun st => sumS (fun f => a (334 + 5 * f + 2)) st (a 3)) hr (2 ^ a 3)).2.1)).toInt64 ∧ K a kp bt sz sheets ke km)
theorem mS_brings (l : Launch) (D : va_G) {cy : Nat → ClassId} {ad : Nat → Nat} {a kp bt sz : Nat → Nat} {sheets : Nat → Int32} {ke km : Nat} {w : va_W} (hM : Mdl cy ad a kp bt sz sheets ke km w) (hok : okA a) (he : ke < 20) (hm : km ≤ 20) (hsz : ∀ i, i < 4 → sz i ≤ 16 ∧ (bt i = 0 ∨ bt i = 8 ∨ bt i = 16 ∨ bt i = 32)) (p0 : Int32) (p1 : Int32) (p2 : Int32) : mq_l l D (mT (cy 0) (cy 1)) yX12_brings wsX12_brings 4 0 0 96 [.ref (ad 0), .int p0, .int p1, .int p2] w (fun r w1 => MP_brings a kp bt sz sheets ke km p0 p1 p2 r (fun a kp bt sz sheets ke km => Mdl cy ad a kp bt sz sheets ke km w1)) := by
  obtain ⟨go, ro, car, fi, gm, bs, bu, n1, n2, n3, n4, n5, n6, n7, px, py, db, rfl⟩ := hM
  obtain ⟨⟨b0, b1, b2, b3⟩, opl, omk, osg, ofd, osh, oz⟩ := id hok
  refine mq_cs_l (cM_brings l D ad (cy 0) (cy 1) a kp bt sz sheets go ro car ke km fi gm bs bu n1 n2 n3 n4 n5 n6 n7 px py db p0 p1 p2 b3 ofd (okA_shOk hok)) (fun r w1 h => ?_)
  rcases h with ⟨z606, z607, rfl⟩ | ⟨z608, z609, z610, ⟨z611, z612, ⟨z613, z614, rfl⟩⟩⟩
  · exact (.inl (⟨z606, z607, ⟨_, _, _, _, _, _, _, _, _, _, _, _, _, _, _, _, _, rfl⟩⟩))
  · exact (.inr (⟨z608, z609, z610, ⟨z611, z612, ⟨_, _, _, _, _, _, _, _, _, _, _, _, _, _, _, _, _, rfl⟩⟩⟩))
theorem jn_brings {a kp bt sz : Nat → Nat} {sheets : Nat → Int32} {ke km : Nat} {x : Int32} {y : Int32} {z : Int32} {r1 r2 : Int64} {K1 K2 : Kt} (hok : okA a) (hsz : ∀ i, i < 4 → sz i ≤ 16) (h1 : MP_brings a kp bt sz sheets ke km x y z r1 K1) (h2 : MP_brings a kp bt sz sheets ke km x y z r2 K2) : r1 = r2 ∧ ∃ (a2 kp2 bt2 sz2 : Nat → Nat) (sh2 : Nat → Int32) (ke2 km2 : Nat), K1 a2 kp2 bt2 sz2 sh2 ke2 km2 ∧ K2 a2 kp2 bt2 sz2 sh2 ke2 km2 := by
  obtain ⟨b0, b1, b2, b3⟩ := hok.1
  rcases h1 with ⟨c1, e1, k1⟩ | ⟨hr, cr, dr, ⟨p1, p2, p3, g1, g2, g3⟩, h1⟩ <;> rcases h2 with ⟨c2, e2, k2⟩ | ⟨hr', cr', dr', ⟨p1', p2', p3', g1', g2', g3'⟩, h2⟩
  · exact ⟨by rw [e1, e2], _, _, _, _, _, _, _, k1, k2⟩
  · exact absurd (by rw [p1', p2', p3']; exact ⟨rg_nI (Nat.zero_le _) g1' (by decide), rg_nI (Nat.zero_le _) g2' (by decide), rg_nI (Nat.zero_le _) g3' (by decide)⟩) c1
  · exact absurd (by rw [p1, p2, p3]; exact ⟨rg_nI (Nat.zero_le _) g1 (by decide), rg_nI (Nat.zero_le _) g2 (by decide), rg_nI (Nat.zero_le _) g3 (by decide)⟩) c2
  · have q1 := nI_inj7 (by omega) (by omega) (p1.symm.trans p1'); have q2 := nI_inj7 (by omega) (by omega) (p2.symm.trans p2'); have q3 := nI_inj7 (by omega) (by omega) (p3.symm.trans p3')
    subst q1; subst q2; subst q3
    obtain ⟨e1, k1⟩ := h1
    obtain ⟨e2, k2⟩ := h2
    exact ⟨by rw [e1, e2], _, _, _, _, _, _, _, k1, k2⟩
