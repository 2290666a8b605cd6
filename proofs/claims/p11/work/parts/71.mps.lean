def MP_agree (a kp bt sz : Nat → Nat) (sheets : Nat → Int32) (ke km : Nat) (x : Int32) (y : Int32) (r : Int64) (K : Kt) : Prop := (¬ (ix (a 1) x ∧ ix (a 1) y) ∧ r = -1000000001 ∧ K a kp bt sz sheets ke km) ∨ (∃ i j : Nat, (x = nI i ∧ y = nI j ∧ i < a 1 ∧ j < a 1) ∧ r = (if agr a i j then 1 else 0) ∧ K a kp bt sz sheets ke km)
theorem mS_agree (l : Launch) (D : va_G) {cy : Nat → ClassId} {ad : Nat → Nat} {a kp bt sz : Nat → Nat} {sheets : Nat → Int32} {ke km : Nat} {w : va_W} (hM : Mdl cy ad a kp bt sz sheets ke km w) (hok : okA a) (he : ke < 20) (hm : km ≤ 20) (hsz : ∀ i, i < 4 → sz i ≤ 16 ∧ (bt i = 0 ∨ bt i = 8 ∨ bt i = 16 ∨ bt i = 32)) (p0 : Int32) (p1 : Int32) : mq_l l D (mT (cy 0) (cy 1)) yX12_agree wsX12_agree 3 0 0 81 [.ref (ad 0), .int p0, .int p1] w (fun r w1 => MP_agree a kp bt sz sheets ke km p0 p1 r (fun a kp bt sz sheets ke km => Mdl cy ad a kp bt sz sheets ke km w1)) := by
  obtain ⟨go, ro, car, fi, gm, bs, bu, n1, n2, n3, n4, n5, n6, n7, px, py, db, rfl⟩ := hM
  obtain ⟨⟨b0, b1, b2, b3⟩, opl, omk, osg, ofd, osh, oz⟩ := id hok
  refine mq_cs_l (cM_agree l D ad (cy 0) (cy 1) a kp bt sz sheets go ro car ke km fi gm bs bu n1 n2 n3 n4 n5 n6 n7 px py db p0 p1 b0 opl b1 omk) (fun r w1 h => ?_)
  rcases h with ⟨z484, z485, rfl⟩ | ⟨z486, z487, ⟨z488, z489, ⟨z490, z491, z492, z493, z494, z495, z496, z497, z498, z499, rfl⟩⟩⟩
  · exact (.inl (⟨z484, z485, ⟨_, _, _, _, _, _, _, _, _, _, _, _, _, _, _, _, _, rfl⟩⟩))
  · exact (.inr (⟨z486, z487, ⟨z488, z489, ⟨_, _, _, _, _, _, _, _, _, _, _, _, _, _, _, _, _, rfl⟩⟩⟩))
theorem jn_agree {a kp bt sz : Nat → Nat} {sheets : Nat → Int32} {ke km : Nat} {x : Int32} {y : Int32} {r1 r2 : Int64} {K1 K2 : Kt} (hok : okA a) (hsz : ∀ i, i < 4 → sz i ≤ 16) (h1 : MP_agree a kp bt sz sheets ke km x y r1 K1) (h2 : MP_agree a kp bt sz sheets ke km x y r2 K2) : r1 = r2 ∧ ∃ (a2 kp2 bt2 sz2 : Nat → Nat) (sh2 : Nat → Int32) (ke2 km2 : Nat), K1 a2 kp2 bt2 sz2 sh2 ke2 km2 ∧ K2 a2 kp2 bt2 sz2 sh2 ke2 km2 := by
  obtain ⟨b0, b1, b2, b3⟩ := hok.1
  rcases h1 with ⟨c1, e1, k1⟩ | ⟨i, j, ⟨p1, p2, g1, g2⟩, h1⟩ <;> rcases h2 with ⟨c2, e2, k2⟩ | ⟨i', j', ⟨p1', p2', g1', g2'⟩, h2⟩
  · exact ⟨by rw [e1, e2], _, _, _, _, _, _, _, k1, k2⟩
  · exact absurd (by rw [p1', p2']; exact ⟨ix_nI g1' (by omega), ix_nI g2' (by omega)⟩) c1
  · exact absurd (by rw [p1, p2]; exact ⟨ix_nI g1 (by omega), ix_nI g2 (by omega)⟩) c2
  · have q1 := nI_inj7 (by omega) (by omega) (p1.symm.trans p1'); have q2 := nI_inj7 (by omega) (by omega) (p2.symm.trans p2')
    subst q1; subst q2
    obtain ⟨e1, k1⟩ := h1
    obtain ⟨e2, k2⟩ := h2
    exact ⟨by rw [e1, e2], _, _, _, _, _, _, _, k1, k2⟩
