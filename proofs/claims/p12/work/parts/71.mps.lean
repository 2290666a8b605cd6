def MP_group (a kp bt sz : Nat → Nat) (sheets : Nat → Int32) (ke km : Nat) (x : Int32) (r : Int64) (K : Kt) : Prop := (¬ ix (a 1) x ∧ r = -1000000001 ∧ K a kp bt sz sheets ke km) ∨ (∃ i : Nat, (x = nI i ∧ i < a 1) ∧ ∃ (G : Nat → Nat) (cg : Nat), grp a (a 1) G cg ∧ cg ≤ a 1 ∧ r = (gI (G i)).toInt64 ∧ K a kp bt sz sheets ke km)
theorem mS_group (l : Launch) (D : va_G) {cy : Nat → ClassId} {ad : Nat → Nat} {a kp bt sz : Nat → Nat} {sheets : Nat → Int32} {ke km : Nat} {w : va_W} (hM : Mdl cy ad a kp bt sz sheets ke km w) (hok : okA a) (he : ke < 20) (hm : km ≤ 20) (hsz : ∀ i, i < 4 → sz i ≤ 16 ∧ (bt i = 0 ∨ bt i = 8 ∨ bt i = 16 ∨ bt i = 32)) (p0 : Int32) : mq_l l D (mT (cy 0) (cy 1)) yX12_group wsX12_group 4 0 0 102 [.ref (ad 0), .int p0] w (fun r w1 => MP_group a kp bt sz sheets ke km p0 r (fun a kp bt sz sheets ke km => Mdl cy ad a kp bt sz sheets ke km w1)) := by
  obtain ⟨go, ro, car, fi, gm, bs, bu, n1, n2, n3, n4, n5, n6, n7, px, py, db, rfl⟩ := hM
  obtain ⟨⟨b0, b1, b2, b3⟩, opl, omk, osg, ofd, osh, oz⟩ := id hok
  refine mq_cs_l (cM_group l D ad (cy 0) (cy 1) a kp bt sz sheets go ro car ke km fi gm bs bu n1 n2 n3 n4 n5 n6 n7 px py db p0 b0 opl b1 omk) (fun r w1 h => ?_)
  rcases h with ⟨z500, z501, rfl⟩ | ⟨z502, ⟨z503, ⟨z504, z505, z506, z507, z508, z509, z510, z511, z512, z513, z514, z515, ⟨z516, z517, z518, rfl⟩⟩⟩⟩
  · exact (.inl (⟨z500, z501, ⟨_, _, _, _, _, _, _, _, _, _, _, _, _, _, _, _, _, rfl⟩⟩))
  · exact (.inr (⟨z502, ⟨z503, ⟨z504, z505, ⟨z516, z517, z518, ⟨_, _, _, _, _, _, _, _, _, _, _, _, _, _, _, _, _, rfl⟩⟩⟩⟩⟩))
theorem jn_group {a kp bt sz : Nat → Nat} {sheets : Nat → Int32} {ke km : Nat} {x : Int32} {r1 r2 : Int64} {K1 K2 : Kt} (hok : okA a) (hsz : ∀ i, i < 4 → sz i ≤ 16) (h1 : MP_group a kp bt sz sheets ke km x r1 K1) (h2 : MP_group a kp bt sz sheets ke km x r2 K2) : r1 = r2 ∧ ∃ (a2 kp2 bt2 sz2 : Nat → Nat) (sh2 : Nat → Int32) (ke2 km2 : Nat), K1 a2 kp2 bt2 sz2 sh2 ke2 km2 ∧ K2 a2 kp2 bt2 sz2 sh2 ke2 km2 := by
  obtain ⟨b0, b1, b2, b3⟩ := hok.1
  rcases h1 with ⟨c1, e1, k1⟩ | ⟨i, ⟨p1, g1⟩, h1⟩ <;> rcases h2 with ⟨c2, e2, k2⟩ | ⟨i', ⟨p1', g1'⟩, h2⟩
  · exact ⟨by rw [e1, e2], _, _, _, _, _, _, _, k1, k2⟩
  · exact absurd (by rw [p1']; exact ix_nI g1' (by omega)) c1
  · exact absurd (by rw [p1]; exact ix_nI g1 (by omega)) c2
  · have q1 := nI_inj7 (by omega) (by omega) (p1.symm.trans p1')
    subst q1
    obtain ⟨G, cg, f1, f2, e1, k1⟩ := h1
    obtain ⟨G2, cg2, f3, f4, e2, k2⟩ := h2
    rw [grp_one f1 f3 i g1] at e1
    exact ⟨by rw [e1, e2], _, _, _, _, _, _, _, k1, k2⟩
