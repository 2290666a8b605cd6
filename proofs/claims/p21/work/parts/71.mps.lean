def MP_belief (a kp bt sz : Nat → Nat) (sheets : Nat → Int32) (ke km : Nat) (x : Int32) (zf : Int32) (r : Int64) (K : Kt) : Prop := (¬ ix (a 3) x ∧ r = -1000000001 ∧ K a kp bt sz sheets ke km) ∨ (∃ i : Nat, (x = nI i ∧ i < a 3) ∧ ((sn a i ∧ r = 1 ∧ K a kp bt sz sheets ke km) ∨ (¬ sn a i ∧ r = pcI ((blU a i (a (334 + 5 * i + 4)) : Nat) : Int) (blU a i (a (334 + 5 * i + 4)) + blN a i (a (334 + 5 * i + 4))) zf ∧ K a kp bt sz sheets ke km)))
theorem mS_belief (l : Launch) (D : va_G) {cy : Nat → ClassId} {ad : Nat → Nat} {a kp bt sz : Nat → Nat} {sheets : Nat → Int32} {ke km : Nat} {w : va_W} (hM : Mdl cy ad a kp bt sz sheets ke km w) (hok : okA a) (he : ke < 20) (hm : km ≤ 20) (hsz : ∀ i, i < 4 → sz i ≤ 16 ∧ (bt i = 0 ∨ bt i = 8 ∨ bt i = 16 ∨ bt i = 32)) (p0 : Int32) (p1 : Int32) : mq_l l D (mT (cy 0) (cy 1)) yX12_belief wsX12_belief 2 0 0 55 [.ref (ad 0), .int p0, .int p1] w (fun r w1 => MP_belief a kp bt sz sheets ke km p0 p1 r (fun a kp bt sz sheets ke km => Mdl cy ad a kp bt sz sheets ke km w1)) := by
  obtain ⟨go, ro, car, fi, gm, bs, bu, n1, n2, n3, n4, n5, n6, n7, px, py, db, rfl⟩ := hM
  obtain ⟨⟨b0, b1, b2, b3⟩, opl, omk, osg, ofd, osh, oz⟩ := id hok
  refine mq_cs_l (cM_belief l D ad (cy 0) (cy 1) a kp bt sz sheets go ro car ke km fi gm bs bu n1 n2 n3 n4 n5 n6 n7 px py db p0 p1 b3 ofd (okA_shOk hok)) (fun r w1 h => ?_)
  rcases h with ⟨z582, z583, rfl⟩ | ⟨z584, ⟨z585, (⟨z586, z587, rfl⟩ | ⟨z588, z589, rfl⟩)⟩⟩
  · exact (.inl (⟨z582, z583, ⟨_, _, _, _, _, _, _, _, _, _, _, _, _, _, _, _, _, rfl⟩⟩))
  · exact (.inr (⟨z584, ⟨z585, (.inl (⟨z586, z587, ⟨_, _, _, _, _, _, _, _, _, _, _, _, _, _, _, _, _, rfl⟩⟩))⟩⟩))
  · exact (.inr (⟨z584, ⟨z585, (.inr (⟨z588, z589, ⟨_, _, _, _, _, _, _, _, _, _, _, _, _, _, _, _, _, rfl⟩⟩))⟩⟩))
theorem jn_belief {a kp bt sz : Nat → Nat} {sheets : Nat → Int32} {ke km : Nat} {x : Int32} {zf : Int32} {r1 r2 : Int64} {K1 K2 : Kt} (hok : okA a) (hsz : ∀ i, i < 4 → sz i ≤ 16) (h1 : MP_belief a kp bt sz sheets ke km x zf r1 K1) (h2 : MP_belief a kp bt sz sheets ke km x zf r2 K2) : r1 = r2 ∧ ∃ (a2 kp2 bt2 sz2 : Nat → Nat) (sh2 : Nat → Int32) (ke2 km2 : Nat), K1 a2 kp2 bt2 sz2 sh2 ke2 km2 ∧ K2 a2 kp2 bt2 sz2 sh2 ke2 km2 := by
  obtain ⟨b0, b1, b2, b3⟩ := hok.1
  rcases h1 with ⟨c1, e1, k1⟩ | ⟨i, ⟨p1, g1⟩, h1⟩ <;> rcases h2 with ⟨c2, e2, k2⟩ | ⟨i', ⟨p1', g1'⟩, h2⟩
  · exact ⟨by rw [e1, e2], _, _, _, _, _, _, _, k1, k2⟩
  · exact absurd (by rw [p1']; exact ix_nI g1' (by omega)) c1
  · exact absurd (by rw [p1]; exact ix_nI g1 (by omega)) c2
  · have q1 := nI_inj7 (by omega) (by omega) (p1.symm.trans p1')
    subst q1
    rcases h1 with ⟨c1, e1, k1⟩ | ⟨c1, e1, k1⟩ <;> rcases h2 with ⟨c2, e2, k2⟩ | ⟨c2, e2, k2⟩
    · exact ⟨by rw [e1, e2], _, _, _, _, _, _, _, k1, k2⟩
    · exact absurd c1 c2
    · exact absurd c2 c1
    · exact ⟨by rw [e1, e2], _, _, _, _, _, _, _, k1, k2⟩
