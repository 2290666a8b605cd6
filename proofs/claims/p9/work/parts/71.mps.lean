def MP_as (a kp bt sz : Nat → Nat) (sheets : Nat → Int32) (ke km : Nat) (mi : Int32) (ki : Int32) (r : Int64) (K : Kt) : Prop := (¬ (ix (a 1) mi ∧ rg 0 3 ki) ∧ r = -1000000001 ∧ K a kp bt sz sheets ke km) ∨ (∃ i k : Nat, (mi = nI i ∧ ki = nI k ∧ i < a 1 ∧ k ≤ 3) ∧ ((asOk k (a (202 + 6 * i + 1)) ∧ r = (nI i).toInt64 ∧ K a kp bt sz sheets ke km) ∨ (¬ asOk k (a (202 + 6 * i + 1)) ∧ r = -1000000004 ∧ K a kp bt sz sheets ke km)))
theorem mS_as (l : Launch) (D : va_G) {cy : Nat → ClassId} {ad : Nat → Nat} {a kp bt sz : Nat → Nat} {sheets : Nat → Int32} {ke km : Nat} {w : va_W} (hM : Mdl cy ad a kp bt sz sheets ke km w) (hok : okA a) (he : ke < 20) (hm : km ≤ 20) (hsz : ∀ i, i < 4 → sz i ≤ 16 ∧ (bt i = 0 ∨ bt i = 8 ∨ bt i = 16 ∨ bt i = 32)) (p0 : Int32) (p1 : Int32) : mq_l l D (mT (cy 0) (cy 1)) yX12_as wsX12_as 2 0 0 43 [.ref (ad 0), .int p0, .int p1] w (fun r w1 => MP_as a kp bt sz sheets ke km p0 p1 r (fun a kp bt sz sheets ke km => Mdl cy ad a kp bt sz sheets ke km w1)) := by
  obtain ⟨go, ro, car, fi, gm, bs, bu, n1, n2, n3, n4, n5, n6, n7, px, py, db, rfl⟩ := hM
  obtain ⟨⟨b0, b1, b2, b3⟩, opl, omk, osg, ofd, osh, oz⟩ := id hok
  refine mq_cs_l (cM_as l D ad (cy 0) (cy 1) a kp bt sz sheets go ro car ke km fi gm bs bu n1 n2 n3 n4 n5 n6 n7 px py db p0 p1 b1 (fun i hi => (omk i hi).2.1)) (fun r w1 h => ?_)
  rcases h with ⟨z453, z454, rfl⟩ | ⟨z455, z456, ⟨z457, (⟨z458, z459, rfl⟩ | ⟨z460, z461, rfl⟩)⟩⟩
  · exact (.inl (⟨z453, z454, ⟨_, _, _, _, _, _, _, _, _, _, _, _, _, _, _, _, _, rfl⟩⟩))
  · exact (.inr (⟨z455, z456, ⟨z457, (.inl (⟨z458, z459, ⟨_, _, _, _, _, _, _, _, _, _, _, _, _, _, _, _, _, rfl⟩⟩))⟩⟩))
  · exact (.inr (⟨z455, z456, ⟨z457, (.inr (⟨z460, z461, ⟨_, _, _, _, _, _, _, _, _, _, _, _, _, _, _, _, _, rfl⟩⟩))⟩⟩))
theorem jn_as {a kp bt sz : Nat → Nat} {sheets : Nat → Int32} {ke km : Nat} {mi : Int32} {ki : Int32} {r1 r2 : Int64} {K1 K2 : Kt} (hok : okA a) (hsz : ∀ i, i < 4 → sz i ≤ 16) (h1 : MP_as a kp bt sz sheets ke km mi ki r1 K1) (h2 : MP_as a kp bt sz sheets ke km mi ki r2 K2) : r1 = r2 ∧ ∃ (a2 kp2 bt2 sz2 : Nat → Nat) (sh2 : Nat → Int32) (ke2 km2 : Nat), K1 a2 kp2 bt2 sz2 sh2 ke2 km2 ∧ K2 a2 kp2 bt2 sz2 sh2 ke2 km2 := by
  obtain ⟨b0, b1, b2, b3⟩ := hok.1
  rcases h1 with ⟨c1, e1, k1⟩ | ⟨i, k, ⟨p1, p2, g1, g2⟩, h1⟩ <;> rcases h2 with ⟨c2, e2, k2⟩ | ⟨i', k', ⟨p1', p2', g1', g2'⟩, h2⟩
  · exact ⟨by rw [e1, e2], _, _, _, _, _, _, _, k1, k2⟩
  · exact absurd (by rw [p1', p2']; exact ⟨ix_nI g1' (by omega), rg_nI (Nat.zero_le _) g2' (by decide)⟩) c1
  · exact absurd (by rw [p1, p2]; exact ⟨ix_nI g1 (by omega), rg_nI (Nat.zero_le _) g2 (by decide)⟩) c2
  · have q1 := nI_inj7 (by omega) (by omega) (p1.symm.trans p1'); have q2 := nI_inj7 (by omega) (by omega) (p2.symm.trans p2')
    subst q1; subst q2
    rcases h1 with ⟨c1, e1, k1⟩ | ⟨c1, e1, k1⟩ <;> rcases h2 with ⟨c2, e2, k2⟩ | ⟨c2, e2, k2⟩
    · exact ⟨by rw [e1, e2], _, _, _, _, _, _, _, k1, k2⟩
    · exact absurd c1 c2
    · exact absurd c2 c1
    · exact ⟨by rw [e1, e2], _, _, _, _, _, _, _, k1, k2⟩
