def MP_doubt (a kp bt sz : Nat → Nat) (sheets : Nat → Int32) (ke km : Nat) (x : Int32) (r : Int64) (K : Kt) : Prop := (¬ ix (a 0) x ∧ r = -1000000001 ∧ K a kp bt sz sheets ke km) ∨ (∃ i : Nat, (x = nI i ∧ i < a 0) ∧ ((0 ≤ dbZ a i ∧ r = lZ (dbZ a i) ∧ K a kp bt sz sheets ke km) ∨ (¬ 0 ≤ dbZ a i ∧ r = -1000000006 ∧ K a kp bt sz sheets ke km)))
theorem mS_doubt (l : Launch) (D : va_G) {cy : Nat → ClassId} {ad : Nat → Nat} {a kp bt sz : Nat → Nat} {sheets : Nat → Int32} {ke km : Nat} {w : va_W} (hM : Mdl cy ad a kp bt sz sheets ke km w) (hok : okA a) (he : ke < 20) (hm : km ≤ 20) (hsz : ∀ i, i < 4 → sz i ≤ 16 ∧ (bt i = 0 ∨ bt i = 8 ∨ bt i = 16 ∨ bt i = 32)) (p0 : Int32) : mq_l l D (mT (cy 0) (cy 1)) yX12_doubt wsX12_doubt 2 0 0 59 [.ref (ad 0), .int p0] w (fun r w1 => MP_doubt a kp bt sz sheets ke km p0 r (fun a kp bt sz sheets ke km => Mdl cy ad a kp bt sz sheets ke km w1)) := by
  obtain ⟨go, ro, car, fi, gm, bs, bu, n1, n2, n3, n4, n5, n6, n7, px, py, db, rfl⟩ := hM
  obtain ⟨⟨b0, b1, b2, b3⟩, opl, omk, osg, ofd, osh, oz⟩ := id hok
  refine mq_cs_l (cM_doubt l D ad (cy 0) (cy 1) a kp bt sz sheets go ro car ke km fi gm bs bu n1 n2 n3 n4 n5 n6 n7 px py db p0 b0 opl) (fun r w1 h => ?_)
  rcases h with ⟨z431, z432, rfl⟩ | ⟨z433, ⟨z434, (⟨z435, z436, ⟨z437, z438, z439, z440, z441, z442, z443, rfl⟩⟩ | ⟨z444, z445, ⟨z446, z447, z448, z449, z450, z451, z452, rfl⟩⟩)⟩⟩
  · exact (.inl (⟨z431, z432, ⟨_, _, _, _, _, _, _, _, _, _, _, _, _, _, _, _, _, rfl⟩⟩))
  · exact (.inr (⟨z433, ⟨z434, (.inl (⟨z435, z436, ⟨_, _, _, _, _, _, _, _, _, _, _, _, _, _, _, _, _, rfl⟩⟩))⟩⟩))
  · exact (.inr (⟨z433, ⟨z434, (.inr (⟨z444, z445, ⟨_, _, _, _, _, _, _, _, _, _, _, _, _, _, _, _, _, rfl⟩⟩))⟩⟩))
theorem jn_doubt {a kp bt sz : Nat → Nat} {sheets : Nat → Int32} {ke km : Nat} {x : Int32} {r1 r2 : Int64} {K1 K2 : Kt} (hok : okA a) (hsz : ∀ i, i < 4 → sz i ≤ 16) (h1 : MP_doubt a kp bt sz sheets ke km x r1 K1) (h2 : MP_doubt a kp bt sz sheets ke km x r2 K2) : r1 = r2 ∧ ∃ (a2 kp2 bt2 sz2 : Nat → Nat) (sh2 : Nat → Int32) (ke2 km2 : Nat), K1 a2 kp2 bt2 sz2 sh2 ke2 km2 ∧ K2 a2 kp2 bt2 sz2 sh2 ke2 km2 := by
  obtain ⟨b0, b1, b2, b3⟩ := hok.1
  rcases h1 with ⟨c1, e1, k1⟩ | ⟨i, ⟨p1, g1⟩, h1⟩ <;> rcases h2 with ⟨c2, e2, k2⟩ | ⟨i', ⟨p1', g1'⟩, h2⟩
  · exact ⟨by rw [e1, e2], _, _, _, _, _, _, _, k1, k2⟩
  · exact absurd (by rw [p1']; exact ix_nI g1' (by omega)) c1
  · exact absurd (by rw [p1]; exact ix_nI g1 (by omega)) c2
  · have q1 := nI_inj7 (by omega) (by omega) (p1.symm.trans p1')
    subst q1
    rcases h1 with ⟨c1, e1, k1⟩ | ⟨c1, e1, k1⟩ <;> rcases h2 with ⟨c2, e2, k2⟩ | ⟨c2, e2, k2⟩
    · exact ⟨by rw [e1, e2], _, _, _, _, _, _, _, k1, k2⟩
    · exact absurd c1 c2
    · exact absurd c2 c1
    · exact ⟨by rw [e1, e2], _, _, _, _, _, _, _, k1, k2⟩
