def MP_wrong (a kp bt sz : Nat → Nat) (sheets : Nat → Int32) (ke km : Nat)  (r : Int64) (K : Kt) : Prop := r = (wrGo (fun j => a (322 + j)) (a 2) (a 2) 0 0).toInt64 ∧ K a kp bt sz sheets ke km
theorem mS_wrong (l : Launch) (D : va_G) {cy : Nat → ClassId} {ad : Nat → Nat} {a kp bt sz : Nat → Nat} {sheets : Nat → Int32} {ke km : Nat} {w : va_W} (hM : Mdl cy ad a kp bt sz sheets ke km w) (hok : okA a) (he : ke < 20) (hm : km ≤ 20) (hsz : ∀ i, i < 4 → sz i ≤ 16 ∧ (bt i = 0 ∨ bt i = 8 ∨ bt i = 16 ∨ bt i = 32))  : mq_l l D (mT (cy 0) (cy 1)) yX12_wrong wsX12_wrong 1 0 0 24 [.ref (ad 0)] w (fun r w1 => MP_wrong a kp bt sz sheets ke km  r (fun a kp bt sz sheets ke km => Mdl cy ad a kp bt sz sheets ke km w1)) := by
  obtain ⟨go, ro, car, fi, gm, bs, bu, n1, n2, n3, n4, n5, n6, n7, px, py, db, rfl⟩ := hM
  obtain ⟨⟨b0, b1, b2, b3⟩, opl, omk, osg, ofd, osh, oz⟩ := id hok
  refine mq_cs_l (cM_wrong l D ad (cy 0) (cy 1) a kp bt sz sheets go ro car ke km fi gm bs bu n1 n2 n3 n4 n5 n6 n7 px py db  b2 (fun k hk => by have := osg k hk; omega)) (fun r w1 h => ?_)
  rcases h with ⟨z554, rfl⟩
  · exact ⟨z554, ⟨_, _, _, _, _, _, _, _, _, _, _, _, _, _, _, _, _, rfl⟩⟩
theorem jn_wrong {a kp bt sz : Nat → Nat} {sheets : Nat → Int32} {ke km : Nat}  {r1 r2 : Int64} {K1 K2 : Kt} (hok : okA a) (hsz : ∀ i, i < 4 → sz i ≤ 16) (h1 : MP_wrong a kp bt sz sheets ke km  r1 K1) (h2 : MP_wrong a kp bt sz sheets ke km  r2 K2) : r1 = r2 ∧ ∃ (a2 kp2 bt2 sz2 : Nat → Nat) (sh2 : Nat → Int32) (ke2 km2 : Nat), K1 a2 kp2 bt2 sz2 sh2 ke2 km2 ∧ K2 a2 kp2 bt2 sz2 sh2 ke2 km2 := by
  obtain ⟨b0, b1, b2, b3⟩ := hok.1
  obtain ⟨e1, k1⟩ := h1
  obtain ⟨e2, k2⟩ := h2
  exact ⟨by rw [e1, e2], _, _, _, _, _, _, _, k1, k2⟩
