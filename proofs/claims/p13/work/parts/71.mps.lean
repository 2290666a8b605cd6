def MP_groups (a kp bt sz : Nat → Nat) (sheets : Nat → Int32) (ke km : Nat)  (r : Int64) (K : Kt) : Prop := ∃ (G : Nat → Nat) (cg : Nat), grp a (a 1) G cg ∧ cg ≤ a 1 ∧ r = (nI cg).toInt64 ∧ K a kp bt sz sheets ke km
theorem mS_groups (l : Launch) (D : va_G) {cy : Nat → ClassId} {ad : Nat → Nat} {a kp bt sz : Nat → Nat} {sheets : Nat → Int32} {ke km : Nat} {w : va_W} (hM : Mdl cy ad a kp bt sz sheets ke km w) (hok : okA a) (he : ke < 20) (hm : km ≤ 20) (hsz : ∀ i, i < 4 → sz i ≤ 16 ∧ (bt i = 0 ∨ bt i = 8 ∨ bt i = 16 ∨ bt i = 32))  : mq_l l D (mT (cy 0) (cy 1)) yX12_groups wsX12_groups 4 0 0 102 [.ref (ad 0)] w (fun r w1 => MP_groups a kp bt sz sheets ke km  r (fun a kp bt sz sheets ke km => Mdl cy ad a kp bt sz sheets ke km w1)) := by
  obtain ⟨go, ro, car, fi, gm, bs, bu, n1, n2, n3, n4, n5, n6, n7, px, py, db, rfl⟩ := hM
  obtain ⟨⟨b0, b1, b2, b3⟩, opl, omk, osg, ofd, osh, oz⟩ := id hok
  refine mq_cs_l (cM_groups l D ad (cy 0) (cy 1) a kp bt sz sheets go ro car ke km fi gm bs bu n1 n2 n3 n4 n5 n6 n7 px py db  b0 opl b1 omk) (fun r w1 h => ?_)
  rcases h with ⟨z519, z520, z521, z522, z523, z524, z525, z526, z527, z528, z529, z530, ⟨z531, z532, z533, rfl⟩⟩
  · exact ⟨z519, z520, ⟨z531, z532, z533, ⟨_, _, _, _, _, _, _, _, _, _, _, _, _, _, _, _, _, rfl⟩⟩⟩
theorem jn_groups {a kp bt sz : Nat → Nat} {sheets : Nat → Int32} {ke km : Nat}  {r1 r2 : Int64} {K1 K2 : Kt} (hok : okA a) (hsz : ∀ i, i < 4 → sz i ≤ 16) (h1 : MP_groups a kp bt sz sheets ke km  r1 K1) (h2 : MP_groups a kp bt sz sheets ke km  r2 K2) : r1 = r2 ∧ ∃ (a2 kp2 bt2 sz2 : Nat → Nat) (sh2 : Nat → Int32) (ke2 km2 : Nat), K1 a2 kp2 bt2 sz2 sh2 ke2 km2 ∧ K2 a2 kp2 bt2 sz2 sh2 ke2 km2 := by
  obtain ⟨b0, b1, b2, b3⟩ := hok.1
  obtain ⟨G, cg, f1, f2, e1, k1⟩ := h1
  obtain ⟨G2, cg2, f3, f4, e2, k2⟩ := h2
  rw [grp_many f1 f3] at e1
  exact ⟨by rw [e1, e2], _, _, _, _, _, _, _, k1, k2⟩
