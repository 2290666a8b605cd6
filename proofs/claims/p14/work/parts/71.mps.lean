def MP_rivals (a kp bt sz : Nat → Nat) (sheets : Nat → Int32) (ke km : Nat) (x : Int32) (r : Int64) (K : Kt) : Prop := ∃ (G : Nat → Nat) (cg : Nat), grp a (a 1) G cg ∧ cg ≤ a 1 ∧ ((¬ ix cg x ∧ r = -1000000001 ∧ K a kp bt sz sheets ke km) ∨ (∃ k : Nat, x = nI k ∧ k < cg ∧ r = (nI (rvN a G k (a 1))).toInt64 ∧ K a kp bt sz sheets ke km))
theorem mS_rivals (l : Launch) (D : va_G) {cy : Nat → ClassId} {ad : Nat → Nat} {a kp bt sz : Nat → Nat} {sheets : Nat → Int32} {ke km : Nat} {w : va_W} (hM : Mdl cy ad a kp bt sz sheets ke km w) (hok : okA a) (he : ke < 20) (hm : km ≤ 20) (hsz : ∀ i, i < 4 → sz i ≤ 16 ∧ (bt i = 0 ∨ bt i = 8 ∨ bt i = 16 ∨ bt i = 32)) (p0 : Int32) : mq_l l D (mT (cy 0) (cy 1)) yX12_rivals wsX12_rivals 5 0 0 123 [.ref (ad 0), .int p0] w (fun r w1 => MP_rivals a kp bt sz sheets ke km p0 r (fun a kp bt sz sheets ke km => Mdl cy ad a kp bt sz sheets ke km w1)) := by
  obtain ⟨go, ro, car, fi, gm, bs, bu, n1, n2, n3, n4, n5, n6, n7, px, py, db, rfl⟩ := hM
  obtain ⟨⟨b0, b1, b2, b3⟩, opl, omk, osg, ofd, osh, oz⟩ := id hok
  refine mq_cs_l (cM_rivals l D ad (cy 0) (cy 1) a kp bt sz sheets go ro car ke km fi gm bs bu n1 n2 n3 n4 n5 n6 n7 px py db p0 b0 opl b1 omk) (fun r w1 h => ?_)
  rcases h with ⟨z534, z535, z536, z537, z538, z539, z540, z541, z542, z543, z544, z545, ⟨z546, z547, (⟨z548, z549, rfl⟩ | ⟨z550, ⟨z551, z552, z553, rfl⟩⟩)⟩⟩
  · exact ⟨z534, z535, ⟨z546, z547, (.inl (⟨z548, z549, ⟨_, _, _, _, _, _, _, _, _, _, _, _, _, _, _, _, _, rfl⟩⟩))⟩⟩
  · exact ⟨z534, z535, ⟨z546, z547, (.inr (⟨z550, ⟨z551, z552, z553, ⟨_, _, _, _, _, _, _, _, _, _, _, _, _, _, _, _, _, rfl⟩⟩⟩))⟩⟩
theorem jn_rivals {a kp bt sz : Nat → Nat} {sheets : Nat → Int32} {ke km : Nat} {x : Int32} {r1 r2 : Int64} {K1 K2 : Kt} (hok : okA a) (hsz : ∀ i, i < 4 → sz i ≤ 16) (h1 : MP_rivals a kp bt sz sheets ke km x r1 K1) (h2 : MP_rivals a kp bt sz sheets ke km x r2 K2) : r1 = r2 ∧ ∃ (a2 kp2 bt2 sz2 : Nat → Nat) (sh2 : Nat → Int32) (ke2 km2 : Nat), K1 a2 kp2 bt2 sz2 sh2 ke2 km2 ∧ K2 a2 kp2 bt2 sz2 sh2 ke2 km2 := by
  obtain ⟨b0, b1, b2, b3⟩ := hok.1
  obtain ⟨G, cg, f1, f2, h1⟩ := h1
  obtain ⟨G2, cg2, f3, f4, h2⟩ := h2
  have ec := grp_many f1 f3
  subst ec
  rcases h1 with ⟨c1, e1, k1⟩ | ⟨k, p1, c1, e1, k1⟩ <;> rcases h2 with ⟨c2, e2, k2⟩ | ⟨k', p1', c2, e2, k2⟩
  · exact ⟨by rw [e1, e2], _, _, _, _, _, _, _, k1, k2⟩
  · exact absurd (by rw [p1']; exact ix_nI c2 (by omega)) c1
  · exact absurd (by rw [p1]; exact ix_nI c1 (by omega)) c2
  · have q1 := nI_inj7 (by omega) (by omega) (p1.symm.trans p1')
    subst q1
    rw [rvN_cg (grp_one f1 f3) _ (Nat.le_refl _)] at e1
    exact ⟨by rw [e1, e2], _, _, _, _, _, _, _, k1, k2⟩
