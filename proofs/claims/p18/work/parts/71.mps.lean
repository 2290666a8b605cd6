def MP_is (a kp bt sz : Nat → Nat) (sheets : Nat → Int32) (ke km : Nat) (x : Int32) (r : Int64) (K : Kt) : Prop := ∃ (G : Nat → Nat) (cg : Nat), grp a (a 1) G cg ∧ cg ≤ a 1 ∧ ((¬ ix cg x ∧ r = -1000000001 ∧ K a kp bt sz sheets ke km) ∨ (∃ k : Nat, x = nI k ∧ k < cg ∧ ((¬ wrGo (fun j => a (322 + j)) (a 2) (a 2) 0 0 = -1 ∧ r = -1000000004 ∧ K a kp bt sz sheets ke km) ∨ (wrGo (fun j => a (322 + j)) (a 2) (a 2) 0 0 = -1 ∧ ∃ (ro0 rr : Nat → Nat) (d : Nat), exS (tdV a G k) (fun j => a (322 + j)) ro0 (a 2) = (rr, d) ∧ r = (if rr 0 ≠ 0 then 1 else 0) ∧ K a kp bt sz sheets ke km))))
theorem mS_is (l : Launch) (D : va_G) {cy : Nat → ClassId} {ad : Nat → Nat} {a kp bt sz : Nat → Nat} {sheets : Nat → Int32} {ke km : Nat} {w : va_W} (hM : Mdl cy ad a kp bt sz sheets ke km w) (hok : okA a) (he : ke < 20) (hm : km ≤ 20) (hsz : ∀ i, i < 4 → sz i ≤ 16 ∧ (bt i = 0 ∨ bt i = 8 ∨ bt i = 16 ∨ bt i = 32)) (p0 : Int32) : mq_l l D (mT (cy 0) (cy 1)) yX12_is wsX12_is 5 0 0 123 [.ref (ad 0), .int p0] w (fun r w1 => MP_is a kp bt sz sheets ke km p0 r (fun a kp bt sz sheets ke km => Mdl cy ad a kp bt sz sheets ke km w1)) := by
  obtain ⟨go, ro, car, fi, gm, bs, bu, n1, n2, n3, n4, n5, n6, n7, px, py, db, rfl⟩ := hM
  obtain ⟨⟨b0, b1, b2, b3⟩, opl, omk, osg, ofd, osh, oz⟩ := id hok
  refine mq_cs_l (cM_is l D ad (cy 0) (cy 1) a kp bt sz sheets go ro car ke km fi gm bs bu n1 n2 n3 n4 n5 n6 n7 px py db p0 b0 opl b1 omk b2 osg) (fun r w1 h => ?_)
  rcases h with ⟨z555, z556, z557, z558, z559, z560, z561, z562, z563, z564, z565, z566, ⟨z567, z568, (⟨z569, z570, rfl⟩ | ⟨z571, ⟨z572, z573, (⟨z574, z575, rfl⟩ | ⟨z576, ⟨z577, z578, z579, ⟨z580, z581, rfl⟩⟩⟩)⟩⟩)⟩⟩
  · exact ⟨z555, z556, ⟨z567, z568, (.inl (⟨z569, z570, ⟨_, _, _, _, _, _, _, _, _, _, _, _, _, _, _, _, _, rfl⟩⟩))⟩⟩
  · exact ⟨z555, z556, ⟨z567, z568, (.inr (⟨z571, ⟨z572, z573, (.inl (⟨z574, z575, ⟨_, _, _, _, _, _, _, _, _, _, _, _, _, _, _, _, _, rfl⟩⟩))⟩⟩))⟩⟩
  · exact ⟨z555, z556, ⟨z567, z568, (.inr (⟨z571, ⟨z572, z573, (.inr (⟨z576, ⟨z577, z578, z579, ⟨z580, z581, ⟨_, _, _, _, _, _, _, _, _, _, _, _, _, _, _, _, _, rfl⟩⟩⟩⟩))⟩⟩))⟩⟩
theorem jn_is {a kp bt sz : Nat → Nat} {sheets : Nat → Int32} {ke km : Nat} {x : Int32} {r1 r2 : Int64} {K1 K2 : Kt} (hok : okA a) (hsz : ∀ i, i < 4 → sz i ≤ 16) (h1 : MP_is a kp bt sz sheets ke km x r1 K1) (h2 : MP_is a kp bt sz sheets ke km x r2 K2) : r1 = r2 ∧ ∃ (a2 kp2 bt2 sz2 : Nat → Nat) (sh2 : Nat → Int32) (ke2 km2 : Nat), K1 a2 kp2 bt2 sz2 sh2 ke2 km2 ∧ K2 a2 kp2 bt2 sz2 sh2 ke2 km2 := by
  obtain ⟨b0, b1, b2, b3⟩ := hok.1
  obtain ⟨G, cg, f1, f2, h1⟩ := h1
  obtain ⟨G2, cg2, f3, f4, h2⟩ := h2
  have ec := grp_many f1 f3
  subst ec
  rcases h1 with ⟨c1, e1, k1⟩ | ⟨k, p1, c1, h1⟩ <;> rcases h2 with ⟨c2, e2, k2⟩ | ⟨k', p1', c2, h2⟩
  · exact ⟨by rw [e1, e2], _, _, _, _, _, _, _, k1, k2⟩
  · exact absurd (by rw [p1']; exact ix_nI c2 (by omega)) c1
  · exact absurd (by rw [p1]; exact ix_nI c1 (by omega)) c2
  · have q1 := nI_inj7 (by omega) (by omega) (p1.symm.trans p1')
    subst q1
    rcases h1 with ⟨d1, e1, k1⟩ | ⟨d1, ro0, rr, d, x1, e1, k1⟩ <;> rcases h2 with ⟨d2, e2, k2⟩ | ⟨d2, ro2, rr2, d', x2, e2, k2⟩
    · exact ⟨by rw [e1, e2], _, _, _, _, _, _, _, k1, k2⟩
    · exact absurd d2 d1
    · exact absurd d1 d2
    · have et : tdV a G k = tdV a G2 k := by
        funext v
        obtain ⟨t1, t2, t3, t4⟩ := td_cg (a := a) (k := k) (grp_one f1 f3) _ (Nat.le_refl _)
        unfold tdV
        rw [t1, t2, t3, t4]
      rw [et] at x1
      obtain ⟨r1, r2, y1, y2, y3⟩ := exS_in (fc := tdV a G2 k) (g := fun j => a (322 + j)) (ro := ro0) (ro' := ro2) (N := a 2) (a 2) 0 0 (Nat.zero_add _) d1 (by omega) ro0 ro2 rfl rfl (fun j hj => absurd hj (Nat.not_lt_zero j))
      have z1 : rr = r1 := congrArg Prod.fst (x1.symm.trans y1)
      have z2 : rr2 = r2 := congrArg Prod.fst (x2.symm.trans y2)
      rw [z1, y3, ← z2] at e1
      exact ⟨by rw [e1, e2], _, _, _, _, _, _, _, k1, k2⟩
