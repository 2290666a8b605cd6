theorem mk_picture (l : Launch) (D : va_G) {cy : Nat → ClassId} {ad : Nat → Nat} {a kp bt sz : Nat → Nat} {sheets : Nat → Int32} {ke km : Nat} {w : va_W} (hM : Mdl cy ad a kp bt sz sheets ke km w) (hok : okA a) (he : ke < 20) (hm : km ≤ 20) (hsz : ∀ i, i < 4 → sz i ≤ 16 ∧ (bt i = 0 ∨ bt i = 8 ∨ bt i = 16 ∨ bt i = 32))  : mq_l l D (mT (cy 0) (cy 1)) yX12_picture wsX12_picture 1 0 0 22 [.ref (ad 0)] w (fun r w1 => MP_picture a kp bt sz sheets ke km  r (fun a kp bt sz sheets ke km => Mdl cy ad a kp bt sz sheets ke km w1)) := by
  obtain ⟨go, ro, car, fi, gm, bs, bu, n1, n2, n3, n4, n5, n6, n7, px, py, db, rfl⟩ := hM
  obtain ⟨⟨b0, b1, b2, b3⟩, opl, omk, osg, ofd, osh, oz⟩ := id hok
  refine mq_cs_l (cM_picture l D ad (cy 0) (cy 1) a kp bt sz sheets go ro car ke km fi gm bs bu n1 n2 n3 n4 n5 n6 n7 px py db  b0 he hm) (fun r w1 h => ?_)
  rcases h with ⟨z1, z2, rfl⟩ | ⟨z3, z4, rfl⟩
  · exact (.inl (⟨z1, z2, ⟨_, _, _, _, _, _, _, _, _, _, _, _, _, _, _, _, _, rfl⟩⟩))
  · exact (.inr (⟨z3, z4, ⟨_, _, _, _, _, _, _, _, _, _, _, _, _, _, _, _, _, rfl⟩⟩))
theorem mk_place (l : Launch) (D : va_G) {cy : Nat → ClassId} {ad : Nat → Nat} {a kp bt sz : Nat → Nat} {sheets : Nat → Int32} {ke km : Nat} {w : va_W} (hM : Mdl cy ad a kp bt sz sheets ke km w) (hok : okA a) (he : ke < 20) (hm : km ≤ 20) (hsz : ∀ i, i < 4 → sz i ≤ 16 ∧ (bt i = 0 ∨ bt i = 8 ∨ bt i = 16 ∨ bt i = 32)) (p0 : Int32) (p1 : Int32) (p2 : Int32) (p3 : Int32) (p4 : Int32) : mq_l l D (mT (cy 0) (cy 1)) yX12_place wsX12_place 2 0 0 43 [.ref (ad 0), .int p0, .int p1, .int p2, .int p3, .int p4] w (fun r w1 => MP_place a kp bt sz sheets ke km p0 p1 p2 p3 p4 r (fun a kp bt sz sheets ke km => Mdl cy ad a kp bt sz sheets ke km w1)) := by
  obtain ⟨go, ro, car, fi, gm, bs, bu, n1, n2, n3, n4, n5, n6, n7, px, py, db, rfl⟩ := hM
  obtain ⟨⟨b0, b1, b2, b3⟩, opl, omk, osg, ofd, osh, oz⟩ := id hok
  refine mq_cs_l (cM_place l D ad (cy 0) (cy 1) a kp bt sz sheets go ro car ke km fi gm bs bu n1 n2 n3 n4 n5 n6 n7 px py db p0 p1 p2 p3 p4 b0 (fun i hi => (opl i hi).1) he hm) (fun r w1 h => ?_)
  rcases h with ⟨z5, z6, rfl⟩ | ⟨z7, z8, z9, z10, z11, ⟨z12, (⟨z13, z14, rfl⟩ | ⟨z15, z16, rfl⟩)⟩⟩
  · exact (.inl (⟨z5, z6, ⟨_, _, _, _, _, _, _, _, _, _, _, _, _, _, _, _, _, rfl⟩⟩))
  · exact (.inr (⟨z7, z8, z9, z10, z11, ⟨z12, (.inl (⟨z13, z14, ⟨_, _, _, _, _, _, _, _, _, _, _, _, _, _, _, _, _, rfl⟩⟩))⟩⟩))
  · exact (.inr (⟨z7, z8, z9, z10, z11, ⟨z12, (.inr (⟨z15, z16, ⟨_, _, _, _, _, _, _, _, _, _, _, _, _, _, _, _, _, rfl⟩⟩))⟩⟩))
theorem mk_unplace (l : Launch) (D : va_G) {cy : Nat → ClassId} {ad : Nat → Nat} {a kp bt sz : Nat → Nat} {sheets : Nat → Int32} {ke km : Nat} {w : va_W} (hM : Mdl cy ad a kp bt sz sheets ke km w) (hok : okA a) (he : ke < 20) (hm : km ≤ 20) (hsz : ∀ i, i < 4 → sz i ≤ 16 ∧ (bt i = 0 ∨ bt i = 8 ∨ bt i = 16 ∨ bt i = 32)) (p0 : Int32) : mq_l l D (mT (cy 0) (cy 1)) yX12_unplace wsX12_unplace 2 0 0 43 [.ref (ad 0), .int p0] w (fun r w1 => MP_unplace a kp bt sz sheets ke km p0 r (fun a kp bt sz sheets ke km => Mdl cy ad a kp bt sz sheets ke km w1)) := by
  obtain ⟨go, ro, car, fi, gm, bs, bu, n1, n2, n3, n4, n5, n6, n7, px, py, db, rfl⟩ := hM
  obtain ⟨⟨b0, b1, b2, b3⟩, opl, omk, osg, ofd, osh, oz⟩ := id hok
  refine mq_cs_l (cM_unplace l D ad (cy 0) (cy 1) a kp bt sz sheets go ro car ke km fi gm bs bu n1 n2 n3 n4 n5 n6 n7 px py db p0 b0 (fun i hi => (opl i hi).1) he hm) (fun r w1 h => ?_)
  rcases h with ⟨z17, z18, rfl⟩ | ⟨z19, ⟨z20, (⟨z21, z22, rfl⟩ | ⟨z23, z24, rfl⟩)⟩⟩
  · exact (.inl (⟨z17, z18, ⟨_, _, _, _, _, _, _, _, _, _, _, _, _, _, _, _, _, rfl⟩⟩))
  · exact (.inr (⟨z19, ⟨z20, (.inl (⟨z21, z22, ⟨_, _, _, _, _, _, _, _, _, _, _, _, _, _, _, _, _, rfl⟩⟩))⟩⟩))
  · exact (.inr (⟨z19, ⟨z20, (.inr (⟨z23, z24, ⟨_, _, _, _, _, _, _, _, _, _, _, _, _, _, _, _, _, rfl⟩⟩))⟩⟩))
theorem mk_mark (l : Launch) (D : va_G) {cy : Nat → ClassId} {ad : Nat → Nat} {a kp bt sz : Nat → Nat} {sheets : Nat → Int32} {ke km : Nat} {w : va_W} (hM : Mdl cy ad a kp bt sz sheets ke km w) (hok : okA a) (he : ke < 20) (hm : km ≤ 20) (hsz : ∀ i, i < 4 → sz i ≤ 16 ∧ (bt i = 0 ∨ bt i = 8 ∨ bt i = 16 ∨ bt i = 32)) (p0 : Int32) (p1 : Int32) (p2 : Int32) (p3 : Int32) (p4 : Int32) (p5 : Int32) : mq_l l D (mT (cy 0) (cy 1)) yX12_mark wsX12_mark 2 0 0 43 [.ref (ad 0), .int p0, .int p1, .int p2, .int p3, .int p4, .int p5] w (fun r w1 => MP_mark a kp bt sz sheets ke km p0 p1 p2 p3 p4 p5 r (fun a kp bt sz sheets ke km => Mdl cy ad a kp bt sz sheets ke km w1)) := by
  obtain ⟨go, ro, car, fi, gm, bs, bu, n1, n2, n3, n4, n5, n6, n7, px, py, db, rfl⟩ := hM
  obtain ⟨⟨b0, b1, b2, b3⟩, opl, omk, osg, ofd, osh, oz⟩ := id hok
  refine mq_cs_l (cM_mark l D ad (cy 0) (cy 1) a kp bt sz sheets go ro car ke km fi gm bs bu n1 n2 n3 n4 n5 n6 n7 px py db p0 p1 p2 p3 p4 p5 b0 b1 he hm) (fun r w1 h => ?_)
  rcases h with ⟨z25, z26, rfl⟩ | ⟨z27, z28, z29, z30, z31, z32, ⟨z33, z34, (⟨z35, z36, rfl⟩ | ⟨z37, z38, rfl⟩)⟩⟩
  · exact (.inl (⟨z25, z26, ⟨_, _, _, _, _, _, _, _, _, _, _, _, _, _, _, _, _, rfl⟩⟩))
  · exact (.inr (⟨z27, z28, z29, z30, z31, z32, ⟨z33, z34, (.inl (⟨z35, z36, ⟨_, _, _, _, _, _, _, _, _, _, _, _, _, _, _, _, _, rfl⟩⟩))⟩⟩))
  · exact (.inr (⟨z27, z28, z29, z30, z31, z32, ⟨z33, z34, (.inr (⟨z37, z38, ⟨_, _, _, _, _, _, _, _, _, _, _, _, _, _, _, _, _, rfl⟩⟩))⟩⟩))
theorem mk_sign (l : Launch) (D : va_G) {cy : Nat → ClassId} {ad : Nat → Nat} {a kp bt sz : Nat → Nat} {sheets : Nat → Int32} {ke km : Nat} {w : va_W} (hM : Mdl cy ad a kp bt sz sheets ke km w) (hok : okA a) (he : ke < 20) (hm : km ≤ 20) (hsz : ∀ i, i < 4 → sz i ≤ 16 ∧ (bt i = 0 ∨ bt i = 8 ∨ bt i = 16 ∨ bt i = 32)) (p0 : Int32) : mq_l l D (mT (cy 0) (cy 1)) yX12_sign wsX12_sign 2 0 0 42 [.ref (ad 0), .int p0] w (fun r w1 => MP_sign a kp bt sz sheets ke km p0 r (fun a kp bt sz sheets ke km => Mdl cy ad a kp bt sz sheets ke km w1)) := by
  obtain ⟨go, ro, car, fi, gm, bs, bu, n1, n2, n3, n4, n5, n6, n7, px, py, db, rfl⟩ := hM
  obtain ⟨⟨b0, b1, b2, b3⟩, opl, omk, osg, ofd, osh, oz⟩ := id hok
  refine mq_cs_l (cM_sign l D ad (cy 0) (cy 1) a kp bt sz sheets go ro car ke km fi gm bs bu n1 n2 n3 n4 n5 n6 n7 px py db p0 b2 he hm) (fun r w1 h => ?_)
  rcases h with ⟨z39, z40, rfl⟩ | ⟨z41, ⟨z42, (⟨z43, z44, rfl⟩ | ⟨z45, z46, rfl⟩)⟩⟩
  · exact (.inl (⟨z39, z40, ⟨_, _, _, _, _, _, _, _, _, _, _, _, _, _, _, _, _, rfl⟩⟩))
  · exact (.inr (⟨z41, ⟨z42, (.inl (⟨z43, z44, ⟨_, _, _, _, _, _, _, _, _, _, _, _, _, _, _, _, _, rfl⟩⟩))⟩⟩))
  · exact (.inr (⟨z41, ⟨z42, (.inr (⟨z45, z46, ⟨_, _, _, _, _, _, _, _, _, _, _, _, _, _, _, _, _, rfl⟩⟩))⟩⟩))
theorem mk_blank (l : Launch) (D : va_G) {cy : Nat → ClassId} {ad : Nat → Nat} {a kp bt sz : Nat → Nat} {sheets : Nat → Int32} {ke km : Nat} {w : va_W} (hM : Mdl cy ad a kp bt sz sheets ke km w) (hok : okA a) (he : ke < 20) (hm : km ≤ 20) (hsz : ∀ i, i < 4 → sz i ≤ 16 ∧ (bt i = 0 ∨ bt i = 8 ∨ bt i = 16 ∨ bt i = 32))  : mq_l l D (mT (cy 0) (cy 1)) yX12_blank wsX12_blank 1 0 0 21 [.ref (ad 0)] w (fun r w1 => MP_blank a kp bt sz sheets ke km  r (fun a kp bt sz sheets ke km => Mdl cy ad a kp bt sz sheets ke km w1)) := by
  obtain ⟨go, ro, car, fi, gm, bs, bu, n1, n2, n3, n4, n5, n6, n7, px, py, db, rfl⟩ := hM
  obtain ⟨⟨b0, b1, b2, b3⟩, opl, omk, osg, ofd, osh, oz⟩ := id hok
  refine mq_cs_l (cM_blank l D ad (cy 0) (cy 1) a kp bt sz sheets go ro car ke km fi gm bs bu n1 n2 n3 n4 n5 n6 n7 px py db  he hm) (fun r w1 h => ?_)
  rcases h with ⟨z47, rfl⟩
  · exact ⟨z47, ⟨_, _, _, _, _, _, _, _, _, _, _, _, _, _, _, _, _, rfl⟩⟩
theorem mk_field (l : Launch) (D : va_G) {cy : Nat → ClassId} {ad : Nat → Nat} {a kp bt sz : Nat → Nat} {sheets : Nat → Int32} {ke km : Nat} {w : va_W} (hM : Mdl cy ad a kp bt sz sheets ke km w) (hok : okA a) (he : ke < 20) (hm : km ≤ 20) (hsz : ∀ i, i < 4 → sz i ≤ 16 ∧ (bt i = 0 ∨ bt i = 8 ∨ bt i = 16 ∨ bt i = 32)) (p0 : Int32) (p1 : Int32) (p2 : Int32) : mq_l l D (mT (cy 0) (cy 1)) yX12_field wsX12_field 1 0 0 22 [.ref (ad 0), .int p0, .int p1, .int p2] w (fun r w1 => MP_field a kp bt sz sheets ke km p0 p1 p2 r (fun a kp bt sz sheets ke km => Mdl cy ad a kp bt sz sheets ke km w1)) := by
  obtain ⟨go, ro, car, fi, gm, bs, bu, n1, n2, n3, n4, n5, n6, n7, px, py, db, rfl⟩ := hM
  obtain ⟨⟨b0, b1, b2, b3⟩, opl, omk, osg, ofd, osh, oz⟩ := id hok
  refine mq_cs_l (cM_field l D ad (cy 0) (cy 1) a kp bt sz sheets go ro car ke km fi gm bs bu n1 n2 n3 n4 n5 n6 n7 px py db p0 p1 p2 b3 he hm) (fun r w1 h => ?_)
  rcases h with ⟨z48, z49, rfl⟩ | ⟨z50, z51, z52, ⟨z53, (⟨z54, z55, rfl⟩ | ⟨z56, z57, rfl⟩)⟩⟩
  · exact (.inl (⟨z48, z49, ⟨_, _, _, _, _, _, _, _, _, _, _, _, _, _, _, _, _, rfl⟩⟩))
  · exact (.inr (⟨z50, z51, z52, ⟨z53, (.inl (⟨z54, z55, ⟨_, _, _, _, _, _, _, _, _, _, _, _, _, _, _, _, _, rfl⟩⟩))⟩⟩))
  · exact (.inr (⟨z50, z51, z52, ⟨z53, (.inr (⟨z56, z57, ⟨_, _, _, _, _, _, _, _, _, _, _, _, _, _, _, _, _, rfl⟩⟩))⟩⟩))
theorem mk_look (l : Launch) (D : va_G) {cy : Nat → ClassId} {ad : Nat → Nat} {a kp bt sz : Nat → Nat} {sheets : Nat → Int32} {ke km : Nat} {w : va_W} (hM : Mdl cy ad a kp bt sz sheets ke km w) (hok : okA a) (he : ke < 20) (hm : km ≤ 20) (hsz : ∀ i, i < 4 → sz i ≤ 16 ∧ (bt i = 0 ∨ bt i = 8 ∨ bt i = 16 ∨ bt i = 32)) (p0 : Int32) (p1 : Int32) (p2 : Int32) (p3 : Int32) : mq_l l D (mT (cy 0) (cy 1)) yX12_look wsX12_look 2 0 0 43 [.ref (ad 0), .int p0, .int p1, .int p2, .int p3] w (fun r w1 => MP_look a kp bt sz sheets ke km p0 p1 p2 p3 r (fun a kp bt sz sheets ke km => Mdl cy ad a kp bt sz sheets ke km w1)) := by
  obtain ⟨go, ro, car, fi, gm, bs, bu, n1, n2, n3, n4, n5, n6, n7, px, py, db, rfl⟩ := hM
  obtain ⟨⟨b0, b1, b2, b3⟩, opl, omk, osg, ofd, osh, oz⟩ := id hok
  refine mq_cs_l (cM_look l D ad (cy 0) (cy 1) a kp bt sz sheets go ro car ke km fi gm bs bu n1 n2 n3 n4 n5 n6 n7 px py db p0 p1 p2 p3 b3 (fun i hi => ⟨(ofd i hi).2.2.2.1, (ofd i hi).2.2.2.2.1⟩) he hm) (fun r w1 h => ?_)
  rcases h with ⟨z58, z59, rfl⟩ | ⟨z60, z61, z62, ⟨z63, (⟨z64, z65, rfl⟩ | ⟨z66, z67, z68, rfl⟩ | ⟨z69, z70, z71, rfl⟩)⟩⟩
  · exact (.inl (⟨z58, z59, ⟨_, _, _, _, _, _, _, _, _, _, _, _, _, _, _, _, _, rfl⟩⟩))
  · exact (.inr (⟨z60, z61, z62, ⟨z63, (.inl (⟨z64, z65, ⟨_, _, _, _, _, _, _, _, _, _, _, _, _, _, _, _, _, rfl⟩⟩))⟩⟩))
  · exact (.inr (⟨z60, z61, z62, ⟨z63, (.inr (.inl (⟨z66, z67, z68, ⟨_, _, _, _, _, _, _, _, _, _, _, _, _, _, _, _, _, rfl⟩⟩)))⟩⟩))
  · exact (.inr (⟨z60, z61, z62, ⟨z63, (.inr (.inr (⟨z69, z70, z71, ⟨_, _, _, _, _, _, _, _, _, _, _, _, _, _, _, _, _, rfl⟩⟩)))⟩⟩))
theorem mk_dig (l : Launch) (D : va_G) {cy : Nat → ClassId} {ad : Nat → Nat} {a kp bt sz : Nat → Nat} {sheets : Nat → Int32} {ke km : Nat} {w : va_W} (hM : Mdl cy ad a kp bt sz sheets ke km w) (hok : okA a) (he : ke < 20) (hm : km ≤ 20) (hsz : ∀ i, i < 4 → sz i ≤ 16 ∧ (bt i = 0 ∨ bt i = 8 ∨ bt i = 16 ∨ bt i = 32)) (p0 : Int32) (p1 : Int32) : mq_l l D (mT (cy 0) (cy 1)) yX12_dig wsX12_dig 2 0 0 43 [.ref (ad 0), .int p0, .int p1] w (fun r w1 => MP_dig a kp bt sz sheets ke km p0 p1 r (fun a kp bt sz sheets ke km => Mdl cy ad a kp bt sz sheets ke km w1)) := by
  obtain ⟨go, ro, car, fi, gm, bs, bu, n1, n2, n3, n4, n5, n6, n7, px, py, db, rfl⟩ := hM
  obtain ⟨⟨b0, b1, b2, b3⟩, opl, omk, osg, ofd, osh, oz⟩ := id hok
  refine mq_cs_l (cM_dig l D ad (cy 0) (cy 1) a kp bt sz sheets go ro car ke km fi gm bs bu n1 n2 n3 n4 n5 n6 n7 px py db p0 p1 b3 ofd (okA_shOk hok) he hm) (fun r w1 h => ?_)
  rcases h with ⟨z72, z73, rfl⟩ | ⟨z74, ⟨z75, (⟨z76, z77, rfl⟩ | ⟨z78, ⟨z79, ⟨z80, z81, rfl⟩⟩⟩)⟩⟩
  · exact (.inl (⟨z72, z73, ⟨_, _, _, _, _, _, _, _, _, _, _, _, _, _, _, _, _, rfl⟩⟩))
  · exact (.inr (⟨z74, ⟨z75, (.inl (⟨z76, z77, ⟨_, _, _, _, _, _, _, _, _, _, _, _, _, _, _, _, _, rfl⟩⟩))⟩⟩))
  · exact (.inr (⟨z74, ⟨z75, (.inr (⟨z78, ⟨z79, ⟨z80, z81, ⟨_, _, _, _, _, _, _, _, _, _, _, _, _, _, _, _, _, rfl⟩⟩⟩⟩))⟩⟩))
theorem mk_sheet (l : Launch) (D : va_G) {cy : Nat → ClassId} {ad : Nat → Nat} {a kp bt sz : Nat → Nat} {sheets : Nat → Int32} {ke km : Nat} {w : va_W} (hM : Mdl cy ad a kp bt sz sheets ke km w) (hok : okA a) (he : ke < 20) (hm : km ≤ 20) (hsz : ∀ i, i < 4 → sz i ≤ 16 ∧ (bt i = 0 ∨ bt i = 8 ∨ bt i = 16 ∨ bt i = 32)) (p0 : Int32) (p1 : Int32) (p2 : Int32) : mq_l l D (mT (cy 0) (cy 1)) yX12_sheet wsX12_sheet 2 0 0 42 [.ref (ad 0), .int p0, .int p1, .int p2] w (fun r w1 => MP_sheet a kp bt sz sheets ke km p0 p1 p2 r (fun a kp bt sz sheets ke km => Mdl cy ad a kp bt sz sheets ke km w1)) := by
  obtain ⟨go, ro, car, fi, gm, bs, bu, n1, n2, n3, n4, n5, n6, n7, px, py, db, rfl⟩ := hM
  obtain ⟨⟨b0, b1, b2, b3⟩, opl, omk, osg, ofd, osh, oz⟩ := id hok
  refine mq_cs_l (cM_sheet l D ad (cy 0) (cy 1) a kp bt sz sheets go ro car ke km fi gm bs bu n1 n2 n3 n4 n5 n6 n7 px py db p0 p1 p2 ) (fun r w1 h => ?_)
  rcases h with ⟨z82, z83, rfl⟩ | ⟨z84, z85, ⟨z86, z87, (⟨z88, z89, rfl⟩ | ⟨z90, z91, z92, rfl⟩ | ⟨z93, ⟨z94, z95, z96, rfl⟩⟩)⟩⟩
  · exact (.inl (⟨z82, z83, ⟨_, _, _, _, _, _, _, _, _, _, _, _, _, _, _, _, _, rfl⟩⟩))
  · exact (.inr (⟨z84, z85, ⟨z86, z87, (.inl (⟨z88, z89, ⟨_, _, _, _, _, _, _, _, _, _, _, _, _, _, _, _, _, rfl⟩⟩))⟩⟩))
  · exact (.inr (⟨z84, z85, ⟨z86, z87, (.inr (.inl (⟨z90, z91, z92, ⟨_, _, _, _, _, _, _, _, _, _, _, _, _, _, _, _, _, rfl⟩⟩)))⟩⟩))
  · exact (.inr (⟨z84, z85, ⟨z86, z87, (.inr (.inr (⟨z93, ⟨z94, z95, z96, ⟨_, _, _, _, _, _, _, _, _, _, _, _, _, _, _, _, _, rfl⟩⟩⟩)))⟩⟩))
theorem mk_put (l : Launch) (D : va_G) {cy : Nat → ClassId} {ad : Nat → Nat} {a kp bt sz : Nat → Nat} {sheets : Nat → Int32} {ke km : Nat} {w : va_W} (hM : Mdl cy ad a kp bt sz sheets ke km w) (hok : okA a) (he : ke < 20) (hm : km ≤ 20) (hsz : ∀ i, i < 4 → sz i ≤ 16 ∧ (bt i = 0 ∨ bt i = 8 ∨ bt i = 16 ∨ bt i = 32)) (p0 : Int32) (p1 : Int32) (p2 : Int32) : mq_l l D (mT (cy 0) (cy 1)) yX12_put wsX12_put 2 0 0 42 [.ref (ad 0), .int p0, .int p1, .int p2] w (fun r w1 => MP_put a kp bt sz sheets ke km p0 p1 p2 r (fun a kp bt sz sheets ke km => Mdl cy ad a kp bt sz sheets ke km w1)) := by
  obtain ⟨go, ro, car, fi, gm, bs, bu, n1, n2, n3, n4, n5, n6, n7, px, py, db, rfl⟩ := hM
  obtain ⟨⟨b0, b1, b2, b3⟩, opl, omk, osg, ofd, osh, oz⟩ := id hok
  refine mq_cs_l (cM_put l D ad (cy 0) (cy 1) a kp bt sz sheets go ro car ke km fi gm bs bu n1 n2 n3 n4 n5 n6 n7 px py db p0 p1 p2 (fun j hj => (hsz j (by omega)).1) (fun j hj => (hsz j (by omega)).2)) (fun r w1 h => ?_)
  rcases h with ⟨z97, z98, rfl⟩ | ⟨z99, ⟨z100, (⟨z101, z102, rfl⟩ | ⟨z103, z104, z105, rfl⟩ | ⟨z106, ⟨z107, ⟨z108, z109, z110, rfl⟩⟩⟩)⟩⟩
  · exact (.inl (⟨z97, z98, ⟨_, _, _, _, _, _, _, _, _, _, _, _, _, _, _, _, _, rfl⟩⟩))
  · exact (.inr (⟨z99, ⟨z100, (.inl (⟨z101, z102, ⟨_, _, _, _, _, _, _, _, _, _, _, _, _, _, _, _, _, rfl⟩⟩))⟩⟩))
  · exact (.inr (⟨z99, ⟨z100, (.inr (.inl (⟨z103, z104, z105, ⟨_, _, _, _, _, _, _, _, _, _, _, _, _, _, _, _, _, rfl⟩⟩)))⟩⟩))
  · exact (.inr (⟨z99, ⟨z100, (.inr (.inr (⟨z106, ⟨z107, ⟨z108, z109, z110, ⟨_, _, _, _, _, _, _, _, _, _, _, _, _, _, _, _, _, rfl⟩⟩⟩⟩)))⟩⟩))
theorem mk_copy (l : Launch) (D : va_G) {cy : Nat → ClassId} {ad : Nat → Nat} {a kp bt sz : Nat → Nat} {sheets : Nat → Int32} {ke km : Nat} {w : va_W} (hM : Mdl cy ad a kp bt sz sheets ke km w) (hok : okA a) (he : ke < 20) (hm : km ≤ 20) (hsz : ∀ i, i < 4 → sz i ≤ 16 ∧ (bt i = 0 ∨ bt i = 8 ∨ bt i = 16 ∨ bt i = 32)) (p0 : Int32) (p1 : Int32) (p2 : Int32) (p3 : Int32) (p4 : Int32) : mq_l l D (mT (cy 0) (cy 1)) yX12_copy wsX12_copy 2 0 0 42 [.ref (ad 0), .int p0, .int p1, .int p2, .int p3, .int p4] w (fun r w1 => MP_copy a kp bt sz sheets ke km p0 p1 p2 p3 p4 r (fun a kp bt sz sheets ke km => Mdl cy ad a kp bt sz sheets ke km w1)) := by
  obtain ⟨go, ro, car, fi, gm, bs, bu, n1, n2, n3, n4, n5, n6, n7, px, py, db, rfl⟩ := hM
  obtain ⟨⟨b0, b1, b2, b3⟩, opl, omk, osg, ofd, osh, oz⟩ := id hok
  refine mq_cs_l (cM_copy l D ad (cy 0) (cy 1) a kp bt sz sheets go ro car ke km fi gm bs bu n1 n2 n3 n4 n5 n6 n7 px py db p0 p1 p2 p3 p4 (fun j hj => (hsz j (by omega)).1) (fun j hj => (hsz j (by omega)).2)) (fun r w1 h => ?_)
  rcases h with ⟨z111, z112, rfl⟩ | ⟨z113, z114, ⟨z115, (⟨z116, z117, rfl⟩ | ⟨z118, z119, z120, z121, rfl⟩ | ⟨z122, z123, z124, z125, rfl⟩ | ⟨z126, z127, ⟨z128, z129, z130, ⟨z131, z132, z133, z134, ⟨z135, rfl⟩⟩⟩⟩)⟩⟩
  · exact (.inl (⟨z111, z112, ⟨_, _, _, _, _, _, _, _, _, _, _, _, _, _, _, _, _, rfl⟩⟩))
  · exact (.inr (⟨z113, z114, ⟨z115, (.inl (⟨z116, z117, ⟨_, _, _, _, _, _, _, _, _, _, _, _, _, _, _, _, _, rfl⟩⟩))⟩⟩))
  · exact (.inr (⟨z113, z114, ⟨z115, (.inr (.inl (⟨z118, z119, z120, z121, ⟨_, _, _, _, _, _, _, _, _, _, _, _, _, _, _, _, _, rfl⟩⟩)))⟩⟩))
  · exact (.inr (⟨z113, z114, ⟨z115, (.inr (.inr (.inl (⟨z122, z123, z124, z125, ⟨_, _, _, _, _, _, _, _, _, _, _, _, _, _, _, _, _, rfl⟩⟩))))⟩⟩))
  · exact (.inr (⟨z113, z114, ⟨z115, (.inr (.inr (.inr (⟨z126, z127, ⟨z128, z129, z130, ⟨z131, z132, z133, z134, ⟨_, _, _, _, _, _, _, _, _, _, _, _, _, _, _, _, _, rfl⟩⟩⟩⟩))))⟩⟩))
theorem mk_text (l : Launch) (D : va_G) {cy : Nat → ClassId} {ad : Nat → Nat} {a kp bt sz : Nat → Nat} {sheets : Nat → Int32} {ke km : Nat} {w : va_W} (hM : Mdl cy ad a kp bt sz sheets ke km w) (hok : okA a) (he : ke < 20) (hm : km ≤ 20) (hsz : ∀ i, i < 4 → sz i ≤ 16 ∧ (bt i = 0 ∨ bt i = 8 ∨ bt i = 16 ∨ bt i = 32)) (p0 : Int32) : mq_l l D (mT (cy 0) (cy 1)) yX12_text wsX12_text 2 0 0 42 [.ref (ad 0), .int p0] w (fun r w1 => MP_text a kp bt sz sheets ke km p0 r (fun a kp bt sz sheets ke km => Mdl cy ad a kp bt sz sheets ke km w1)) := by
  obtain ⟨go, ro, car, fi, gm, bs, bu, n1, n2, n3, n4, n5, n6, n7, px, py, db, rfl⟩ := hM
  obtain ⟨⟨b0, b1, b2, b3⟩, opl, omk, osg, ofd, osh, oz⟩ := id hok
  refine mq_cs_l (cM_text l D ad (cy 0) (cy 1) a kp bt sz sheets go ro car ke km fi gm bs bu n1 n2 n3 n4 n5 n6 n7 px py db p0 (fun j hj => (hsz j (by omega)).1) (fun j hj => (hsz j (by omega)).2) he hm) (fun r w1 h => ?_)
  rcases h with ⟨z136, z137, rfl⟩ | ⟨z138, ⟨z139, (⟨z140, z141, rfl⟩ | ⟨z142, z143, z144, rfl⟩ | ⟨z145, z146, z147, z148, rfl⟩ | ⟨z149, z150, z151, z152, rfl⟩)⟩⟩
  · exact (.inl (⟨z136, z137, ⟨_, _, _, _, _, _, _, _, _, _, _, _, _, _, _, _, _, rfl⟩⟩))
  · exact (.inr (⟨z138, ⟨z139, (.inl (⟨z140, z141, ⟨_, _, _, _, _, _, _, _, _, _, _, _, _, _, _, _, _, rfl⟩⟩))⟩⟩))
  · exact (.inr (⟨z138, ⟨z139, (.inr (.inl (⟨z142, z143, z144, ⟨_, _, _, _, _, _, _, _, _, _, _, _, _, _, _, _, _, rfl⟩⟩)))⟩⟩))
  · exact (.inr (⟨z138, ⟨z139, (.inr (.inr (.inl (⟨z145, z146, z147, z148, ⟨_, _, _, _, _, _, _, _, _, _, _, _, _, _, _, _, _, rfl⟩⟩))))⟩⟩))
  · exact (.inr (⟨z138, ⟨z139, (.inr (.inr (.inr (⟨z149, z150, z151, z152, ⟨_, _, _, _, _, _, _, _, _, _, _, _, _, _, _, _, _, rfl⟩⟩))))⟩⟩))
theorem mk_undo (l : Launch) (D : va_G) {cy : Nat → ClassId} {ad : Nat → Nat} {a kp bt sz : Nat → Nat} {sheets : Nat → Int32} {ke km : Nat} {w : va_W} (hM : Mdl cy ad a kp bt sz sheets ke km w) (hok : okA a) (he : ke < 20) (hm : km ≤ 20) (hsz : ∀ i, i < 4 → sz i ≤ 16 ∧ (bt i = 0 ∨ bt i = 8 ∨ bt i = 16 ∨ bt i = 32))  : mq_l l D (mT (cy 0) (cy 1)) yX12_undo wsX12_undo 1 0 0 22 [.ref (ad 0)] w (fun r w1 => MP_undo a kp bt sz sheets ke km  r (fun a kp bt sz sheets ke km => Mdl cy ad a kp bt sz sheets ke km w1)) := by
  obtain ⟨go, ro, car, fi, gm, bs, bu, n1, n2, n3, n4, n5, n6, n7, px, py, db, rfl⟩ := hM
  obtain ⟨⟨b0, b1, b2, b3⟩, opl, omk, osg, ofd, osh, oz⟩ := id hok
  refine mq_cs_l (cM_undo l D ad (cy 0) (cy 1) a kp bt sz sheets go ro car ke km fi gm bs bu n1 n2 n3 n4 n5 n6 n7 px py db  he hm) (fun r w1 h => ?_)
  rcases h with ⟨z153, z154, rfl⟩ | ⟨z155, z156, rfl⟩
  · exact (.inl (⟨z153, z154, ⟨_, _, _, _, _, _, _, _, _, _, _, _, _, _, _, _, _, rfl⟩⟩))
  · exact (.inr (⟨z155, z156, ⟨_, _, _, _, _, _, _, _, _, _, _, _, _, _, _, _, _, rfl⟩⟩))
theorem ma_led (l : Launch) (D : va_G) {cy : Nat → ClassId} {ad : Nat → Nat} {a kp bt sz : Nat → Nat} {sheets : Nat → Int32} {ke km : Nat} {w : va_W} (hM : Mdl cy ad a kp bt sz sheets ke km w) (hok : okA a) (he : ke < 20) (hm : km ≤ 20) (hsz : ∀ i, i < 4 → sz i ≤ 16 ∧ (bt i = 0 ∨ bt i = 8 ∨ bt i = 16 ∨ bt i = 32)) (p0 : Int32) (p1 : Int32) (p2 : Int32) (p3 : Int32) : mq_l l D (mT (cy 0) (cy 1)) yX12_led wsX12_led 2 0 0 55 [.ref (ad 0), .int p0, .int p1, .int p2, .int p3] w (fun r w1 => Mdl cy ad a kp bt sz sheets ke km w1) := by
  obtain ⟨go, ro, car, fi, gm, bs, bu, n1, n2, n3, n4, n5, n6, n7, px, py, db, rfl⟩ := hM
  obtain ⟨⟨b0, b1, b2, b3⟩, opl, omk, osg, ofd, osh, oz⟩ := id hok
  refine mq_cs_l (cM_led l D ad (cy 0) (cy 1) a kp bt sz sheets go ro car ke km fi gm bs bu n1 n2 n3 n4 n5 n6 n7 px py db p0 p1 p2 p3 b0 opl) (fun r w1 h => ?_)
  rcases h with ⟨z157, z158, rfl⟩ | ⟨z159, z160, ⟨z161, (⟨z162, z163, ⟨z164, z165, z166, z167, z168, z169, z170, rfl⟩⟩ | ⟨z171, z172, ⟨z173, z174, z175, z176, z177, z178, z179, rfl⟩⟩)⟩⟩
  · exact ⟨_, _, _, _, _, _, _, _, _, _, _, _, _, _, _, _, _, rfl⟩
  · exact ⟨_, _, _, _, _, _, _, _, _, _, _, _, _, _, _, _, _, rfl⟩
  · exact ⟨_, _, _, _, _, _, _, _, _, _, _, _, _, _, _, _, _, rfl⟩
theorem ma_miss (l : Launch) (D : va_G) {cy : Nat → ClassId} {ad : Nat → Nat} {a kp bt sz : Nat → Nat} {sheets : Nat → Int32} {ke km : Nat} {w : va_W} (hM : Mdl cy ad a kp bt sz sheets ke km w) (hok : okA a) (he : ke < 20) (hm : km ≤ 20) (hsz : ∀ i, i < 4 → sz i ≤ 16 ∧ (bt i = 0 ∨ bt i = 8 ∨ bt i = 16 ∨ bt i = 32)) (p0 : Int32) (p1 : Int32) (p2 : Int32) : mq_l l D (mT (cy 0) (cy 1)) yX12_miss wsX12_miss 2 0 0 55 [.ref (ad 0), .int p0, .int p1, .int p2] w (fun r w1 => Mdl cy ad a kp bt sz sheets ke km w1) := by
  obtain ⟨go, ro, car, fi, gm, bs, bu, n1, n2, n3, n4, n5, n6, n7, px, py, db, rfl⟩ := hM
  obtain ⟨⟨b0, b1, b2, b3⟩, opl, omk, osg, ofd, osh, oz⟩ := id hok
  refine mq_cs_l (cM_miss l D ad (cy 0) (cy 1) a kp bt sz sheets go ro car ke km fi gm bs bu n1 n2 n3 n4 n5 n6 n7 px py db p0 p1 p2 b0 opl) (fun r w1 h => ?_)
  rcases h with ⟨z180, z181, rfl⟩ | ⟨z182, ⟨z183, (⟨z184, z185, ⟨z186, z187, z188, z189, z190, z191, z192, rfl⟩⟩ | ⟨z193, z194, ⟨z195, z196, z197, z198, z199, z200, z201, rfl⟩⟩)⟩⟩
  · exact ⟨_, _, _, _, _, _, _, _, _, _, _, _, _, _, _, _, _, rfl⟩
  · exact ⟨_, _, _, _, _, _, _, _, _, _, _, _, _, _, _, _, _, rfl⟩
  · exact ⟨_, _, _, _, _, _, _, _, _, _, _, _, _, _, _, _, _, rfl⟩
theorem ma_doubt (l : Launch) (D : va_G) {cy : Nat → ClassId} {ad : Nat → Nat} {a kp bt sz : Nat → Nat} {sheets : Nat → Int32} {ke km : Nat} {w : va_W} (hM : Mdl cy ad a kp bt sz sheets ke km w) (hok : okA a) (he : ke < 20) (hm : km ≤ 20) (hsz : ∀ i, i < 4 → sz i ≤ 16 ∧ (bt i = 0 ∨ bt i = 8 ∨ bt i = 16 ∨ bt i = 32)) (p0 : Int32) : mq_l l D (mT (cy 0) (cy 1)) yX12_doubt wsX12_doubt 2 0 0 59 [.ref (ad 0), .int p0] w (fun r w1 => Mdl cy ad a kp bt sz sheets ke km w1) := by
  obtain ⟨go, ro, car, fi, gm, bs, bu, n1, n2, n3, n4, n5, n6, n7, px, py, db, rfl⟩ := hM
  obtain ⟨⟨b0, b1, b2, b3⟩, opl, omk, osg, ofd, osh, oz⟩ := id hok
  refine mq_cs_l (cM_doubt l D ad (cy 0) (cy 1) a kp bt sz sheets go ro car ke km fi gm bs bu n1 n2 n3 n4 n5 n6 n7 px py db p0 b0 opl) (fun r w1 h => ?_)
  rcases h with ⟨z202, z203, rfl⟩ | ⟨z204, ⟨z205, (⟨z206, z207, ⟨z208, z209, z210, z211, z212, z213, z214, rfl⟩⟩ | ⟨z215, z216, ⟨z217, z218, z219, z220, z221, z222, z223, rfl⟩⟩)⟩⟩
  · exact ⟨_, _, _, _, _, _, _, _, _, _, _, _, _, _, _, _, _, rfl⟩
  · exact ⟨_, _, _, _, _, _, _, _, _, _, _, _, _, _, _, _, _, rfl⟩
  · exact ⟨_, _, _, _, _, _, _, _, _, _, _, _, _, _, _, _, _, rfl⟩
theorem ma_as (l : Launch) (D : va_G) {cy : Nat → ClassId} {ad : Nat → Nat} {a kp bt sz : Nat → Nat} {sheets : Nat → Int32} {ke km : Nat} {w : va_W} (hM : Mdl cy ad a kp bt sz sheets ke km w) (hok : okA a) (he : ke < 20) (hm : km ≤ 20) (hsz : ∀ i, i < 4 → sz i ≤ 16 ∧ (bt i = 0 ∨ bt i = 8 ∨ bt i = 16 ∨ bt i = 32)) (p0 : Int32) (p1 : Int32) : mq_l l D (mT (cy 0) (cy 1)) yX12_as wsX12_as 2 0 0 43 [.ref (ad 0), .int p0, .int p1] w (fun r w1 => Mdl cy ad a kp bt sz sheets ke km w1) := by
  obtain ⟨go, ro, car, fi, gm, bs, bu, n1, n2, n3, n4, n5, n6, n7, px, py, db, rfl⟩ := hM
  obtain ⟨⟨b0, b1, b2, b3⟩, opl, omk, osg, ofd, osh, oz⟩ := id hok
  refine mq_cs_l (cM_as l D ad (cy 0) (cy 1) a kp bt sz sheets go ro car ke km fi gm bs bu n1 n2 n3 n4 n5 n6 n7 px py db p0 p1 b1 (fun i hi => (omk i hi).2.1)) (fun r w1 h => ?_)
  rcases h with ⟨z224, z225, rfl⟩ | ⟨z226, z227, ⟨z228, (⟨z229, z230, rfl⟩ | ⟨z231, z232, rfl⟩)⟩⟩
  · exact ⟨_, _, _, _, _, _, _, _, _, _, _, _, _, _, _, _, _, rfl⟩
  · exact ⟨_, _, _, _, _, _, _, _, _, _, _, _, _, _, _, _, _, rfl⟩
  · exact ⟨_, _, _, _, _, _, _, _, _, _, _, _, _, _, _, _, _, rfl⟩
theorem ma_at (l : Launch) (D : va_G) {cy : Nat → ClassId} {ad : Nat → Nat} {a kp bt sz : Nat → Nat} {sheets : Nat → Int32} {ke km : Nat} {w : va_W} (hM : Mdl cy ad a kp bt sz sheets ke km w) (hok : okA a) (he : ke < 20) (hm : km ≤ 20) (hsz : ∀ i, i < 4 → sz i ≤ 16 ∧ (bt i = 0 ∨ bt i = 8 ∨ bt i = 16 ∨ bt i = 32)) (p0 : Int32) (p1 : Int32) : mq_l l D (mT (cy 0) (cy 1)) yX12_at wsX12_at 2 0 0 43 [.ref (ad 0), .int p0, .int p1] w (fun r w1 => Mdl cy ad a kp bt sz sheets ke km w1) := by
  obtain ⟨go, ro, car, fi, gm, bs, bu, n1, n2, n3, n4, n5, n6, n7, px, py, db, rfl⟩ := hM
  obtain ⟨⟨b0, b1, b2, b3⟩, opl, omk, osg, ofd, osh, oz⟩ := id hok
  refine mq_cs_l (cM_at l D ad (cy 0) (cy 1) a kp bt sz sheets go ro car ke km fi gm bs bu n1 n2 n3 n4 n5 n6 n7 px py db p0 p1 b0 opl b1 omk) (fun r w1 h => ?_)
  rcases h with ⟨z233, z234, rfl⟩ | ⟨z235, ⟨z236, (⟨z237, z238, ⟨z239, z240, z241, z242, z243, z244, z245, rfl⟩⟩ | ⟨z246, z247, ⟨z248, z249, z250, z251, z252, z253, z254, rfl⟩⟩)⟩⟩
  · exact ⟨_, _, _, _, _, _, _, _, _, _, _, _, _, _, _, _, _, rfl⟩
  · exact ⟨_, _, _, _, _, _, _, _, _, _, _, _, _, _, _, _, _, rfl⟩
  · exact ⟨_, _, _, _, _, _, _, _, _, _, _, _, _, _, _, _, _, rfl⟩
theorem ma_agree (l : Launch) (D : va_G) {cy : Nat → ClassId} {ad : Nat → Nat} {a kp bt sz : Nat → Nat} {sheets : Nat → Int32} {ke km : Nat} {w : va_W} (hM : Mdl cy ad a kp bt sz sheets ke km w) (hok : okA a) (he : ke < 20) (hm : km ≤ 20) (hsz : ∀ i, i < 4 → sz i ≤ 16 ∧ (bt i = 0 ∨ bt i = 8 ∨ bt i = 16 ∨ bt i = 32)) (p0 : Int32) (p1 : Int32) : mq_l l D (mT (cy 0) (cy 1)) yX12_agree wsX12_agree 3 0 0 81 [.ref (ad 0), .int p0, .int p1] w (fun r w1 => Mdl cy ad a kp bt sz sheets ke km w1) := by
  obtain ⟨go, ro, car, fi, gm, bs, bu, n1, n2, n3, n4, n5, n6, n7, px, py, db, rfl⟩ := hM
  obtain ⟨⟨b0, b1, b2, b3⟩, opl, omk, osg, ofd, osh, oz⟩ := id hok
  refine mq_cs_l (cM_agree l D ad (cy 0) (cy 1) a kp bt sz sheets go ro car ke km fi gm bs bu n1 n2 n3 n4 n5 n6 n7 px py db p0 p1 b0 opl b1 omk) (fun r w1 h => ?_)
  rcases h with ⟨z255, z256, rfl⟩ | ⟨z257, z258, ⟨z259, z260, ⟨z261, z262, z263, z264, z265, z266, z267, z268, z269, z270, rfl⟩⟩⟩
  · exact ⟨_, _, _, _, _, _, _, _, _, _, _, _, _, _, _, _, _, rfl⟩
  · exact ⟨_, _, _, _, _, _, _, _, _, _, _, _, _, _, _, _, _, rfl⟩
theorem ma_group (l : Launch) (D : va_G) {cy : Nat → ClassId} {ad : Nat → Nat} {a kp bt sz : Nat → Nat} {sheets : Nat → Int32} {ke km : Nat} {w : va_W} (hM : Mdl cy ad a kp bt sz sheets ke km w) (hok : okA a) (he : ke < 20) (hm : km ≤ 20) (hsz : ∀ i, i < 4 → sz i ≤ 16 ∧ (bt i = 0 ∨ bt i = 8 ∨ bt i = 16 ∨ bt i = 32)) (p0 : Int32) : mq_l l D (mT (cy 0) (cy 1)) yX12_group wsX12_group 4 0 0 102 [.ref (ad 0), .int p0] w (fun r w1 => Mdl cy ad a kp bt sz sheets ke km w1) := by
  obtain ⟨go, ro, car, fi, gm, bs, bu, n1, n2, n3, n4, n5, n6, n7, px, py, db, rfl⟩ := hM
  obtain ⟨⟨b0, b1, b2, b3⟩, opl, omk, osg, ofd, osh, oz⟩ := id hok
  refine mq_cs_l (cM_group l D ad (cy 0) (cy 1) a kp bt sz sheets go ro car ke km fi gm bs bu n1 n2 n3 n4 n5 n6 n7 px py db p0 b0 opl b1 omk) (fun r w1 h => ?_)
  rcases h with ⟨z271, z272, rfl⟩ | ⟨z273, ⟨z274, ⟨z275, z276, z277, z278, z279, z280, z281, z282, z283, z284, z285, z286, ⟨z287, z288, z289, rfl⟩⟩⟩⟩
  · exact ⟨_, _, _, _, _, _, _, _, _, _, _, _, _, _, _, _, _, rfl⟩
  · exact ⟨_, _, _, _, _, _, _, _, _, _, _, _, _, _, _, _, _, rfl⟩
theorem ma_groups (l : Launch) (D : va_G) {cy : Nat → ClassId} {ad : Nat → Nat} {a kp bt sz : Nat → Nat} {sheets : Nat → Int32} {ke km : Nat} {w : va_W} (hM : Mdl cy ad a kp bt sz sheets ke km w) (hok : okA a) (he : ke < 20) (hm : km ≤ 20) (hsz : ∀ i, i < 4 → sz i ≤ 16 ∧ (bt i = 0 ∨ bt i = 8 ∨ bt i = 16 ∨ bt i = 32))  : mq_l l D (mT (cy 0) (cy 1)) yX12_groups wsX12_groups 4 0 0 102 [.ref (ad 0)] w (fun r w1 => Mdl cy ad a kp bt sz sheets ke km w1) := by
  obtain ⟨go, ro, car, fi, gm, bs, bu, n1, n2, n3, n4, n5, n6, n7, px, py, db, rfl⟩ := hM
  obtain ⟨⟨b0, b1, b2, b3⟩, opl, omk, osg, ofd, osh, oz⟩ := id hok
  refine mq_cs_l (cM_groups l D ad (cy 0) (cy 1) a kp bt sz sheets go ro car ke km fi gm bs bu n1 n2 n3 n4 n5 n6 n7 px py db  b0 opl b1 omk) (fun r w1 h => ?_)
  rcases h with ⟨z290, z291, z292, z293, z294, z295, z296, z297, z298, z299, z300, z301, ⟨z302, z303, z304, rfl⟩⟩
  · exact ⟨_, _, _, _, _, _, _, _, _, _, _, _, _, _, _, _, _, rfl⟩
theorem ma_rivals (l : Launch) (D : va_G) {cy : Nat → ClassId} {ad : Nat → Nat} {a kp bt sz : Nat → Nat} {sheets : Nat → Int32} {ke km : Nat} {w : va_W} (hM : Mdl cy ad a kp bt sz sheets ke km w) (hok : okA a) (he : ke < 20) (hm : km ≤ 20) (hsz : ∀ i, i < 4 → sz i ≤ 16 ∧ (bt i = 0 ∨ bt i = 8 ∨ bt i = 16 ∨ bt i = 32)) (p0 : Int32) : mq_l l D (mT (cy 0) (cy 1)) yX12_rivals wsX12_rivals 5 0 0 123 [.ref (ad 0), .int p0] w (fun r w1 => Mdl cy ad a kp bt sz sheets ke km w1) := by
  obtain ⟨go, ro, car, fi, gm, bs, bu, n1, n2, n3, n4, n5, n6, n7, px, py, db, rfl⟩ := hM
  obtain ⟨⟨b0, b1, b2, b3⟩, opl, omk, osg, ofd, osh, oz⟩ := id hok
  refine mq_cs_l (cM_rivals l D ad (cy 0) (cy 1) a kp bt sz sheets go ro car ke km fi gm bs bu n1 n2 n3 n4 n5 n6 n7 px py db p0 b0 opl b1 omk) (fun r w1 h => ?_)
  rcases h with ⟨z305, z306, z307, z308, z309, z310, z311, z312, z313, z314, z315, z316, ⟨z317, z318, (⟨z319, z320, rfl⟩ | ⟨z321, ⟨z322, z323, z324, rfl⟩⟩)⟩⟩
  · exact ⟨_, _, _, _, _, _, _, _, _, _, _, _, _, _, _, _, _, rfl⟩
  · exact ⟨_, _, _, _, _, _, _, _, _, _, _, _, _, _, _, _, _, rfl⟩
theorem ma_wrong (l : Launch) (D : va_G) {cy : Nat → ClassId} {ad : Nat → Nat} {a kp bt sz : Nat → Nat} {sheets : Nat → Int32} {ke km : Nat} {w : va_W} (hM : Mdl cy ad a kp bt sz sheets ke km w) (hok : okA a) (he : ke < 20) (hm : km ≤ 20) (hsz : ∀ i, i < 4 → sz i ≤ 16 ∧ (bt i = 0 ∨ bt i = 8 ∨ bt i = 16 ∨ bt i = 32))  : mq_l l D (mT (cy 0) (cy 1)) yX12_wrong wsX12_wrong 1 0 0 24 [.ref (ad 0)] w (fun r w1 => Mdl cy ad a kp bt sz sheets ke km w1) := by
  obtain ⟨go, ro, car, fi, gm, bs, bu, n1, n2, n3, n4, n5, n6, n7, px, py, db, rfl⟩ := hM
  obtain ⟨⟨b0, b1, b2, b3⟩, opl, omk, osg, ofd, osh, oz⟩ := id hok
  refine mq_cs_l (cM_wrong l D ad (cy 0) (cy 1) a kp bt sz sheets go ro car ke km fi gm bs bu n1 n2 n3 n4 n5 n6 n7 px py db  b2 (fun k hk => by have := osg k hk; omega)) (fun r w1 h => ?_)
  rcases h with ⟨z325, rfl⟩
  · exact ⟨_, _, _, _, _, _, _, _, _, _, _, _, _, _, _, _, _, rfl⟩
theorem ma_is (l : Launch) (D : va_G) {cy : Nat → ClassId} {ad : Nat → Nat} {a kp bt sz : Nat → Nat} {sheets : Nat → Int32} {ke km : Nat} {w : va_W} (hM : Mdl cy ad a kp bt sz sheets ke km w) (hok : okA a) (he : ke < 20) (hm : km ≤ 20) (hsz : ∀ i, i < 4 → sz i ≤ 16 ∧ (bt i = 0 ∨ bt i = 8 ∨ bt i = 16 ∨ bt i = 32)) (p0 : Int32) : mq_l l D (mT (cy 0) (cy 1)) yX12_is wsX12_is 5 0 0 123 [.ref (ad 0), .int p0] w (fun r w1 => Mdl cy ad a kp bt sz sheets ke km w1) := by
  obtain ⟨go, ro, car, fi, gm, bs, bu, n1, n2, n3, n4, n5, n6, n7, px, py, db, rfl⟩ := hM
  obtain ⟨⟨b0, b1, b2, b3⟩, opl, omk, osg, ofd, osh, oz⟩ := id hok
  refine mq_cs_l (cM_is l D ad (cy 0) (cy 1) a kp bt sz sheets go ro car ke km fi gm bs bu n1 n2 n3 n4 n5 n6 n7 px py db p0 b0 opl b1 omk b2 osg) (fun r w1 h => ?_)
  rcases h with ⟨z326, z327, z328, z329, z330, z331, z332, z333, z334, z335, z336, z337, ⟨z338, z339, (⟨z340, z341, rfl⟩ | ⟨z342, ⟨z343, z344, (⟨z345, z346, rfl⟩ | ⟨z347, ⟨z348, z349, z350, ⟨z351, z352, rfl⟩⟩⟩)⟩⟩)⟩⟩
  · exact ⟨_, _, _, _, _, _, _, _, _, _, _, _, _, _, _, _, _, rfl⟩
  · exact ⟨_, _, _, _, _, _, _, _, _, _, _, _, _, _, _, _, _, rfl⟩
  · exact ⟨_, _, _, _, _, _, _, _, _, _, _, _, _, _, _, _, _, rfl⟩
theorem ma_belief (l : Launch) (D : va_G) {cy : Nat → ClassId} {ad : Nat → Nat} {a kp bt sz : Nat → Nat} {sheets : Nat → Int32} {ke km : Nat} {w : va_W} (hM : Mdl cy ad a kp bt sz sheets ke km w) (hok : okA a) (he : ke < 20) (hm : km ≤ 20) (hsz : ∀ i, i < 4 → sz i ≤ 16 ∧ (bt i = 0 ∨ bt i = 8 ∨ bt i = 16 ∨ bt i = 32)) (p0 : Int32) (p1 : Int32) : mq_l l D (mT (cy 0) (cy 1)) yX12_belief wsX12_belief 2 0 0 55 [.ref (ad 0), .int p0, .int p1] w (fun r w1 => Mdl cy ad a kp bt sz sheets ke km w1) := by
  obtain ⟨go, ro, car, fi, gm, bs, bu, n1, n2, n3, n4, n5, n6, n7, px, py, db, rfl⟩ := hM
  obtain ⟨⟨b0, b1, b2, b3⟩, opl, omk, osg, ofd, osh, oz⟩ := id hok
  refine mq_cs_l (cM_belief l D ad (cy 0) (cy 1) a kp bt sz sheets go ro car ke km fi gm bs bu n1 n2 n3 n4 n5 n6 n7 px py db p0 p1 b3 ofd (okA_shOk hok)) (fun r w1 h => ?_)
  rcases h with ⟨z353, z354, rfl⟩ | ⟨z355, ⟨z356, (⟨z357, z358, rfl⟩ | ⟨z359, z360, rfl⟩)⟩⟩
  · exact ⟨_, _, _, _, _, _, _, _, _, _, _, _, _, _, _, _, _, rfl⟩
  · exact ⟨_, _, _, _, _, _, _, _, _, _, _, _, _, _, _, _, _, rfl⟩
  · exact ⟨_, _, _, _, _, _, _, _, _, _, _, _, _, _, _, _, _, rfl⟩
theorem ma_showing (l : Launch) (D : va_G) {cy : Nat → ClassId} {ad : Nat → Nat} {a kp bt sz : Nat → Nat} {sheets : Nat → Int32} {ke km : Nat} {w : va_W} (hM : Mdl cy ad a kp bt sz sheets ke km w) (hok : okA a) (he : ke < 20) (hm : km ≤ 20) (hsz : ∀ i, i < 4 → sz i ≤ 16 ∧ (bt i = 0 ∨ bt i = 8 ∨ bt i = 16 ∨ bt i = 32)) (p0 : Int32) (p1 : Int32) (p2 : Int32) (p3 : Int32) : mq_l l D (mT (cy 0) (cy 1)) yX12_showing wsX12_showing 2 0 0 43 [.ref (ad 0), .int p0, .int p1, .int p2, .int p3] w (fun r w1 => Mdl cy ad a kp bt sz sheets ke km w1) := by
  obtain ⟨go, ro, car, fi, gm, bs, bu, n1, n2, n3, n4, n5, n6, n7, px, py, db, rfl⟩ := hM
  obtain ⟨⟨b0, b1, b2, b3⟩, opl, omk, osg, ofd, osh, oz⟩ := id hok
  refine mq_cs_l (cM_showing l D ad (cy 0) (cy 1) a kp bt sz sheets go ro car ke km fi gm bs bu n1 n2 n3 n4 n5 n6 n7 px py db p0 p1 p2 p3 ) (fun r w1 h => ?_)
  rcases h with ⟨z361, z362, rfl⟩ | ⟨z363, z364, z365, ⟨z366, z367, rfl⟩⟩
  · exact ⟨_, _, _, _, _, _, _, _, _, _, _, _, _, _, _, _, _, rfl⟩
  · exact ⟨_, _, _, _, _, _, _, _, _, _, _, _, _, _, _, _, _, rfl⟩
theorem ma_plan (l : Launch) (D : va_G) {cy : Nat → ClassId} {ad : Nat → Nat} {a kp bt sz : Nat → Nat} {sheets : Nat → Int32} {ke km : Nat} {w : va_W} (hM : Mdl cy ad a kp bt sz sheets ke km w) (hok : okA a) (he : ke < 20) (hm : km ≤ 20) (hsz : ∀ i, i < 4 → sz i ≤ 16 ∧ (bt i = 0 ∨ bt i = 8 ∨ bt i = 16 ∨ bt i = 32)) (p0 : Int32) (p1 : Int32) (p2 : Int32) : mq_l l D (mT (cy 0) (cy 1)) yX12_plan wsX12_plan 4 0 0 96 [.ref (ad 0), .int p0, .int p1, .int p2] w (fun r w1 => Mdl cy ad a kp bt sz sheets ke km w1) := by
  obtain ⟨go, ro, car, fi, gm, bs, bu, n1, n2, n3, n4, n5, n6, n7, px, py, db, rfl⟩ := hM
  obtain ⟨⟨b0, b1, b2, b3⟩, opl, omk, osg, ofd, osh, oz⟩ := id hok
  refine mq_cs_l (cM_plan l D ad (cy 0) (cy 1) a kp bt sz sheets go ro car ke km fi gm bs bu n1 n2 n3 n4 n5 n6 n7 px py db p0 p1 p2 b3 ofd (okA_shOk hok)) (fun r w1 h => ?_)
  rcases h with ⟨z368, z369, rfl⟩ | ⟨z370, z371, z372, ⟨z373, z374, ⟨z375, z376, rfl⟩⟩⟩
  · exact ⟨_, _, _, _, _, _, _, _, _, _, _, _, _, _, _, _, _, rfl⟩
  · exact ⟨_, _, _, _, _, _, _, _, _, _, _, _, _, _, _, _, _, rfl⟩
theorem ma_brings (l : Launch) (D : va_G) {cy : Nat → ClassId} {ad : Nat → Nat} {a kp bt sz : Nat → Nat} {sheets : Nat → Int32} {ke km : Nat} {w : va_W} (hM : Mdl cy ad a kp bt sz sheets ke km w) (hok : okA a) (he : ke < 20) (hm : km ≤ 20) (hsz : ∀ i, i < 4 → sz i ≤ 16 ∧ (bt i = 0 ∨ bt i = 8 ∨ bt i = 16 ∨ bt i = 32)) (p0 : Int32) (p1 : Int32) (p2 : Int32) : mq_l l D (mT (cy 0) (cy 1)) yX12_brings wsX12_brings 4 0 0 96 [.ref (ad 0), .int p0, .int p1, .int p2] w (fun r w1 => Mdl cy ad a kp bt sz sheets ke km w1) := by
  obtain ⟨go, ro, car, fi, gm, bs, bu, n1, n2, n3, n4, n5, n6, n7, px, py, db, rfl⟩ := hM
  obtain ⟨⟨b0, b1, b2, b3⟩, opl, omk, osg, ofd, osh, oz⟩ := id hok
  refine mq_cs_l (cM_brings l D ad (cy 0) (cy 1) a kp bt sz sheets go ro car ke km fi gm bs bu n1 n2 n3 n4 n5 n6 n7 px py db p0 p1 p2 b3 ofd (okA_shOk hok)) (fun r w1 h => ?_)
  rcases h with ⟨z377, z378, rfl⟩ | ⟨z379, z380, z381, ⟨z382, z383, ⟨z384, z385, rfl⟩⟩⟩
  · exact ⟨_, _, _, _, _, _, _, _, _, _, _, _, _, _, _, _, _, rfl⟩
  · exact ⟨_, _, _, _, _, _, _, _, _, _, _, _, _, _, _, _, _, rfl⟩
theorem ma_all (l : Launch) (D : va_G) {cy : Nat → ClassId} {ad : Nat → Nat} {a kp bt sz : Nat → Nat} {sheets : Nat → Int32} {ke km : Nat} {w : va_W} (hM : Mdl cy ad a kp bt sz sheets ke km w) (hok : okA a) (he : ke < 20) (hm : km ≤ 20) (hsz : ∀ i, i < 4 → sz i ≤ 16 ∧ (bt i = 0 ∨ bt i = 8 ∨ bt i = 16 ∨ bt i = 32)) (p0 : Int32) : mq_l l D (mT (cy 0) (cy 1)) yX12_all wsX12_all 1 0 0 22 [.ref (ad 0), .int p0] w (fun r w1 => Mdl cy ad a kp bt sz sheets ke km w1) := by
  obtain ⟨go, ro, car, fi, gm, bs, bu, n1, n2, n3, n4, n5, n6, n7, px, py, db, rfl⟩ := hM
  obtain ⟨⟨b0, b1, b2, b3⟩, opl, omk, osg, ofd, osh, oz⟩ := id hok
  refine mq_cs_l (cM_all l D ad (cy 0) (cy 1) a kp bt sz sheets go ro car ke km fi gm bs bu n1 n2 n3 n4 n5 n6 n7 px py db p0 ) (fun r w1 h => ?_)
  by_cases hr : rg 0 4 p0
  · obtain ⟨g0, g1, g2, g3, g4⟩ := h.1 hr
    obtain ⟨k, _, hk, e⟩ := rg_of hr (by decide) (by decide)
    rcases (show k = 0 ∨ k = 1 ∨ k = 2 ∨ k = 3 ∨ k = 4 by omega) with rfl | rfl | rfl | rfl | rfl
    · obtain ⟨_, rfl⟩ := g0 e
      exact ⟨_, _, _, _, _, _, _, _, _, _, _, _, _, _, _, _, _, rfl⟩
    · obtain ⟨_, rfl⟩ := g1 e
      exact ⟨_, _, _, _, _, _, _, _, _, _, _, _, _, _, _, _, _, rfl⟩
    · obtain ⟨_, rfl⟩ := g2 e
      exact ⟨_, _, _, _, _, _, _, _, _, _, _, _, _, _, _, _, _, rfl⟩
    · obtain ⟨_, rfl⟩ := g3 e
      exact ⟨_, _, _, _, _, _, _, _, _, _, _, _, _, _, _, _, _, rfl⟩
    · obtain ⟨_, rfl⟩ := g4 e
      exact ⟨_, _, _, _, _, _, _, _, _, _, _, _, _, _, _, _, _, rfl⟩
  · obtain ⟨_, rfl⟩ := h.2 hr
    exact ⟨_, _, _, _, _, _, _, _, _, _, _, _, _, _, _, _, _, rfl⟩
