def MP_led (a kp bt sz : Nat → Nat) (sheets : Nat → Int32) (ke km : Nat) (x : Int32) (v : Int32) (y : Int32) (zf : Int32) (r : Int64) (K : Kt) : Prop := (¬ (ix (a 0) x ∧ rg 0 999 y) ∧ r = -1000000001 ∧ K a kp bt sz sheets ke km) ∨ (∃ i u : Nat, (x = nI i ∧ y = nI u ∧ i < a 0 ∧ u ≤ 999) ∧ ((¬ 0 < zSp a i (zN v) (a (4 + i)) ∧ r = -1000000006 ∧ K a kp bt sz sheets ke km) ∨ (0 < zSp a i (zN v) (a (4 + i)) ∧ r = pcI (zAb a i (zN v) (a (4 + i)) (u : Nat)) (zUn a i (zN v) (a (4 + i))) zf ∧ K a kp bt sz sheets ke km)))
theorem mS_led (l : Launch) (D : va_G) {cy : Nat → ClassId} {ad : Nat → Nat} {a kp bt sz : Nat → Nat} {sheets : Nat → Int32} {ke km : Nat} {w : va_W} (hM : Mdl cy ad a kp bt sz sheets ke km w) (hok : okA a) (he : ke < 20) (hm : km ≤ 20) (hsz : ∀ i, i < 4 → sz i ≤ 16 ∧ (bt i = 0 ∨ bt i = 8 ∨ bt i = 16 ∨ bt i = 32)) (p0 : Int32) (p1 : Int32) (p2 : Int32) (p3 : Int32) : mq_l l D (mT (cy 0) (cy 1)) yX12_led wsX12_led 2 0 0 55 [.ref (ad 0), .int p0, .int p1, .int p2, .int p3] w (fun r w1 => MP_led a kp bt sz sheets ke km p0 p1 p2 p3 r (fun a kp bt sz sheets ke km => Mdl cy ad a kp bt sz sheets ke km w1)) := by
  obtain ⟨go, ro, car, fi, gm, bs, bu, n1, n2, n3, n4, n5, n6, n7, px, py, db, rfl⟩ := hM
  obtain ⟨⟨b0, b1, b2, b3⟩, opl, omk, osg, ofd, osh, oz⟩ := id hok
  refine mq_cs_l (cM_led l D ad (cy 0) (cy 1) a kp bt sz sheets go ro car ke km fi gm bs bu n1 n2 n3 n4 n5 n6 n7 px py db p0 p1 p2 p3 b0 opl) (fun r w1 h => ?_)
  rcases h with ⟨z386, z387, rfl⟩ | ⟨z388, z389, ⟨z390, (⟨z391, z392, ⟨z393, z394, z395, z396, z397, z398, z399, rfl⟩⟩ | ⟨z400, z401, ⟨z402, z403, z404, z405, z406, z407, z408, rfl⟩⟩)⟩⟩
  · exact (.inl (⟨z386, z387, ⟨_, _, _, _, _, _, _, _, _, _, _, _, _, _, _, _, _, rfl⟩⟩))
  · exact (.inr (⟨z388, z389, ⟨z390, (.inl (⟨z391, z392, ⟨_, _, _, _, _, _, _, _, _, _, _, _, _, _, _, _, _, rfl⟩⟩))⟩⟩))
  · exact (.inr (⟨z388, z389, ⟨z390, (.inr (⟨z400, z401, ⟨_, _, _, _, _, _, _, _, _, _, _, _, _, _, _, _, _, rfl⟩⟩))⟩⟩))
def MP_miss (a kp bt sz : Nat → Nat) (sheets : Nat → Int32) (ke km : Nat) (x : Int32) (v : Int32) (zf : Int32) (r : Int64) (K : Kt) : Prop := (¬ ix (a 0) x ∧ r = -1000000001 ∧ K a kp bt sz sheets ke km) ∨ (∃ i : Nat, (x = nI i ∧ i < a 0) ∧ ((¬ 0 < zSp a i (zN v) (a (4 + i)) ∧ r = -1000000006 ∧ K a kp bt sz sheets ke km) ∨ (0 < zSp a i (zN v) (a (4 + i)) ∧ r = pcI (zMs a i (zN v) (a (4 + i))) (zUn a i (zN v) (a (4 + i))) zf ∧ K a kp bt sz sheets ke km)))
theorem mS_miss (l : Launch) (D : va_G) {cy : Nat → ClassId} {ad : Nat → Nat} {a kp bt sz : Nat → Nat} {sheets : Nat → Int32} {ke km : Nat} {w : va_W} (hM : Mdl cy ad a kp bt sz sheets ke km w) (hok : okA a) (he : ke < 20) (hm : km ≤ 20) (hsz : ∀ i, i < 4 → sz i ≤ 16 ∧ (bt i = 0 ∨ bt i = 8 ∨ bt i = 16 ∨ bt i = 32)) (p0 : Int32) (p1 : Int32) (p2 : Int32) : mq_l l D (mT (cy 0) (cy 1)) yX12_miss wsX12_miss 2 0 0 55 [.ref (ad 0), .int p0, .int p1, .int p2] w (fun r w1 => MP_miss a kp bt sz sheets ke km p0 p1 p2 r (fun a kp bt sz sheets ke km => Mdl cy ad a kp bt sz sheets ke km w1)) := by
  obtain ⟨go, ro, car, fi, gm, bs, bu, n1, n2, n3, n4, n5, n6, n7, px, py, db, rfl⟩ := hM
  obtain ⟨⟨b0, b1, b2, b3⟩, opl, omk, osg, ofd, osh, oz⟩ := id hok
  refine mq_cs_l (cM_miss l D ad (cy 0) (cy 1) a kp bt sz sheets go ro car ke km fi gm bs bu n1 n2 n3 n4 n5 n6 n7 px py db p0 p1 p2 b0 opl) (fun r w1 h => ?_)
  rcases h with ⟨z409, z410, rfl⟩ | ⟨z411, ⟨z412, (⟨z413, z414, ⟨z415, z416, z417, z418, z419, z420, z421, rfl⟩⟩ | ⟨z422, z423, ⟨z424, z425, z426, z427, z428, z429, z430, rfl⟩⟩)⟩⟩
  · exact (.inl (⟨z409, z410, ⟨_, _, _, _, _, _, _, _, _, _, _, _, _, _, _, _, _, rfl⟩⟩))
  · exact (.inr (⟨z411, ⟨z412, (.inl (⟨z413, z414, ⟨_, _, _, _, _, _, _, _, _, _, _, _, _, _, _, _, _, rfl⟩⟩))⟩⟩))
  · exact (.inr (⟨z411, ⟨z412, (.inr (⟨z422, z423, ⟨_, _, _, _, _, _, _, _, _, _, _, _, _, _, _, _, _, rfl⟩⟩))⟩⟩))
def MP_doubt (a kp bt sz : Nat → Nat) (sheets : Nat → Int32) (ke km : Nat) (x : Int32) (r : Int64) (K : Kt) : Prop := (¬ ix (a 0) x ∧ r = -1000000001 ∧ K a kp bt sz sheets ke km) ∨ (∃ i : Nat, (x = nI i ∧ i < a 0) ∧ ((0 ≤ dbZ a i ∧ r = lZ (dbZ a i) ∧ K a kp bt sz sheets ke km) ∨ (¬ 0 ≤ dbZ a i ∧ r = -1000000006 ∧ K a kp bt sz sheets ke km)))
theorem mS_doubt (l : Launch) (D : va_G) {cy : Nat → ClassId} {ad : Nat → Nat} {a kp bt sz : Nat → Nat} {sheets : Nat → Int32} {ke km : Nat} {w : va_W} (hM : Mdl cy ad a kp bt sz sheets ke km w) (hok : okA a) (he : ke < 20) (hm : km ≤ 20) (hsz : ∀ i, i < 4 → sz i ≤ 16 ∧ (bt i = 0 ∨ bt i = 8 ∨ bt i = 16 ∨ bt i = 32)) (p0 : Int32) : mq_l l D (mT (cy 0) (cy 1)) yX12_doubt wsX12_doubt 2 0 0 59 [.ref (ad 0), .int p0] w (fun r w1 => MP_doubt a kp bt sz sheets ke km p0 r (fun a kp bt sz sheets ke km => Mdl cy ad a kp bt sz sheets ke km w1)) := by
  obtain ⟨go, ro, car, fi, gm, bs, bu, n1, n2, n3, n4, n5, n6, n7, px, py, db, rfl⟩ := hM
  obtain ⟨⟨b0, b1, b2, b3⟩, opl, omk, osg, ofd, osh, oz⟩ := id hok
  refine mq_cs_l (cM_doubt l D ad (cy 0) (cy 1) a kp bt sz sheets go ro car ke km fi gm bs bu n1 n2 n3 n4 n5 n6 n7 px py db p0 b0 opl) (fun r w1 h => ?_)
  rcases h with ⟨z431, z432, rfl⟩ | ⟨z433, ⟨z434, (⟨z435, z436, ⟨z437, z438, z439, z440, z441, z442, z443, rfl⟩⟩ | ⟨z444, z445, ⟨z446, z447, z448, z449, z450, z451, z452, rfl⟩⟩)⟩⟩
  · exact (.inl (⟨z431, z432, ⟨_, _, _, _, _, _, _, _, _, _, _, _, _, _, _, _, _, rfl⟩⟩))
  · exact (.inr (⟨z433, ⟨z434, (.inl (⟨z435, z436, ⟨_, _, _, _, _, _, _, _, _, _, _, _, _, _, _, _, _, rfl⟩⟩))⟩⟩))
  · exact (.inr (⟨z433, ⟨z434, (.inr (⟨z444, z445, ⟨_, _, _, _, _, _, _, _, _, _, _, _, _, _, _, _, _, rfl⟩⟩))⟩⟩))
def MP_as (a kp bt sz : Nat → Nat) (sheets : Nat → Int32) (ke km : Nat) (mi : Int32) (ki : Int32) (r : Int64) (K : Kt) : Prop := (¬ (ix (a 1) mi ∧ rg 0 3 ki) ∧ r = -1000000001 ∧ K a kp bt sz sheets ke km) ∨ (∃ i k : Nat, (mi = nI i ∧ ki = nI k ∧ i < a 1 ∧ k ≤ 3) ∧ ((asOk k (a (202 + 6 * i + 1)) ∧ r = (nI i).toInt64 ∧ K a kp bt sz sheets ke km) ∨ (¬ asOk k (a (202 + 6 * i + 1)) ∧ r = -1000000004 ∧ K a kp bt sz sheets ke km)))
theorem mS_as (l : Launch) (D : va_G) {cy : Nat → ClassId} {ad : Nat → Nat} {a kp bt sz : Nat → Nat} {sheets : Nat → Int32} {ke km : Nat} {w : va_W} (hM : Mdl cy ad a kp bt sz sheets ke km w) (hok : okA a) (he : ke < 20) (hm : km ≤ 20) (hsz : ∀ i, i < 4 → sz i ≤ 16 ∧ (bt i = 0 ∨ bt i = 8 ∨ bt i = 16 ∨ bt i = 32)) (p0 : Int32) (p1 : Int32) : mq_l l D (mT (cy 0) (cy 1)) yX12_as wsX12_as 2 0 0 43 [.ref (ad 0), .int p0, .int p1] w (fun r w1 => MP_as a kp bt sz sheets ke km p0 p1 r (fun a kp bt sz sheets ke km => Mdl cy ad a kp bt sz sheets ke km w1)) := by
  obtain ⟨go, ro, car, fi, gm, bs, bu, n1, n2, n3, n4, n5, n6, n7, px, py, db, rfl⟩ := hM
  obtain ⟨⟨b0, b1, b2, b3⟩, opl, omk, osg, ofd, osh, oz⟩ := id hok
  refine mq_cs_l (cM_as l D ad (cy 0) (cy 1) a kp bt sz sheets go ro car ke km fi gm bs bu n1 n2 n3 n4 n5 n6 n7 px py db p0 p1 b1 (fun i hi => (omk i hi).2.1)) (fun r w1 h => ?_)
  rcases h with ⟨z453, z454, rfl⟩ | ⟨z455, z456, ⟨z457, (⟨z458, z459, rfl⟩ | ⟨z460, z461, rfl⟩)⟩⟩
  · exact (.inl (⟨z453, z454, ⟨_, _, _, _, _, _, _, _, _, _, _, _, _, _, _, _, _, rfl⟩⟩))
  · exact (.inr (⟨z455, z456, ⟨z457, (.inl (⟨z458, z459, ⟨_, _, _, _, _, _, _, _, _, _, _, _, _, _, _, _, _, rfl⟩⟩))⟩⟩))
  · exact (.inr (⟨z455, z456, ⟨z457, (.inr (⟨z460, z461, ⟨_, _, _, _, _, _, _, _, _, _, _, _, _, _, _, _, _, rfl⟩⟩))⟩⟩))
def MP_at (a kp bt sz : Nat → Nat) (sheets : Nat → Int32) (ke km : Nat) (x : Int32) (v : Int32) (r : Int64) (K : Kt) : Prop := (¬ ix (a 1) x ∧ r = -1000000001 ∧ K a kp bt sz sheets ke km) ∨ (∃ i : Nat, (x = nI i ∧ i < a 1) ∧ ((¬ 0 < zSp a (a (202 + 6 * i)) (zN v) (a (4 + a (202 + 6 * i))) ∧ r = -1000000006 ∧ K a kp bt sz sheets ke km) ∨ (0 < zSp a (a (202 + 6 * i)) (zN v) (a (4 + a (202 + 6 * i))) ∧ r = lZ (zPt a (a (202 + 6 * i)) (zN v) (a (202 + 6 * i + (2 + zN v)))) ∧ K a kp bt sz sheets ke km)))
theorem mS_at (l : Launch) (D : va_G) {cy : Nat → ClassId} {ad : Nat → Nat} {a kp bt sz : Nat → Nat} {sheets : Nat → Int32} {ke km : Nat} {w : va_W} (hM : Mdl cy ad a kp bt sz sheets ke km w) (hok : okA a) (he : ke < 20) (hm : km ≤ 20) (hsz : ∀ i, i < 4 → sz i ≤ 16 ∧ (bt i = 0 ∨ bt i = 8 ∨ bt i = 16 ∨ bt i = 32)) (p0 : Int32) (p1 : Int32) : mq_l l D (mT (cy 0) (cy 1)) yX12_at wsX12_at 2 0 0 43 [.ref (ad 0), .int p0, .int p1] w (fun r w1 => MP_at a kp bt sz sheets ke km p0 p1 r (fun a kp bt sz sheets ke km => Mdl cy ad a kp bt sz sheets ke km w1)) := by
  obtain ⟨go, ro, car, fi, gm, bs, bu, n1, n2, n3, n4, n5, n6, n7, px, py, db, rfl⟩ := hM
  obtain ⟨⟨b0, b1, b2, b3⟩, opl, omk, osg, ofd, osh, oz⟩ := id hok
  refine mq_cs_l (cM_at l D ad (cy 0) (cy 1) a kp bt sz sheets go ro car ke km fi gm bs bu n1 n2 n3 n4 n5 n6 n7 px py db p0 p1 b0 opl b1 omk) (fun r w1 h => ?_)
  rcases h with ⟨z462, z463, rfl⟩ | ⟨z464, ⟨z465, (⟨z466, z467, ⟨z468, z469, z470, z471, z472, z473, z474, rfl⟩⟩ | ⟨z475, z476, ⟨z477, z478, z479, z480, z481, z482, z483, rfl⟩⟩)⟩⟩
  · exact (.inl (⟨z462, z463, ⟨_, _, _, _, _, _, _, _, _, _, _, _, _, _, _, _, _, rfl⟩⟩))
  · exact (.inr (⟨z464, ⟨z465, (.inl (⟨z466, z467, ⟨_, _, _, _, _, _, _, _, _, _, _, _, _, _, _, _, _, rfl⟩⟩))⟩⟩))
  · exact (.inr (⟨z464, ⟨z465, (.inr (⟨z475, z476, ⟨_, _, _, _, _, _, _, _, _, _, _, _, _, _, _, _, _, rfl⟩⟩))⟩⟩))
def MP_agree (a kp bt sz : Nat → Nat) (sheets : Nat → Int32) (ke km : Nat) (x : Int32) (y : Int32) (r : Int64) (K : Kt) : Prop := (¬ (ix (a 1) x ∧ ix (a 1) y) ∧ r = -1000000001 ∧ K a kp bt sz sheets ke km) ∨ (∃ i j : Nat, (x = nI i ∧ y = nI j ∧ i < a 1 ∧ j < a 1) ∧ r = (if agr a i j then 1 else 0) ∧ K a kp bt sz sheets ke km)
theorem mS_agree (l : Launch) (D : va_G) {cy : Nat → ClassId} {ad : Nat → Nat} {a kp bt sz : Nat → Nat} {sheets : Nat → Int32} {ke km : Nat} {w : va_W} (hM : Mdl cy ad a kp bt sz sheets ke km w) (hok : okA a) (he : ke < 20) (hm : km ≤ 20) (hsz : ∀ i, i < 4 → sz i ≤ 16 ∧ (bt i = 0 ∨ bt i = 8 ∨ bt i = 16 ∨ bt i = 32)) (p0 : Int32) (p1 : Int32) : mq_l l D (mT (cy 0) (cy 1)) yX12_agree wsX12_agree 3 0 0 81 [.ref (ad 0), .int p0, .int p1] w (fun r w1 => MP_agree a kp bt sz sheets ke km p0 p1 r (fun a kp bt sz sheets ke km => Mdl cy ad a kp bt sz sheets ke km w1)) := by
  obtain ⟨go, ro, car, fi, gm, bs, bu, n1, n2, n3, n4, n5, n6, n7, px, py, db, rfl⟩ := hM
  obtain ⟨⟨b0, b1, b2, b3⟩, opl, omk, osg, ofd, osh, oz⟩ := id hok
  refine mq_cs_l (cM_agree l D ad (cy 0) (cy 1) a kp bt sz sheets go ro car ke km fi gm bs bu n1 n2 n3 n4 n5 n6 n7 px py db p0 p1 b0 opl b1 omk) (fun r w1 h => ?_)
  rcases h with ⟨z484, z485, rfl⟩ | ⟨z486, z487, ⟨z488, z489, ⟨z490, z491, z492, z493, z494, z495, z496, z497, z498, z499, rfl⟩⟩⟩
  · exact (.inl (⟨z484, z485, ⟨_, _, _, _, _, _, _, _, _, _, _, _, _, _, _, _, _, rfl⟩⟩))
  · exact (.inr (⟨z486, z487, ⟨z488, z489, ⟨_, _, _, _, _, _, _, _, _, _, _, _, _, _, _, _, _, rfl⟩⟩⟩))
def MP_group (a kp bt sz : Nat → Nat) (sheets : Nat → Int32) (ke km : Nat) (x : Int32) (r : Int64) (K : Kt) : Prop := (¬ ix (a 1) x ∧ r = -1000000001 ∧ K a kp bt sz sheets ke km) ∨ (∃ i : Nat, (x = nI i ∧ i < a 1) ∧ ∃ (G : Nat → Nat) (cg : Nat), grp a (a 1) G cg ∧ cg ≤ a 1 ∧ r = (gI (G i)).toInt64 ∧ K a kp bt sz sheets ke km)
theorem mS_group (l : Launch) (D : va_G) {cy : Nat → ClassId} {ad : Nat → Nat} {a kp bt sz : Nat → Nat} {sheets : Nat → Int32} {ke km : Nat} {w : va_W} (hM : Mdl cy ad a kp bt sz sheets ke km w) (hok : okA a) (he : ke < 20) (hm : km ≤ 20) (hsz : ∀ i, i < 4 → sz i ≤ 16 ∧ (bt i = 0 ∨ bt i = 8 ∨ bt i = 16 ∨ bt i = 32)) (p0 : Int32) : mq_l l D (mT (cy 0) (cy 1)) yX12_group wsX12_group 4 0 0 102 [.ref (ad 0), .int p0] w (fun r w1 => MP_group a kp bt sz sheets ke km p0 r (fun a kp bt sz sheets ke km => Mdl cy ad a kp bt sz sheets ke km w1)) := by
  obtain ⟨go, ro, car, fi, gm, bs, bu, n1, n2, n3, n4, n5, n6, n7, px, py, db, rfl⟩ := hM
  obtain ⟨⟨b0, b1, b2, b3⟩, opl, omk, osg, ofd, osh, oz⟩ := id hok
  refine mq_cs_l (cM_group l D ad (cy 0) (cy 1) a kp bt sz sheets go ro car ke km fi gm bs bu n1 n2 n3 n4 n5 n6 n7 px py db p0 b0 opl b1 omk) (fun r w1 h => ?_)
  rcases h with ⟨z500, z501, rfl⟩ | ⟨z502, ⟨z503, ⟨z504, z505, z506, z507, z508, z509, z510, z511, z512, z513, z514, z515, ⟨z516, z517, z518, rfl⟩⟩⟩⟩
  · exact (.inl (⟨z500, z501, ⟨_, _, _, _, _, _, _, _, _, _, _, _, _, _, _, _, _, rfl⟩⟩))
  · exact (.inr (⟨z502, ⟨z503, ⟨z504, z505, ⟨z516, z517, z518, ⟨_, _, _, _, _, _, _, _, _, _, _, _, _, _, _, _, _, rfl⟩⟩⟩⟩⟩))
def MP_groups (a kp bt sz : Nat → Nat) (sheets : Nat → Int32) (ke km : Nat)  (r : Int64) (K : Kt) : Prop := ∃ (G : Nat → Nat) (cg : Nat), grp a (a 1) G cg ∧ cg ≤ a 1 ∧ r = (nI cg).toInt64 ∧ K a kp bt sz sheets ke km
theorem mS_groups (l : Launch) (D : va_G) {cy : Nat → ClassId} {ad : Nat → Nat} {a kp bt sz : Nat → Nat} {sheets : Nat → Int32} {ke km : Nat} {w : va_W} (hM : Mdl cy ad a kp bt sz sheets ke km w) (hok : okA a) (he : ke < 20) (hm : km ≤ 20) (hsz : ∀ i, i < 4 → sz i ≤ 16 ∧ (bt i = 0 ∨ bt i = 8 ∨ bt i = 16 ∨ bt i = 32))  : mq_l l D (mT (cy 0) (cy 1)) yX12_groups wsX12_groups 4 0 0 102 [.ref (ad 0)] w (fun r w1 => MP_groups a kp bt sz sheets ke km  r (fun a kp bt sz sheets ke km => Mdl cy ad a kp bt sz sheets ke km w1)) := by
  obtain ⟨go, ro, car, fi, gm, bs, bu, n1, n2, n3, n4, n5, n6, n7, px, py, db, rfl⟩ := hM
  obtain ⟨⟨b0, b1, b2, b3⟩, opl, omk, osg, ofd, osh, oz⟩ := id hok
  refine mq_cs_l (cM_groups l D ad (cy 0) (cy 1) a kp bt sz sheets go ro car ke km fi gm bs bu n1 n2 n3 n4 n5 n6 n7 px py db  b0 opl b1 omk) (fun r w1 h => ?_)
  rcases h with ⟨z519, z520, z521, z522, z523, z524, z525, z526, z527, z528, z529, z530, ⟨z531, z532, z533, rfl⟩⟩
  · exact ⟨z519, z520, ⟨z531, z532, z533, ⟨_, _, _, _, _, _, _, _, _, _, _, _, _, _, _, _, _, rfl⟩⟩⟩
def MP_rivals (a kp bt sz : Nat → Nat) (sheets : Nat → Int32) (ke km : Nat) (x : Int32) (r : Int64) (K : Kt) : Prop := ∃ (G : Nat → Nat) (cg : Nat), grp a (a 1) G cg ∧ cg ≤ a 1 ∧ ((¬ ix cg x ∧ r = -1000000001 ∧ K a kp bt sz sheets ke km) ∨ (∃ k : Nat, x = nI k ∧ k < cg ∧ r = (nI (rvN a G k (a 1))).toInt64 ∧ K a kp bt sz sheets ke km))
theorem mS_rivals (l : Launch) (D : va_G) {cy : Nat → ClassId} {ad : Nat → Nat} {a kp bt sz : Nat → Nat} {sheets : Nat → Int32} {ke km : Nat} {w : va_W} (hM : Mdl cy ad a kp bt sz sheets ke km w) (hok : okA a) (he : ke < 20) (hm : km ≤ 20) (hsz : ∀ i, i < 4 → sz i ≤ 16 ∧ (bt i = 0 ∨ bt i = 8 ∨ bt i = 16 ∨ bt i = 32)) (p0 : Int32) : mq_l l D (mT (cy 0) (cy 1)) yX12_rivals wsX12_rivals 5 0 0 123 [.ref (ad 0), .int p0] w (fun r w1 => MP_rivals a kp bt sz sheets ke km p0 r (fun a kp bt sz sheets ke km => Mdl cy ad a kp bt sz sheets ke km w1)) := by
  obtain ⟨go, ro, car, fi, gm, bs, bu, n1, n2, n3, n4, n5, n6, n7, px, py, db, rfl⟩ := hM
  obtain ⟨⟨b0, b1, b2, b3⟩, opl, omk, osg, ofd, osh, oz⟩ := id hok
  refine mq_cs_l (cM_rivals l D ad (cy 0) (cy 1) a kp bt sz sheets go ro car ke km fi gm bs bu n1 n2 n3 n4 n5 n6 n7 px py db p0 b0 opl b1 omk) (fun r w1 h => ?_)
  rcases h with ⟨z534, z535, z536, z537, z538, z539, z540, z541, z542, z543, z544, z545, ⟨z546, z547, (⟨z548, z549, rfl⟩ | ⟨z550, ⟨z551, z552, z553, rfl⟩⟩)⟩⟩
  · exact ⟨z534, z535, ⟨z546, z547, (.inl (⟨z548, z549, ⟨_, _, _, _, _, _, _, _, _, _, _, _, _, _, _, _, _, rfl⟩⟩))⟩⟩
  · exact ⟨z534, z535, ⟨z546, z547, (.inr (⟨z550, ⟨z551, z552, z553, ⟨_, _, _, _, _, _, _, _, _, _, _, _, _, _, _, _, _, rfl⟩⟩⟩))⟩⟩
def MP_wrong (a kp bt sz : Nat → Nat) (sheets : Nat → Int32) (ke km : Nat)  (r : Int64) (K : Kt) : Prop := r = (wrGo (fun j => a (322 + j)) (a 2) (a 2) 0 0).toInt64 ∧ K a kp bt sz sheets ke km
theorem mS_wrong (l : Launch) (D : va_G) {cy : Nat → ClassId} {ad : Nat → Nat} {a kp bt sz : Nat → Nat} {sheets : Nat → Int32} {ke km : Nat} {w : va_W} (hM : Mdl cy ad a kp bt sz sheets ke km w) (hok : okA a) (he : ke < 20) (hm : km ≤ 20) (hsz : ∀ i, i < 4 → sz i ≤ 16 ∧ (bt i = 0 ∨ bt i = 8 ∨ bt i = 16 ∨ bt i = 32))  : mq_l l D (mT (cy 0) (cy 1)) yX12_wrong wsX12_wrong 1 0 0 24 [.ref (ad 0)] w (fun r w1 => MP_wrong a kp bt sz sheets ke km  r (fun a kp bt sz sheets ke km => Mdl cy ad a kp bt sz sheets ke km w1)) := by
  obtain ⟨go, ro, car, fi, gm, bs, bu, n1, n2, n3, n4, n5, n6, n7, px, py, db, rfl⟩ := hM
  obtain ⟨⟨b0, b1, b2, b3⟩, opl, omk, osg, ofd, osh, oz⟩ := id hok
  refine mq_cs_l (cM_wrong l D ad (cy 0) (cy 1) a kp bt sz sheets go ro car ke km fi gm bs bu n1 n2 n3 n4 n5 n6 n7 px py db  b2 (fun k hk => by have := osg k hk; omega)) (fun r w1 h => ?_)
  rcases h with ⟨z554, rfl⟩
  · exact ⟨z554, ⟨_, _, _, _, _, _, _, _, _, _, _, _, _, _, _, _, _, rfl⟩⟩
def MP_is (a kp bt sz : Nat → Nat) (sheets : Nat → Int32) (ke km : Nat) (x : Int32) (r : Int64) (K : Kt) : Prop := ∃ (G : Nat → Nat) (cg : Nat), grp a (a 1) G cg ∧ cg ≤ a 1 ∧ ((¬ ix cg x ∧ r = -1000000001 ∧ K a kp bt sz sheets ke km) ∨ (∃ k : Nat, x = nI k ∧ k < cg ∧ ((¬ wrGo (fun j => a (322 + j)) (a 2) (a 2) 0 0 = -1 ∧ r = -1000000004 ∧ K a kp bt sz sheets ke km) ∨ (wrGo (fun j => a (322 + j)) (a 2) (a 2) 0 0 = -1 ∧ ∃ (ro0 rr : Nat → Nat) (d : Nat), exS (tdV a G k) (fun j => a (322 + j)) ro0 (a 2) = (rr, d) ∧ r = (if rr 0 ≠ 0 then 1 else 0) ∧ K a kp bt sz sheets ke km))))
theorem mS_is (l : Launch) (D : va_G) {cy : Nat → ClassId} {ad : Nat → Nat} {a kp bt sz : Nat → Nat} {sheets : Nat → Int32} {ke km : Nat} {w : va_W} (hM : Mdl cy ad a kp bt sz sheets ke km w) (hok : okA a) (he : ke < 20) (hm : km ≤ 20) (hsz : ∀ i, i < 4 → sz i ≤ 16 ∧ (bt i = 0 ∨ bt i = 8 ∨ bt i = 16 ∨ bt i = 32)) (p0 : Int32) : mq_l l D (mT (cy 0) (cy 1)) yX12_is wsX12_is 5 0 0 123 [.ref (ad 0), .int p0] w (fun r w1 => MP_is a kp bt sz sheets ke km p0 r (fun a kp bt sz sheets ke km => Mdl cy ad a kp bt sz sheets ke km w1)) := by
  obtain ⟨go, ro, car, fi, gm, bs, bu, n1, n2, n3, n4, n5, n6, n7, px, py, db, rfl⟩ := hM
  obtain ⟨⟨b0, b1, b2, b3⟩, opl, omk, osg, ofd, osh, oz⟩ := id hok
  refine mq_cs_l (cM_is l D ad (cy 0) (cy 1) a kp bt sz sheets go ro car ke km fi gm bs bu n1 n2 n3 n4 n5 n6 n7 px py db p0 b0 opl b1 omk b2 osg) (fun r w1 h => ?_)
  rcases h with ⟨z555, z556, z557, z558, z559, z560, z561, z562, z563, z564, z565, z566, ⟨z567, z568, (⟨z569, z570, rfl⟩ | ⟨z571, ⟨z572, z573, (⟨z574, z575, rfl⟩ | ⟨z576, ⟨z577, z578, z579, ⟨z580, z581, rfl⟩⟩⟩)⟩⟩)⟩⟩
  · exact ⟨z555, z556, ⟨z567, z568, (.inl (⟨z569, z570, ⟨_, _, _, _, _, _, _, _, _, _, _, _, _, _, _, _, _, rfl⟩⟩))⟩⟩
  · exact ⟨z555, z556, ⟨z567, z568, (.inr (⟨z571, ⟨z572, z573, (.inl (⟨z574, z575, ⟨_, _, _, _, _, _, _, _, _, _, _, _, _, _, _, _, _, rfl⟩⟩))⟩⟩))⟩⟩
  · exact ⟨z555, z556, ⟨z567, z568, (.inr (⟨z571, ⟨z572, z573, (.inr (⟨z576, ⟨z577, z578, z579, ⟨z580, z581, ⟨_, _, _, _, _, _, _, _, _, _, _, _, _, _, _, _, _, rfl⟩⟩⟩⟩))⟩⟩))⟩⟩
def MP_belief (a kp bt sz : Nat → Nat) (sheets : Nat → Int32) (ke km : Nat) (x : Int32) (zf : Int32) (r : Int64) (K : Kt) : Prop := (¬ ix (a 3) x ∧ r = -1000000001 ∧ K a kp bt sz sheets ke km) ∨ (∃ i : Nat, (x = nI i ∧ i < a 3) ∧ ((sn a i ∧ r = 1 ∧ K a kp bt sz sheets ke km) ∨ (¬ sn a i ∧ r = pcI ((blU a i (a (334 + 5 * i + 4)) : Nat) : Int) (blU a i (a (334 + 5 * i + 4)) + blN a i (a (334 + 5 * i + 4))) zf ∧ K a kp bt sz sheets ke km)))
theorem mS_belief (l : Launch) (D : va_G) {cy : Nat → ClassId} {ad : Nat → Nat} {a kp bt sz : Nat → Nat} {sheets : Nat → Int32} {ke km : Nat} {w : va_W} (hM : Mdl cy ad a kp bt sz sheets ke km w) (hok : okA a) (he : ke < 20) (hm : km ≤ 20) (hsz : ∀ i, i < 4 → sz i ≤ 16 ∧ (bt i = 0 ∨ bt i = 8 ∨ bt i = 16 ∨ bt i = 32)) (p0 : Int32) (p1 : Int32) : mq_l l D (mT (cy 0) (cy 1)) yX12_belief wsX12_belief 2 0 0 55 [.ref (ad 0), .int p0, .int p1] w (fun r w1 => MP_belief a kp bt sz sheets ke km p0 p1 r (fun a kp bt sz sheets ke km => Mdl cy ad a kp bt sz sheets ke km w1)) := by
  obtain ⟨go, ro, car, fi, gm, bs, bu, n1, n2, n3, n4, n5, n6, n7, px, py, db, rfl⟩ := hM
  obtain ⟨⟨b0, b1, b2, b3⟩, opl, omk, osg, ofd, osh, oz⟩ := id hok
  refine mq_cs_l (cM_belief l D ad (cy 0) (cy 1) a kp bt sz sheets go ro car ke km fi gm bs bu n1 n2 n3 n4 n5 n6 n7 px py db p0 p1 b3 ofd (okA_shOk hok)) (fun r w1 h => ?_)
  rcases h with ⟨z582, z583, rfl⟩ | ⟨z584, ⟨z585, (⟨z586, z587, rfl⟩ | ⟨z588, z589, rfl⟩)⟩⟩
  · exact (.inl (⟨z582, z583, ⟨_, _, _, _, _, _, _, _, _, _, _, _, _, _, _, _, _, rfl⟩⟩))
  · exact (.inr (⟨z584, ⟨z585, (.inl (⟨z586, z587, ⟨_, _, _, _, _, _, _, _, _, _, _, _, _, _, _, _, _, rfl⟩⟩))⟩⟩))
  · exact (.inr (⟨z584, ⟨z585, (.inr (⟨z588, z589, ⟨_, _, _, _, _, _, _, _, _, _, _, _, _, _, _, _, _, rfl⟩⟩))⟩⟩))
def MP_showing (a kp bt sz : Nat → Nat) (sheets : Nat → Int32) (ke km : Nat) (u : Int32) (x : Int32) (y : Int32) (z : Int32) (r : Int64) (K : Kt) : Prop := (¬ (rg 0 3 u ∧ rg 0 3 x ∧ rg 0 3 y) ∧ r = -1000000001 ∧ K a kp bt sz sheets ke km) ∨ (∃ so cr dr : Nat, (u = nI so ∧ x = nI cr ∧ y = nI dr ∧ so ≤ 3 ∧ cr ≤ 3 ∧ dr ≤ 3) ∧ r = (nI (a (470 + 2 * (16 * so + 4 * cr + dr) + zN z))).toInt64 ∧ K a kp bt sz sheets ke km)
theorem mS_showing (l : Launch) (D : va_G) {cy : Nat → ClassId} {ad : Nat → Nat} {a kp bt sz : Nat → Nat} {sheets : Nat → Int32} {ke km : Nat} {w : va_W} (hM : Mdl cy ad a kp bt sz sheets ke km w) (hok : okA a) (he : ke < 20) (hm : km ≤ 20) (hsz : ∀ i, i < 4 → sz i ≤ 16 ∧ (bt i = 0 ∨ bt i = 8 ∨ bt i = 16 ∨ bt i = 32)) (p0 : Int32) (p1 : Int32) (p2 : Int32) (p3 : Int32) : mq_l l D (mT (cy 0) (cy 1)) yX12_showing wsX12_showing 2 0 0 43 [.ref (ad 0), .int p0, .int p1, .int p2, .int p3] w (fun r w1 => MP_showing a kp bt sz sheets ke km p0 p1 p2 p3 r (fun a kp bt sz sheets ke km => Mdl cy ad a kp bt sz sheets ke km w1)) := by
  obtain ⟨go, ro, car, fi, gm, bs, bu, n1, n2, n3, n4, n5, n6, n7, px, py, db, rfl⟩ := hM
  obtain ⟨⟨b0, b1, b2, b3⟩, opl, omk, osg, ofd, osh, oz⟩ := id hok
  refine mq_cs_l (cM_showing l D ad (cy 0) (cy 1) a kp bt sz sheets go ro car ke km fi gm bs bu n1 n2 n3 n4 n5 n6 n7 px py db p0 p1 p2 p3 ) (fun r w1 h => ?_)
  rcases h with ⟨z590, z591, rfl⟩ | ⟨z592, z593, z594, ⟨z595, z596, rfl⟩⟩
  · exact (.inl (⟨z590, z591, ⟨_, _, _, _, _, _, _, _, _, _, _, _, _, _, _, _, _, rfl⟩⟩))
  · exact (.inr (⟨z592, z593, z594, ⟨z595, z596, ⟨_, _, _, _, _, _, _, _, _, _, _, _, _, _, _, _, _, rfl⟩⟩⟩))
def MP_plan (a kp bt sz : Nat → Nat) (sheets : Nat → Int32) (ke km : Nat) (x : Int32) (y : Int32) (z : Int32) (r : Int64) (K : Kt) : Prop := (¬ (rg 0 99 x ∧ rg 0 3 y ∧ rg 0 3 z) ∧ r = -1000000001 ∧ K a kp bt sz sheets ke km) ∨ (∃ hr cr dr : Nat, (x = nI hr ∧ y = nI cr ∧ z = nI dr ∧ hr ≤ 99 ∧ cr ≤ 3 ∧ dr ≤ 3) ∧ r = (nI ((plB (fun st => sumS (fun f => brv a f cr dr) st (a 3)) (fun st => sumS (fun f => a (334 + 5 * f + 2)) st (a 3)) hr (2 ^ a 3)).1)).toInt64 ∧ K a kp bt sz sheets ke km)
theorem mS_plan (l : Launch) (D : va_G) {cy : Nat → ClassId} {ad : Nat → Nat} {a kp bt sz : Nat → Nat} {sheets : Nat → Int32} {ke km : Nat} {w : va_W} (hM : Mdl cy ad a kp bt sz sheets ke km w) (hok : okA a) (he : ke < 20) (hm : km ≤ 20) (hsz : ∀ i, i < 4 → sz i ≤ 16 ∧ (bt i = 0 ∨ bt i = 8 ∨ bt i = 16 ∨ bt i = 32)) (p0 : Int32) (p1 : Int32) (p2 : Int32) : mq_l l D (mT (cy 0) (cy 1)) yX12_plan wsX12_plan 4 0 0 96 [.ref (ad 0), .int p0, .int p1, .int p2] w (fun r w1 => MP_plan a kp bt sz sheets ke km p0 p1 p2 r (fun a kp bt sz sheets ke km => Mdl cy ad a kp bt sz sheets ke km w1)) := by
  obtain ⟨go, ro, car, fi, gm, bs, bu, n1, n2, n3, n4, n5, n6, n7, px, py, db, rfl⟩ := hM
  obtain ⟨⟨b0, b1, b2, b3⟩, opl, omk, osg, ofd, osh, oz⟩ := id hok
  refine mq_cs_l (cM_plan l D ad (cy 0) (cy 1) a kp bt sz sheets go ro car ke km fi gm bs bu n1 n2 n3 n4 n5 n6 n7 px py db p0 p1 p2 b3 ofd (okA_shOk hok)) (fun r w1 h => ?_)
  rcases h with ⟨z597, z598, rfl⟩ | ⟨z599, z600, z601, ⟨z602, z603, ⟨z604, z605, rfl⟩⟩⟩
  · exact (.inl (⟨z597, z598, ⟨_, _, _, _, _, _, _, _, _, _, _, _, _, _, _, _, _, rfl⟩⟩))
  · exact (.inr (⟨z599, z600, z601, ⟨z602, z603, ⟨_, _, _, _, _, _, _, _, _, _, _, _, _, _, _, _, _, rfl⟩⟩⟩))
def MP_brings (a kp bt sz : Nat → Nat) (sheets : Nat → Int32) (ke km : Nat) (x : Int32) (y : Int32) (z : Int32) (r : Int64) (K : Kt) : Prop := (¬ (rg 0 99 x ∧ rg 0 3 y ∧ rg 0 3 z) ∧ r = -1000000001 ∧ K a kp bt sz sheets ke km) ∨ (∃ hr cr dr : Nat, (x = nI hr ∧ y = nI cr ∧ z = nI dr ∧ hr ≤ 99 ∧ cr ≤ 3 ∧ dr ≤ 3) ∧ r = (nI ((plB (fun st => sumS (fun f => brv a f cr dr) st (a 3)) (fun st => sumS (fun f => a (334 + 5 * f + 2)) st (a 3)) hr (2 ^ a 3)).2.1)).toInt64 ∧ K a kp bt sz sheets ke km)
theorem mS_brings (l : Launch) (D : va_G) {cy : Nat → ClassId} {ad : Nat → Nat} {a kp bt sz : Nat → Nat} {sheets : Nat → Int32} {ke km : Nat} {w : va_W} (hM : Mdl cy ad a kp bt sz sheets ke km w) (hok : okA a) (he : ke < 20) (hm : km ≤ 20) (hsz : ∀ i, i < 4 → sz i ≤ 16 ∧ (bt i = 0 ∨ bt i = 8 ∨ bt i = 16 ∨ bt i = 32)) (p0 : Int32) (p1 : Int32) (p2 : Int32) : mq_l l D (mT (cy 0) (cy 1)) yX12_brings wsX12_brings 4 0 0 96 [.ref (ad 0), .int p0, .int p1, .int p2] w (fun r w1 => MP_brings a kp bt sz sheets ke km p0 p1 p2 r (fun a kp bt sz sheets ke km => Mdl cy ad a kp bt sz sheets ke km w1)) := by
  obtain ⟨go, ro, car, fi, gm, bs, bu, n1, n2, n3, n4, n5, n6, n7, px, py, db, rfl⟩ := hM
  obtain ⟨⟨b0, b1, b2, b3⟩, opl, omk, osg, ofd, osh, oz⟩ := id hok
  refine mq_cs_l (cM_brings l D ad (cy 0) (cy 1) a kp bt sz sheets go ro car ke km fi gm bs bu n1 n2 n3 n4 n5 n6 n7 px py db p0 p1 p2 b3 ofd (okA_shOk hok)) (fun r w1 h => ?_)
  rcases h with ⟨z606, z607, rfl⟩ | ⟨z608, z609, z610, ⟨z611, z612, ⟨z613, z614, rfl⟩⟩⟩
  · exact (.inl (⟨z606, z607, ⟨_, _, _, _, _, _, _, _, _, _, _, _, _, _, _, _, _, rfl⟩⟩))
  · exact (.inr (⟨z608, z609, z610, ⟨z611, z612, ⟨_, _, _, _, _, _, _, _, _, _, _, _, _, _, _, _, _, rfl⟩⟩⟩))
theorem jn_led {a kp bt sz : Nat → Nat} {sheets : Nat → Int32} {ke km : Nat} {x : Int32} {v : Int32} {y : Int32} {zf : Int32} {r1 r2 : Int64} {K1 K2 : Kt} (hok : okA a) (hsz : ∀ i, i < 4 → sz i ≤ 16) (h1 : MP_led a kp bt sz sheets ke km x v y zf r1 K1) (h2 : MP_led a kp bt sz sheets ke km x v y zf r2 K2) : r1 = r2 ∧ ∃ (a2 kp2 bt2 sz2 : Nat → Nat) (sh2 : Nat → Int32) (ke2 km2 : Nat), K1 a2 kp2 bt2 sz2 sh2 ke2 km2 ∧ K2 a2 kp2 bt2 sz2 sh2 ke2 km2 := by
  obtain ⟨b0, b1, b2, b3⟩ := hok.1
  rcases h1 with ⟨c1, e1, k1⟩ | ⟨i, u, ⟨p1, p2, g1, g2⟩, h1⟩ <;> rcases h2 with ⟨c2, e2, k2⟩ | ⟨i', u', ⟨p1', p2', g1', g2'⟩, h2⟩
  · exact ⟨by rw [e1, e2], _, _, _, _, _, _, _, k1, k2⟩
  · exact absurd (by rw [p1', p2']; exact ⟨ix_nI g1' (by omega), rg_nI (Nat.zero_le _) g2' (by decide)⟩) c1
  · exact absurd (by rw [p1, p2]; exact ⟨ix_nI g1 (by omega), rg_nI (Nat.zero_le _) g2 (by decide)⟩) c2
  · have q1 := nI_inj7 (by omega) (by omega) (p1.symm.trans p1'); have q2 := nI_inj7 (by omega) (by omega) (p2.symm.trans p2')
    subst q1; subst q2
    rcases h1 with ⟨c1, e1, k1⟩ | ⟨c1, e1, k1⟩ <;> rcases h2 with ⟨c2, e2, k2⟩ | ⟨c2, e2, k2⟩
    · exact ⟨by rw [e1, e2], _, _, _, _, _, _, _, k1, k2⟩
    · exact absurd c2 c1
    · exact absurd c1 c2
    · exact ⟨by rw [e1, e2], _, _, _, _, _, _, _, k1, k2⟩
theorem jn_miss {a kp bt sz : Nat → Nat} {sheets : Nat → Int32} {ke km : Nat} {x : Int32} {v : Int32} {zf : Int32} {r1 r2 : Int64} {K1 K2 : Kt} (hok : okA a) (hsz : ∀ i, i < 4 → sz i ≤ 16) (h1 : MP_miss a kp bt sz sheets ke km x v zf r1 K1) (h2 : MP_miss a kp bt sz sheets ke km x v zf r2 K2) : r1 = r2 ∧ ∃ (a2 kp2 bt2 sz2 : Nat → Nat) (sh2 : Nat → Int32) (ke2 km2 : Nat), K1 a2 kp2 bt2 sz2 sh2 ke2 km2 ∧ K2 a2 kp2 bt2 sz2 sh2 ke2 km2 := by
  obtain ⟨b0, b1, b2, b3⟩ := hok.1
  rcases h1 with ⟨c1, e1, k1⟩ | ⟨i, ⟨p1, g1⟩, h1⟩ <;> rcases h2 with ⟨c2, e2, k2⟩ | ⟨i', ⟨p1', g1'⟩, h2⟩
  · exact ⟨by rw [e1, e2], _, _, _, _, _, _, _, k1, k2⟩
  · exact absurd (by rw [p1']; exact ix_nI g1' (by omega)) c1
  · exact absurd (by rw [p1]; exact ix_nI g1 (by omega)) c2
  · have q1 := nI_inj7 (by omega) (by omega) (p1.symm.trans p1')
    subst q1
    rcases h1 with ⟨c1, e1, k1⟩ | ⟨c1, e1, k1⟩ <;> rcases h2 with ⟨c2, e2, k2⟩ | ⟨c2, e2, k2⟩
    · exact ⟨by rw [e1, e2], _, _, _, _, _, _, _, k1, k2⟩
    · exact absurd c2 c1
    · exact absurd c1 c2
    · exact ⟨by rw [e1, e2], _, _, _, _, _, _, _, k1, k2⟩
theorem jn_doubt {a kp bt sz : Nat → Nat} {sheets : Nat → Int32} {ke km : Nat} {x : Int32} {r1 r2 : Int64} {K1 K2 : Kt} (hok : okA a) (hsz : ∀ i, i < 4 → sz i ≤ 16) (h1 : MP_doubt a kp bt sz sheets ke km x r1 K1) (h2 : MP_doubt a kp bt sz sheets ke km x r2 K2) : r1 = r2 ∧ ∃ (a2 kp2 bt2 sz2 : Nat → Nat) (sh2 : Nat → Int32) (ke2 km2 : Nat), K1 a2 kp2 bt2 sz2 sh2 ke2 km2 ∧ K2 a2 kp2 bt2 sz2 sh2 ke2 km2 := by
  obtain ⟨b0, b1, b2, b3⟩ := hok.1
  rcases h1 with ⟨c1, e1, k1⟩ | ⟨i, ⟨p1, g1⟩, h1⟩ <;> rcases h2 with ⟨c2, e2, k2⟩ | ⟨i', ⟨p1', g1'⟩, h2⟩
  · exact ⟨by rw [e1, e2], _, _, _, _, _, _, _, k1, k2⟩
  · exact absurd (by rw [p1']; exact ix_nI g1' (by omega)) c1
  · exact absurd (by rw [p1]; exact ix_nI g1 (by omega)) c2
  · have q1 := nI_inj7 (by omega) (by omega) (p1.symm.trans p1')
    subst q1
    rcases h1 with ⟨c1, e1, k1⟩ | ⟨c1, e1, k1⟩ <;> rcases h2 with ⟨c2, e2, k2⟩ | ⟨c2, e2, k2⟩
    · exact ⟨by rw [e1, e2], _, _, _, _, _, _, _, k1, k2⟩
    · exact absurd c1 c2
    · exact absurd c2 c1
    · exact ⟨by rw [e1, e2], _, _, _, _, _, _, _, k1, k2⟩
theorem jn_as {a kp bt sz : Nat → Nat} {sheets : Nat → Int32} {ke km : Nat} {mi : Int32} {ki : Int32} {r1 r2 : Int64} {K1 K2 : Kt} (hok : okA a) (hsz : ∀ i, i < 4 → sz i ≤ 16) (h1 : MP_as a kp bt sz sheets ke km mi ki r1 K1) (h2 : MP_as a kp bt sz sheets ke km mi ki r2 K2) : r1 = r2 ∧ ∃ (a2 kp2 bt2 sz2 : Nat → Nat) (sh2 : Nat → Int32) (ke2 km2 : Nat), K1 a2 kp2 bt2 sz2 sh2 ke2 km2 ∧ K2 a2 kp2 bt2 sz2 sh2 ke2 km2 := by
  obtain ⟨b0, b1, b2, b3⟩ := hok.1
  rcases h1 with ⟨c1, e1, k1⟩ | ⟨i, k, ⟨p1, p2, g1, g2⟩, h1⟩ <;> rcases h2 with ⟨c2, e2, k2⟩ | ⟨i', k', ⟨p1', p2', g1', g2'⟩, h2⟩
  · exact ⟨by rw [e1, e2], _, _, _, _, _, _, _, k1, k2⟩
  · exact absurd (by rw [p1', p2']; exact ⟨ix_nI g1' (by omega), rg_nI (Nat.zero_le _) g2' (by decide)⟩) c1
  · exact absurd (by rw [p1, p2]; exact ⟨ix_nI g1 (by omega), rg_nI (Nat.zero_le _) g2 (by decide)⟩) c2
  · have q1 := nI_inj7 (by omega) (by omega) (p1.symm.trans p1'); have q2 := nI_inj7 (by omega) (by omega) (p2.symm.trans p2')
    subst q1; subst q2
    rcases h1 with ⟨c1, e1, k1⟩ | ⟨c1, e1, k1⟩ <;> rcases h2 with ⟨c2, e2, k2⟩ | ⟨c2, e2, k2⟩
    · exact ⟨by rw [e1, e2], _, _, _, _, _, _, _, k1, k2⟩
    · exact absurd c1 c2
    · exact absurd c2 c1
    · exact ⟨by rw [e1, e2], _, _, _, _, _, _, _, k1, k2⟩
theorem jn_at {a kp bt sz : Nat → Nat} {sheets : Nat → Int32} {ke km : Nat} {x : Int32} {v : Int32} {r1 r2 : Int64} {K1 K2 : Kt} (hok : okA a) (hsz : ∀ i, i < 4 → sz i ≤ 16) (h1 : MP_at a kp bt sz sheets ke km x v r1 K1) (h2 : MP_at a kp bt sz sheets ke km x v r2 K2) : r1 = r2 ∧ ∃ (a2 kp2 bt2 sz2 : Nat → Nat) (sh2 : Nat → Int32) (ke2 km2 : Nat), K1 a2 kp2 bt2 sz2 sh2 ke2 km2 ∧ K2 a2 kp2 bt2 sz2 sh2 ke2 km2 := by
  obtain ⟨b0, b1, b2, b3⟩ := hok.1
  rcases h1 with ⟨c1, e1, k1⟩ | ⟨i, ⟨p1, g1⟩, h1⟩ <;> rcases h2 with ⟨c2, e2, k2⟩ | ⟨i', ⟨p1', g1'⟩, h2⟩
  · exact ⟨by rw [e1, e2], _, _, _, _, _, _, _, k1, k2⟩
  · exact absurd (by rw [p1']; exact ix_nI g1' (by omega)) c1
  · exact absurd (by rw [p1]; exact ix_nI g1 (by omega)) c2
  · have q1 := nI_inj7 (by omega) (by omega) (p1.symm.trans p1')
    subst q1
    rcases h1 with ⟨c1, e1, k1⟩ | ⟨c1, e1, k1⟩ <;> rcases h2 with ⟨c2, e2, k2⟩ | ⟨c2, e2, k2⟩
    · exact ⟨by rw [e1, e2], _, _, _, _, _, _, _, k1, k2⟩
    · exact absurd c2 c1
    · exact absurd c1 c2
    · exact ⟨by rw [e1, e2], _, _, _, _, _, _, _, k1, k2⟩
theorem jn_belief {a kp bt sz : Nat → Nat} {sheets : Nat → Int32} {ke km : Nat} {x : Int32} {zf : Int32} {r1 r2 : Int64} {K1 K2 : Kt} (hok : okA a) (hsz : ∀ i, i < 4 → sz i ≤ 16) (h1 : MP_belief a kp bt sz sheets ke km x zf r1 K1) (h2 : MP_belief a kp bt sz sheets ke km x zf r2 K2) : r1 = r2 ∧ ∃ (a2 kp2 bt2 sz2 : Nat → Nat) (sh2 : Nat → Int32) (ke2 km2 : Nat), K1 a2 kp2 bt2 sz2 sh2 ke2 km2 ∧ K2 a2 kp2 bt2 sz2 sh2 ke2 km2 := by
  obtain ⟨b0, b1, b2, b3⟩ := hok.1
  rcases h1 with ⟨c1, e1, k1⟩ | ⟨i, ⟨p1, g1⟩, h1⟩ <;> rcases h2 with ⟨c2, e2, k2⟩ | ⟨i', ⟨p1', g1'⟩, h2⟩
  · exact ⟨by rw [e1, e2], _, _, _, _, _, _, _, k1, k2⟩
  · exact absurd (by rw [p1']; exact ix_nI g1' (by omega)) c1
  · exact absurd (by rw [p1]; exact ix_nI g1 (by omega)) c2
  · have q1 := nI_inj7 (by omega) (by omega) (p1.symm.trans p1')
    subst q1
    rcases h1 with ⟨c1, e1, k1⟩ | ⟨c1, e1, k1⟩ <;> rcases h2 with ⟨c2, e2, k2⟩ | ⟨c2, e2, k2⟩
    · exact ⟨by rw [e1, e2], _, _, _, _, _, _, _, k1, k2⟩
    · exact absurd c1 c2
    · exact absurd c2 c1
    · exact ⟨by rw [e1, e2], _, _, _, _, _, _, _, k1, k2⟩
theorem jn_agree {a kp bt sz : Nat → Nat} {sheets : Nat → Int32} {ke km : Nat} {x : Int32} {y : Int32} {r1 r2 : Int64} {K1 K2 : Kt} (hok : okA a) (hsz : ∀ i, i < 4 → sz i ≤ 16) (h1 : MP_agree a kp bt sz sheets ke km x y r1 K1) (h2 : MP_agree a kp bt sz sheets ke km x y r2 K2) : r1 = r2 ∧ ∃ (a2 kp2 bt2 sz2 : Nat → Nat) (sh2 : Nat → Int32) (ke2 km2 : Nat), K1 a2 kp2 bt2 sz2 sh2 ke2 km2 ∧ K2 a2 kp2 bt2 sz2 sh2 ke2 km2 := by
  obtain ⟨b0, b1, b2, b3⟩ := hok.1
  rcases h1 with ⟨c1, e1, k1⟩ | ⟨i, j, ⟨p1, p2, g1, g2⟩, h1⟩ <;> rcases h2 with ⟨c2, e2, k2⟩ | ⟨i', j', ⟨p1', p2', g1', g2'⟩, h2⟩
  · exact ⟨by rw [e1, e2], _, _, _, _, _, _, _, k1, k2⟩
  · exact absurd (by rw [p1', p2']; exact ⟨ix_nI g1' (by omega), ix_nI g2' (by omega)⟩) c1
  · exact absurd (by rw [p1, p2]; exact ⟨ix_nI g1 (by omega), ix_nI g2 (by omega)⟩) c2
  · have q1 := nI_inj7 (by omega) (by omega) (p1.symm.trans p1'); have q2 := nI_inj7 (by omega) (by omega) (p2.symm.trans p2')
    subst q1; subst q2
    obtain ⟨e1, k1⟩ := h1
    obtain ⟨e2, k2⟩ := h2
    exact ⟨by rw [e1, e2], _, _, _, _, _, _, _, k1, k2⟩
theorem jn_group {a kp bt sz : Nat → Nat} {sheets : Nat → Int32} {ke km : Nat} {x : Int32} {r1 r2 : Int64} {K1 K2 : Kt} (hok : okA a) (hsz : ∀ i, i < 4 → sz i ≤ 16) (h1 : MP_group a kp bt sz sheets ke km x r1 K1) (h2 : MP_group a kp bt sz sheets ke km x r2 K2) : r1 = r2 ∧ ∃ (a2 kp2 bt2 sz2 : Nat → Nat) (sh2 : Nat → Int32) (ke2 km2 : Nat), K1 a2 kp2 bt2 sz2 sh2 ke2 km2 ∧ K2 a2 kp2 bt2 sz2 sh2 ke2 km2 := by
  obtain ⟨b0, b1, b2, b3⟩ := hok.1
  rcases h1 with ⟨c1, e1, k1⟩ | ⟨i, ⟨p1, g1⟩, h1⟩ <;> rcases h2 with ⟨c2, e2, k2⟩ | ⟨i', ⟨p1', g1'⟩, h2⟩
  · exact ⟨by rw [e1, e2], _, _, _, _, _, _, _, k1, k2⟩
  · exact absurd (by rw [p1']; exact ix_nI g1' (by omega)) c1
  · exact absurd (by rw [p1]; exact ix_nI g1 (by omega)) c2
  · have q1 := nI_inj7 (by omega) (by omega) (p1.symm.trans p1')
    subst q1
    obtain ⟨G, cg, f1, f2, e1, k1⟩ := h1
    obtain ⟨G2, cg2, f3, f4, e2, k2⟩ := h2
    rw [grp_one f1 f3 i g1] at e1
    exact ⟨by rw [e1, e2], _, _, _, _, _, _, _, k1, k2⟩
theorem jn_showing {a kp bt sz : Nat → Nat} {sheets : Nat → Int32} {ke km : Nat} {u : Int32} {x : Int32} {y : Int32} {z : Int32} {r1 r2 : Int64} {K1 K2 : Kt} (hok : okA a) (hsz : ∀ i, i < 4 → sz i ≤ 16) (h1 : MP_showing a kp bt sz sheets ke km u x y z r1 K1) (h2 : MP_showing a kp bt sz sheets ke km u x y z r2 K2) : r1 = r2 ∧ ∃ (a2 kp2 bt2 sz2 : Nat → Nat) (sh2 : Nat → Int32) (ke2 km2 : Nat), K1 a2 kp2 bt2 sz2 sh2 ke2 km2 ∧ K2 a2 kp2 bt2 sz2 sh2 ke2 km2 := by
  obtain ⟨b0, b1, b2, b3⟩ := hok.1
  rcases h1 with ⟨c1, e1, k1⟩ | ⟨so, cr, dr, ⟨p1, p2, p3, g1, g2, g3⟩, h1⟩ <;> rcases h2 with ⟨c2, e2, k2⟩ | ⟨so', cr', dr', ⟨p1', p2', p3', g1', g2', g3'⟩, h2⟩
  · exact ⟨by rw [e1, e2], _, _, _, _, _, _, _, k1, k2⟩
  · exact absurd (by rw [p1', p2', p3']; exact ⟨rg_nI (Nat.zero_le _) g1' (by decide), rg_nI (Nat.zero_le _) g2' (by decide), rg_nI (Nat.zero_le _) g3' (by decide)⟩) c1
  · exact absurd (by rw [p1, p2, p3]; exact ⟨rg_nI (Nat.zero_le _) g1 (by decide), rg_nI (Nat.zero_le _) g2 (by decide), rg_nI (Nat.zero_le _) g3 (by decide)⟩) c2
  · have q1 := nI_inj7 (by omega) (by omega) (p1.symm.trans p1'); have q2 := nI_inj7 (by omega) (by omega) (p2.symm.trans p2'); have q3 := nI_inj7 (by omega) (by omega) (p3.symm.trans p3')
    subst q1; subst q2; subst q3
    obtain ⟨e1, k1⟩ := h1
    obtain ⟨e2, k2⟩ := h2
    exact ⟨by rw [e1, e2], _, _, _, _, _, _, _, k1, k2⟩
theorem jn_plan {a kp bt sz : Nat → Nat} {sheets : Nat → Int32} {ke km : Nat} {x : Int32} {y : Int32} {z : Int32} {r1 r2 : Int64} {K1 K2 : Kt} (hok : okA a) (hsz : ∀ i, i < 4 → sz i ≤ 16) (h1 : MP_plan a kp bt sz sheets ke km x y z r1 K1) (h2 : MP_plan a kp bt sz sheets ke km x y z r2 K2) : r1 = r2 ∧ ∃ (a2 kp2 bt2 sz2 : Nat → Nat) (sh2 : Nat → Int32) (ke2 km2 : Nat), K1 a2 kp2 bt2 sz2 sh2 ke2 km2 ∧ K2 a2 kp2 bt2 sz2 sh2 ke2 km2 := by
  obtain ⟨b0, b1, b2, b3⟩ := hok.1
  rcases h1 with ⟨c1, e1, k1⟩ | ⟨hr, cr, dr, ⟨p1, p2, p3, g1, g2, g3⟩, h1⟩ <;> rcases h2 with ⟨c2, e2, k2⟩ | ⟨hr', cr', dr', ⟨p1', p2', p3', g1', g2', g3'⟩, h2⟩
  · exact ⟨by rw [e1, e2], _, _, _, _, _, _, _, k1, k2⟩
  · exact absurd (by rw [p1', p2', p3']; exact ⟨rg_nI (Nat.zero_le _) g1' (by decide), rg_nI (Nat.zero_le _) g2' (by decide), rg_nI (Nat.zero_le _) g3' (by decide)⟩) c1
  · exact absurd (by rw [p1, p2, p3]; exact ⟨rg_nI (Nat.zero_le _) g1 (by decide), rg_nI (Nat.zero_le _) g2 (by decide), rg_nI (Nat.zero_le _) g3 (by decide)⟩) c2
  · have q1 := nI_inj7 (by omega) (by omega) (p1.symm.trans p1'); have q2 := nI_inj7 (by omega) (by omega) (p2.symm.trans p2'); have q3 := nI_inj7 (by omega) (by omega) (p3.symm.trans p3')
    subst q1; subst q2; subst q3
    obtain ⟨e1, k1⟩ := h1
    obtain ⟨e2, k2⟩ := h2
    exact ⟨by rw [e1, e2], _, _, _, _, _, _, _, k1, k2⟩
theorem jn_brings {a kp bt sz : Nat → Nat} {sheets : Nat → Int32} {ke km : Nat} {x : Int32} {y : Int32} {z : Int32} {r1 r2 : Int64} {K1 K2 : Kt} (hok : okA a) (hsz : ∀ i, i < 4 → sz i ≤ 16) (h1 : MP_brings a kp bt sz sheets ke km x y z r1 K1) (h2 : MP_brings a kp bt sz sheets ke km x y z r2 K2) : r1 = r2 ∧ ∃ (a2 kp2 bt2 sz2 : Nat → Nat) (sh2 : Nat → Int32) (ke2 km2 : Nat), K1 a2 kp2 bt2 sz2 sh2 ke2 km2 ∧ K2 a2 kp2 bt2 sz2 sh2 ke2 km2 := by
  obtain ⟨b0, b1, b2, b3⟩ := hok.1
  rcases h1 with ⟨c1, e1, k1⟩ | ⟨hr, cr, dr, ⟨p1, p2, p3, g1, g2, g3⟩, h1⟩ <;> rcases h2 with ⟨c2, e2, k2⟩ | ⟨hr', cr', dr', ⟨p1', p2', p3', g1', g2', g3'⟩, h2⟩
  · exact ⟨by rw [e1, e2], _, _, _, _, _, _, _, k1, k2⟩
  · exact absurd (by rw [p1', p2', p3']; exact ⟨rg_nI (Nat.zero_le _) g1' (by decide), rg_nI (Nat.zero_le _) g2' (by decide), rg_nI (Nat.zero_le _) g3' (by decide)⟩) c1
  · exact absurd (by rw [p1, p2, p3]; exact ⟨rg_nI (Nat.zero_le _) g1 (by decide), rg_nI (Nat.zero_le _) g2 (by decide), rg_nI (Nat.zero_le _) g3 (by decide)⟩) c2
  · have q1 := nI_inj7 (by omega) (by omega) (p1.symm.trans p1'); have q2 := nI_inj7 (by omega) (by omega) (p2.symm.trans p2'); have q3 := nI_inj7 (by omega) (by omega) (p3.symm.trans p3')
    subst q1; subst q2; subst q3
    obtain ⟨e1, k1⟩ := h1
    obtain ⟨e2, k2⟩ := h2
    exact ⟨by rw [e1, e2], _, _, _, _, _, _, _, k1, k2⟩
theorem jn_wrong {a kp bt sz : Nat → Nat} {sheets : Nat → Int32} {ke km : Nat}  {r1 r2 : Int64} {K1 K2 : Kt} (hok : okA a) (hsz : ∀ i, i < 4 → sz i ≤ 16) (h1 : MP_wrong a kp bt sz sheets ke km  r1 K1) (h2 : MP_wrong a kp bt sz sheets ke km  r2 K2) : r1 = r2 ∧ ∃ (a2 kp2 bt2 sz2 : Nat → Nat) (sh2 : Nat → Int32) (ke2 km2 : Nat), K1 a2 kp2 bt2 sz2 sh2 ke2 km2 ∧ K2 a2 kp2 bt2 sz2 sh2 ke2 km2 := by
  obtain ⟨b0, b1, b2, b3⟩ := hok.1
  obtain ⟨e1, k1⟩ := h1
  obtain ⟨e2, k2⟩ := h2
  exact ⟨by rw [e1, e2], _, _, _, _, _, _, _, k1, k2⟩
theorem jn_groups {a kp bt sz : Nat → Nat} {sheets : Nat → Int32} {ke km : Nat}  {r1 r2 : Int64} {K1 K2 : Kt} (hok : okA a) (hsz : ∀ i, i < 4 → sz i ≤ 16) (h1 : MP_groups a kp bt sz sheets ke km  r1 K1) (h2 : MP_groups a kp bt sz sheets ke km  r2 K2) : r1 = r2 ∧ ∃ (a2 kp2 bt2 sz2 : Nat → Nat) (sh2 : Nat → Int32) (ke2 km2 : Nat), K1 a2 kp2 bt2 sz2 sh2 ke2 km2 ∧ K2 a2 kp2 bt2 sz2 sh2 ke2 km2 := by
  obtain ⟨b0, b1, b2, b3⟩ := hok.1
  obtain ⟨G, cg, f1, f2, e1, k1⟩ := h1
  obtain ⟨G2, cg2, f3, f4, e2, k2⟩ := h2
  rw [grp_many f1 f3] at e1
  exact ⟨by rw [e1, e2], _, _, _, _, _, _, _, k1, k2⟩
theorem jn_rivals {a kp bt sz : Nat → Nat} {sheets : Nat → Int32} {ke km : Nat} {x : Int32} {r1 r2 : Int64} {K1 K2 : Kt} (hok : okA a) (hsz : ∀ i, i < 4 → sz i ≤ 16) (h1 : MP_rivals a kp bt sz sheets ke km x r1 K1) (h2 : MP_rivals a kp bt sz sheets ke km x r2 K2) : r1 = r2 ∧ ∃ (a2 kp2 bt2 sz2 : Nat → Nat) (sh2 : Nat → Int32) (ke2 km2 : Nat), K1 a2 kp2 bt2 sz2 sh2 ke2 km2 ∧ K2 a2 kp2 bt2 sz2 sh2 ke2 km2 := by
  obtain ⟨b0, b1, b2, b3⟩ := hok.1
  obtain ⟨G, cg, f1, f2, h1⟩ := h1
  obtain ⟨G2, cg2, f3, f4, h2⟩ := h2
  have ec := grp_many f1 f3
  subst ec
  rcases h1 with ⟨c1, e1, k1⟩ | ⟨k, p1, c1, e1, k1⟩ <;> rcases h2 with ⟨c2, e2, k2⟩ | ⟨k', p1', c2, e2, k2⟩
  · exact ⟨by rw [e1, e2], _, _, _, _, _, _, _, k1, k2⟩
  · exact absurd (by rw [p1']; exact ix_nI c2 (by omega)) c1
  · exact absurd (by rw [p1]; exact ix_nI c1 (by omega)) c2
  · have q1 := nI_inj7 (by omega) (by omega) (p1.symm.trans p1')
    subst q1
    rw [rvN_cg (grp_one f1 f3) _ (Nat.le_refl _)] at e1
    exact ⟨by rw [e1, e2], _, _, _, _, _, _, _, k1, k2⟩
theorem jn_is {a kp bt sz : Nat → Nat} {sheets : Nat → Int32} {ke km : Nat} {x : Int32} {r1 r2 : Int64} {K1 K2 : Kt} (hok : okA a) (hsz : ∀ i, i < 4 → sz i ≤ 16) (h1 : MP_is a kp bt sz sheets ke km x r1 K1) (h2 : MP_is a kp bt sz sheets ke km x r2 K2) : r1 = r2 ∧ ∃ (a2 kp2 bt2 sz2 : Nat → Nat) (sh2 : Nat → Int32) (ke2 km2 : Nat), K1 a2 kp2 bt2 sz2 sh2 ke2 km2 ∧ K2 a2 kp2 bt2 sz2 sh2 ke2 km2 := by
  obtain ⟨b0, b1, b2, b3⟩ := hok.1
  obtain ⟨G, cg, f1, f2, h1⟩ := h1
  obtain ⟨G2, cg2, f3, f4, h2⟩ := h2
  have ec := grp_many f1 f3
  subst ec
  rcases h1 with ⟨c1, e1, k1⟩ | ⟨k, p1, c1, h1⟩ <;> rcases h2 with ⟨c2, e2, k2⟩ | ⟨k', p1', c2, h2⟩
  · exact ⟨by rw [e1, e2], _, _, _, _, _, _, _, k1, k2⟩
  · exact absurd (by rw [p1']; exact ix_nI c2 (by omega)) c1
  · exact absurd (by rw [p1]; exact ix_nI c1 (by omega)) c2
  · have q1 := nI_inj7 (by omega) (by omega) (p1.symm.trans p1')
    subst q1
    rcases h1 with ⟨d1, e1, k1⟩ | ⟨d1, ro0, rr, d, x1, e1, k1⟩ <;> rcases h2 with ⟨d2, e2, k2⟩ | ⟨d2, ro2, rr2, d', x2, e2, k2⟩
    · exact ⟨by rw [e1, e2], _, _, _, _, _, _, _, k1, k2⟩
    · exact absurd d2 d1
    · exact absurd d1 d2
    · have et : tdV a G k = tdV a G2 k := by
        funext v
        obtain ⟨t1, t2, t3, t4⟩ := td_cg (a := a) (k := k) (grp_one f1 f3) _ (Nat.le_refl _)
        unfold tdV
        rw [t1, t2, t3, t4]
      rw [et] at x1
      obtain ⟨r1, r2, y1, y2, y3⟩ := exS_in (fc := tdV a G2 k) (g := fun j => a (322 + j)) (ro := ro0) (ro' := ro2) (N := a 2) (a 2) 0 0 (Nat.zero_add _) d1 (by omega) ro0 ro2 rfl rfl (fun j hj => absurd hj (Nat.not_lt_zero j))
      have z1 : rr = r1 := congrArg Prod.fst (x1.symm.trans y1)
      have z2 : rr2 = r2 := congrArg Prod.fst (x2.symm.trans y2)
      rw [z1, y3, ← z2] at e1
      exact ⟨by rw [e1, e2], _, _, _, _, _, _, _, k1, k2⟩
