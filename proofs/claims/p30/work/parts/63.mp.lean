/-! ===== what a call does ===== -/
abbrev Kt := (Nat → Nat) → (Nat → Nat) → (Nat → Nat) → (Nat → Nat) → (Nat → Int32) → Nat → Nat → Prop
/-- the reference's world, but for what it forgets -/
def Mdl (cy : Nat → ClassId) (ad : Nat → Nat) (a kp bt sz : Nat → Nat) (sheets : Nat → Int32) (ke km : Nat) (w : va_W) : Prop := ∃ (go ro : Nat → Nat) (car : Nat → Int32) (fi gm bs bu : Nat) (n1 n2 n3 n4 n5 n6 n7 : Int64) (px py db : Nat → Int64), w = mW ad (cy 0) (cy 1) a kp bt sz sheets go ro car ke km fi gm bs bu n1 n2 n3 n4 n5 n6 n7 px py db
theorem mq_cs_l {l : Launch} {D : va_G} {tys : List (ClassId × FieldType)} {y : MethodName} {ws : List Cond} {fr mc ms lo : Nat} {av : List Value} {w : va_W} {post post' : Int64 → va_W → Prop} (h : mq_l l D tys y ws fr mc ms lo av w post) (hq : ∀ r w1, post r w1 → post' r w1) : mq_l l D tys y ws fr mc ms lo av w post' := by
  intro sz
  refine Met.cs (h sz) (Nat.le_refl _) (Nat.le_refl _) (Nat.le_refl _) (Nat.le_refl _) (Nat.le_refl _) (Nat.le_refl _) (fun _ _ q => q) (fun a s o t _ hq' => ?_) (fun _ q => q)
  obtain ⟨⟨r, u, ho, hpo, hB⟩, hF⟩ := hq'
  exact ⟨⟨r, u, ho, hq r u hpo, hB⟩, hF⟩
theorem nI_inj7 {a b : Nat} (ha : a < 2 ^ 31) (hb : b < 2 ^ 31) (h : nI a = nI b) : a = b := nI_inj8 ha hb h
theorem ix4 {v : Int32} : ix 4 v ↔ rg 0 3 v := by
  constructor
  · intro h
    obtain ⟨k, hk, rfl⟩ := ix_of8 h (by decide)
    exact rg_nI (Nat.zero_le _) (by omega) (by decide)
  · intro h
    obtain ⟨k, _, hk, rfl⟩ := rg_of h (by decide) (by decide)
    exact ix_nI (by omega) (by decide)
theorem sgI_nI7 {j : Nat} (h : sg j) : sgI (nI j) := by
  rcases h with h | h
  · exact Or.inl (rg_nI h.1 h.2 (by decide))
  · exact Or.inr (rg_nI h.1 h.2 (by decide))
def MP_picture (a kp bt sz : Nat → Nat) (sheets : Nat → Int32) (ke km : Nat)  (r : Int64) (K : Kt) : Prop := (a 0 = 6 ∧ r = -1000000005 ∧ K a kp bt sz sheets ke km) ∨ (a 0 < 6 ∧ r = (nI (a 0)).toInt64 ∧ K (piA a) (cpN kp a (598 * ke) 598) bt sz sheets ((ke + 1) % 20) (kmU km))
def MP_place (a kp bt sz : Nat → Nat) (sheets : Nat → Int32) (ke km : Nat) (pi : Int32) (u : Int32) (v : Int32) (x : Int32) (y : Int32) (r : Int64) (K : Kt) : Prop := (¬ (ix (a 0) pi ∧ rg 0 999 u ∧ rg 0 999 v ∧ rg 0 999 x ∧ rg 0 999 y) ∧ r = -1000000001 ∧ K a kp bt sz sheets ke km) ∨ (∃ i u1 v1 x1 y1 : Nat, (pi = nI i ∧ u = nI u1 ∧ v = nI v1 ∧ x = nI x1 ∧ y = nI y1 ∧ i < a 0 ∧ u1 ≤ 999 ∧ v1 ≤ 999 ∧ x1 ≤ 999 ∧ y1 ≤ 999) ∧ ((a (4 + i) = 8 ∧ r = -1000000005 ∧ K a kp bt sz sheets ke km) ∨ (a (4 + i) < 8 ∧ r = (nI (a (4 + i) + 1)).toInt64 ∧ K (plA a i u1 v1 x1 y1) (cpN kp a (598 * ke) 598) bt sz sheets ((ke + 1) % 20) (kmU km))))
def MP_unplace (a kp bt sz : Nat → Nat) (sheets : Nat → Int32) (ke km : Nat) (pi : Int32) (r : Int64) (K : Kt) : Prop := (¬ ix (a 0) pi ∧ r = -1000000001 ∧ K a kp bt sz sheets ke km) ∨ (∃ i : Nat, (pi = nI i ∧ i < a 0) ∧ ((a (4 + i) = 0 ∧ r = -1000000006 ∧ K a kp bt sz sheets ke km) ∨ (0 < a (4 + i) ∧ r = (nI (a (4 + i) - 1)).toInt64 ∧ K (upN a (4 + i) (a (4 + i) - 1)) (cpN kp a (598 * ke) 598) bt sz sheets ((ke + 1) % 20) (kmU km))))
def MP_mark (a kp bt sz : Nat → Nat) (sheets : Nat → Int32) (ke km : Nat) (pi : Int32) (ki : Int32) (u : Int32) (v : Int32) (si : Int32) (ga : Int32) (r : Int64) (K : Kt) : Prop := ((¬ ∃ i k u1 v1 s1 g1 : Nat, (pi = nI i ∧ ki = nI k ∧ u = nI u1 ∧ v = nI v1 ∧ si = nI s1 ∧ ga = nI g1) ∧ mkN (a 0) i k u1 v1 s1 g1) ∧ r = -1000000001 ∧ K a kp bt sz sheets ke km) ∨ (∃ i k u1 v1 s1 g1 : Nat, (pi = nI i ∧ ki = nI k ∧ u = nI u1 ∧ v = nI v1 ∧ si = nI s1 ∧ ga = nI g1) ∧ mkN (a 0) i k u1 v1 s1 g1 ∧ ((a 1 = 20 ∧ r = -1000000005 ∧ K a kp bt sz sheets ke km) ∨ (a 1 < 20 ∧ r = (nI (a 1)).toInt64 ∧ K (mrA a i k u1 v1 s1 g1) (cpN kp a (598 * ke) 598) bt sz sheets ((ke + 1) % 20) (kmU km))))
def MP_sign (a kp bt sz : Nat → Nat) (sheets : Nat → Int32) (ke km : Nat) (v : Int32) (r : Int64) (K : Kt) : Prop := (¬ sgI v ∧ r = -1000000001 ∧ K a kp bt sz sheets ke km) ∨ (∃ v1 : Nat, (v = nI v1 ∧ sg v1) ∧ ((a 2 = 12 ∧ r = -1000000005 ∧ K a kp bt sz sheets ke km) ∨ (a 2 < 12 ∧ r = (nI (a 2 + 1)).toInt64 ∧ K (siA a v1) (cpN kp a (598 * ke) 598) bt sz sheets ((ke + 1) % 20) (kmU km))))
def MP_blank (a kp bt sz : Nat → Nat) (sheets : Nat → Int32) (ke km : Nat)  (r : Int64) (K : Kt) : Prop := r = (nI (a 2)).toInt64 ∧ K (upN a 2 0) (cpN kp a (598 * ke) 598) bt sz sheets ((ke + 1) % 20) (kmU km)
def MP_field (a kp bt sz : Nat → Nat) (sheets : Nat → Int32) (ke km : Nat) (x : Int32) (y : Int32) (z : Int32) (r : Int64) (K : Kt) : Prop := (¬ (rg 0 3 x ∧ rg 1 99 y ∧ rg 1 9 z) ∧ r = -1000000001 ∧ K a kp bt sz sheets ke km) ∨ (∃ so ch ho : Nat, (x = nI so ∧ y = nI ch ∧ z = nI ho ∧ so ≤ 3 ∧ 1 ≤ ch ∧ ch ≤ 99 ∧ 1 ≤ ho ∧ ho ≤ 9) ∧ ((a 3 = 8 ∧ r = -1000000005 ∧ K a kp bt sz sheets ke km) ∨ (a 3 < 8 ∧ r = (nI (a 3)).toInt64 ∧ K (fiA a so ch ho) (cpN kp a (598 * ke) 598) bt sz sheets ((ke + 1) % 20) (kmU km))))
def MP_look (a kp bt sz : Nat → Nat) (sheets : Nat → Int32) (ke km : Nat) (fd : Int32) (x : Int32) (y : Int32) (z : Int32) (r : Int64) (K : Kt) : Prop := (¬ (ix (a 3) fd ∧ rg 0 3 x ∧ rg 0 3 y) ∧ r = -1000000001 ∧ K a kp bt sz sheets ke km) ∨ (∃ i cr dr : Nat, (fd = nI i ∧ x = nI cr ∧ y = nI dr ∧ i < a 3 ∧ cr ≤ 3 ∧ dr ≤ 3) ∧ ((a (334 + 5 * i + 3) = 1 ∧ r = -1000000004 ∧ K a kp bt sz sheets ke km) ∨ (a (334 + 5 * i + 3) = 0 ∧ a (334 + 5 * i + 4) = 4 ∧ r = -1000000005 ∧ K a kp bt sz sheets ke km) ∨ (a (334 + 5 * i + 3) = 0 ∧ a (334 + 5 * i + 4) < 4 ∧ r = (nI (a (334 + 5 * i + 4) + 1)).toInt64 ∧ K (loA a i cr dr (zN z)) (cpN kp a (598 * ke) 598) bt sz sheets ((ke + 1) % 20) (kmU km))))
def MP_dig (a kp bt sz : Nat → Nat) (sheets : Nat → Int32) (ke km : Nat) (x : Int32) (y : Int32) (r : Int64) (K : Kt) : Prop := (¬ ix (a 3) x ∧ r = -1000000001 ∧ K a kp bt sz sheets ke km) ∨ (∃ i : Nat, (x = nI i ∧ i < a 3) ∧ ((a (334 + 5 * i + 3) = 1 ∧ r = -1000000004 ∧ K a kp bt sz sheets ke km) ∨ (a (334 + 5 * i + 3) = 0 ∧ ∃ mn : Nat, ((y = 0 ∧ mn = 0) ∨ (¬ y = 0 ∧ mn = a (334 + 5 * i + 4))) ∧ r = (nI mn).toInt64 ∧ K (dgA a i mn) (cpN kp a (598 * ke) 598) bt sz sheets ((ke + 1) % 20) (kmU km))))
def MP_sheet (a kp bt sz : Nat → Nat) (sheets : Nat → Int32) (ke km : Nat) (x : Int32) (y : Int32) (z : Int32) (r : Int64) (K : Kt) : Prop := ((¬ ∃ s1 b : Nat, (x = nI s1 ∧ y = nI b) ∧ (s1 ≤ 3 ∧ (b = 0 ∨ b = 8 ∨ b = 16 ∨ b = 32))) ∧ r = -1000000001 ∧ K a kp bt sz sheets ke km) ∨ (∃ s1 b : Nat, (x = nI s1 ∧ y = nI b) ∧ (s1 ≤ 3 ∧ (b = 0 ∨ b = 8 ∨ b = 16 ∨ b = 32)) ∧ ((¬ 0 ≤ z ∧ r = -1000000003 ∧ K a kp bt sz sheets ke km) ∨ (0 ≤ z ∧ ¬ z ≤ nI 16 ∧ r = -1000000001 ∧ K a kp bt sz sheets ke km) ∨ (∃ n1 : Nat, z = nI n1 ∧ n1 ≤ 16 ∧ r = (nI (if b = 0 then 0 else n1)).toInt64 ∧ K a kp (upN bt s1 b) (upN sz s1 (if b = 0 then 0 else n1)) (cpI sheets (fun _ => nI 0) (16 * s1) 16) ke km)))
def MP_put (a kp bt sz : Nat → Nat) (sheets : Nat → Int32) (ke km : Nat) (x : Int32) (y : Int32) (z : Int32) (r : Int64) (K : Kt) : Prop := (¬ rg 0 3 x ∧ r = -1000000001 ∧ K a kp bt sz sheets ke km) ∨ (∃ s1 : Nat, (x = nI s1 ∧ s1 ≤ 3) ∧ ((bt s1 = 0 ∧ r = -1000000002 ∧ K a kp bt sz sheets ke km) ∨ (0 < bt s1 ∧ ¬ ix (sz s1) y ∧ r = -1000000001 ∧ K a kp bt sz sheets ke km) ∨ (0 < bt s1 ∧ ∃ i : Nat, y = nI i ∧ i < sz s1 ∧ r = 0 ∧ K a kp bt sz (upd sheets (16 * s1 + i) (wdI (bt s1) z)) ke km)))
def MP_copy (a kp bt sz : Nat → Nat) (sheets : Nat → Int32) (ke km : Nat) (x : Int32) (y : Int32) (u : Int32) (v : Int32) (z : Int32) (r : Int64) (K : Kt) : Prop := (¬ (rg 0 3 x ∧ rg 0 3 u) ∧ r = -1000000001 ∧ K a kp bt sz sheets ke km) ∨ (∃ s1 t1 : Nat, (x = nI s1 ∧ u = nI t1 ∧ s1 ≤ 3 ∧ t1 ≤ 3) ∧ (((bt s1 = 0 ∨ bt t1 = 0) ∧ r = -1000000002 ∧ K a kp bt sz sheets ke km) ∨ (0 < bt s1 ∧ 0 < bt t1 ∧ bt s1 ≠ bt t1 ∧ r = -1000000004 ∧ K a kp bt sz sheets ke km) ∨ (0 < bt s1 ∧ bt s1 = bt t1 ∧ (¬ ∃ f w k : Nat, (y = nI f ∧ v = nI w ∧ z = nI k) ∧ (f + k ≤ sz s1 ∧ w + k ≤ sz t1)) ∧ r = -1000000001 ∧ K a kp bt sz sheets ke km) ∨ (0 < bt s1 ∧ bt s1 = bt t1 ∧ ∃ f w k : Nat, (y = nI f ∧ v = nI w ∧ z = nI k) ∧ f + k ≤ sz s1 ∧ w + k ≤ sz t1 ∧ r = (nI k).toInt64 ∧ K a kp bt sz (cpI sheets (fun j => sheets (16 * s1 + f + j)) (16 * t1 + w) k) ke km)))
def MP_text (a kp bt sz : Nat → Nat) (sheets : Nat → Int32) (ke km : Nat) (x : Int32) (r : Int64) (K : Kt) : Prop := (¬ rg 0 3 x ∧ r = -1000000001 ∧ K a kp bt sz sheets ke km) ∨ (∃ s1 : Nat, (x = nI s1 ∧ s1 ≤ 3) ∧ ((bt s1 = 0 ∧ r = -1000000002 ∧ K a kp bt sz sheets ke km) ∨ (0 < bt s1 ∧ 12 < sz s1 ∧ r = -1000000003 ∧ K a kp bt sz sheets ke km) ∨ (0 < bt s1 ∧ sz s1 ≤ 12 ∧ (¬ ∀ j, j < sz s1 → sgI (sheets (16 * s1 + j))) ∧ r = -1000000001 ∧ K a kp bt sz sheets ke km) ∨ (0 < bt s1 ∧ sz s1 ≤ 12 ∧ (∀ j, j < sz s1 → sgI (sheets (16 * s1 + j))) ∧ r = (nI (sz s1)).toInt64 ∧ K (cpN (upN a 2 (sz s1)) (fun j => tn (sheets (16 * s1 + j))) 322 (sz s1)) (cpN kp a (598 * ke) 598) bt sz sheets ((ke + 1) % 20) (kmU km))))
def MP_undo (a kp bt sz : Nat → Nat) (sheets : Nat → Int32) (ke km : Nat)  (r : Int64) (K : Kt) : Prop := (km = 0 ∧ r = -1000000006 ∧ K a kp bt sz sheets ke km) ∨ (0 < km ∧ r = (nI (km - 1)).toInt64 ∧ K (cpN a (fun j => kp (598 * ((ke + 20 - 1) % 20) + j)) 0 598) kp bt sz sheets ((ke + 20 - 1) % 20) (km - 1))
theorem jn_picture {a kp bt sz : Nat → Nat} {sheets : Nat → Int32} {ke km : Nat}  {r1 r2 : Int64} {K1 K2 : Kt} (hok : okA a) (hsz : ∀ i, i < 4 → sz i ≤ 16) (h1 : MP_picture a kp bt sz sheets ke km  r1 K1) (h2 : MP_picture a kp bt sz sheets ke km  r2 K2) : r1 = r2 ∧ ∃ (a2 kp2 bt2 sz2 : Nat → Nat) (sh2 : Nat → Int32) (ke2 km2 : Nat), K1 a2 kp2 bt2 sz2 sh2 ke2 km2 ∧ K2 a2 kp2 bt2 sz2 sh2 ke2 km2 := by
  obtain ⟨b0, b1, b2, b3⟩ := hok.1
  rcases h1 with ⟨c1, e1, k1⟩ | ⟨c1, e1, k1⟩ <;> rcases h2 with ⟨c2, e2, k2⟩ | ⟨c2, e2, k2⟩
  · exact ⟨by rw [e1, e2], _, _, _, _, _, _, _, k1, k2⟩
  · omega
  · omega
  · exact ⟨by rw [e1, e2], _, _, _, _, _, _, _, k1, k2⟩
theorem jn_blank {a kp bt sz : Nat → Nat} {sheets : Nat → Int32} {ke km : Nat}  {r1 r2 : Int64} {K1 K2 : Kt} (hok : okA a) (hsz : ∀ i, i < 4 → sz i ≤ 16) (h1 : MP_blank a kp bt sz sheets ke km  r1 K1) (h2 : MP_blank a kp bt sz sheets ke km  r2 K2) : r1 = r2 ∧ ∃ (a2 kp2 bt2 sz2 : Nat → Nat) (sh2 : Nat → Int32) (ke2 km2 : Nat), K1 a2 kp2 bt2 sz2 sh2 ke2 km2 ∧ K2 a2 kp2 bt2 sz2 sh2 ke2 km2 := by
  obtain ⟨b0, b1, b2, b3⟩ := hok.1
  obtain ⟨e1, k1⟩ := h1
  obtain ⟨e2, k2⟩ := h2
  exact ⟨by rw [e1, e2], _, _, _, _, _, _, _, k1, k2⟩
theorem jn_undo {a kp bt sz : Nat → Nat} {sheets : Nat → Int32} {ke km : Nat}  {r1 r2 : Int64} {K1 K2 : Kt} (hok : okA a) (hsz : ∀ i, i < 4 → sz i ≤ 16) (h1 : MP_undo a kp bt sz sheets ke km  r1 K1) (h2 : MP_undo a kp bt sz sheets ke km  r2 K2) : r1 = r2 ∧ ∃ (a2 kp2 bt2 sz2 : Nat → Nat) (sh2 : Nat → Int32) (ke2 km2 : Nat), K1 a2 kp2 bt2 sz2 sh2 ke2 km2 ∧ K2 a2 kp2 bt2 sz2 sh2 ke2 km2 := by
  obtain ⟨b0, b1, b2, b3⟩ := hok.1
  rcases h1 with ⟨c1, e1, k1⟩ | ⟨c1, e1, k1⟩ <;> rcases h2 with ⟨c2, e2, k2⟩ | ⟨c2, e2, k2⟩
  · exact ⟨by rw [e1, e2], _, _, _, _, _, _, _, k1, k2⟩
  · omega
  · omega
  · exact ⟨by rw [e1, e2], _, _, _, _, _, _, _, k1, k2⟩
theorem jn_place {a kp bt sz : Nat → Nat} {sheets : Nat → Int32} {ke km : Nat} {pi : Int32} {u : Int32} {v : Int32} {x : Int32} {y : Int32} {r1 r2 : Int64} {K1 K2 : Kt} (hok : okA a) (hsz : ∀ i, i < 4 → sz i ≤ 16) (h1 : MP_place a kp bt sz sheets ke km pi u v x y r1 K1) (h2 : MP_place a kp bt sz sheets ke km pi u v x y r2 K2) : r1 = r2 ∧ ∃ (a2 kp2 bt2 sz2 : Nat → Nat) (sh2 : Nat → Int32) (ke2 km2 : Nat), K1 a2 kp2 bt2 sz2 sh2 ke2 km2 ∧ K2 a2 kp2 bt2 sz2 sh2 ke2 km2 := by
  obtain ⟨b0, b1, b2, b3⟩ := hok.1
  rcases h1 with ⟨c1, e1, k1⟩ | ⟨i, u1, v1, x1, y1, ⟨p1, p2, p3, p4, p5, g1, g2, g3, g4, g5⟩, h1⟩ <;> rcases h2 with ⟨c2, e2, k2⟩ | ⟨i', u1', v1', x1', y1', ⟨p1', p2', p3', p4', p5', g1', g2', g3', g4', g5'⟩, h2⟩
  · exact ⟨by rw [e1, e2], _, _, _, _, _, _, _, k1, k2⟩
  · exact absurd (by rw [p1', p2', p3', p4', p5']; exact ⟨ix_nI g1' (by omega), rg_nI (Nat.zero_le _) g2' (by decide), rg_nI (Nat.zero_le _) g3' (by decide), rg_nI (Nat.zero_le _) g4' (by decide), rg_nI (Nat.zero_le _) g5' (by decide)⟩) c1
  · exact absurd (by rw [p1, p2, p3, p4, p5]; exact ⟨ix_nI g1 (by omega), rg_nI (Nat.zero_le _) g2 (by decide), rg_nI (Nat.zero_le _) g3 (by decide), rg_nI (Nat.zero_le _) g4 (by decide), rg_nI (Nat.zero_le _) g5 (by decide)⟩) c2
  · have q1 := nI_inj7 (by omega) (by omega) (p1.symm.trans p1'); have q2 := nI_inj7 (by omega) (by omega) (p2.symm.trans p2'); have q3 := nI_inj7 (by omega) (by omega) (p3.symm.trans p3'); have q4 := nI_inj7 (by omega) (by omega) (p4.symm.trans p4'); have q5 := nI_inj7 (by omega) (by omega) (p5.symm.trans p5')
    subst q1; subst q2; subst q3; subst q4; subst q5
    rcases h1 with ⟨c1, e1, k1⟩ | ⟨c1, e1, k1⟩ <;> rcases h2 with ⟨c2, e2, k2⟩ | ⟨c2, e2, k2⟩
    · exact ⟨by rw [e1, e2], _, _, _, _, _, _, _, k1, k2⟩
    · omega
    · omega
    · exact ⟨by rw [e1, e2], _, _, _, _, _, _, _, k1, k2⟩
theorem jn_unplace {a kp bt sz : Nat → Nat} {sheets : Nat → Int32} {ke km : Nat} {pi : Int32} {r1 r2 : Int64} {K1 K2 : Kt} (hok : okA a) (hsz : ∀ i, i < 4 → sz i ≤ 16) (h1 : MP_unplace a kp bt sz sheets ke km pi r1 K1) (h2 : MP_unplace a kp bt sz sheets ke km pi r2 K2) : r1 = r2 ∧ ∃ (a2 kp2 bt2 sz2 : Nat → Nat) (sh2 : Nat → Int32) (ke2 km2 : Nat), K1 a2 kp2 bt2 sz2 sh2 ke2 km2 ∧ K2 a2 kp2 bt2 sz2 sh2 ke2 km2 := by
  obtain ⟨b0, b1, b2, b3⟩ := hok.1
  rcases h1 with ⟨c1, e1, k1⟩ | ⟨i, ⟨p1, g1⟩, h1⟩ <;> rcases h2 with ⟨c2, e2, k2⟩ | ⟨i', ⟨p1', g1'⟩, h2⟩
  · exact ⟨by rw [e1, e2], _, _, _, _, _, _, _, k1, k2⟩
  · exact absurd (by rw [p1']; exact ix_nI g1' (by omega)) c1
  · exact absurd (by rw [p1]; exact ix_nI g1 (by omega)) c2
  · have q1 := nI_inj7 (by omega) (by omega) (p1.symm.trans p1')
    subst q1
    rcases h1 with ⟨c1, e1, k1⟩ | ⟨c1, e1, k1⟩ <;> rcases h2 with ⟨c2, e2, k2⟩ | ⟨c2, e2, k2⟩
    · exact ⟨by rw [e1, e2], _, _, _, _, _, _, _, k1, k2⟩
    · omega
    · omega
    · exact ⟨by rw [e1, e2], _, _, _, _, _, _, _, k1, k2⟩
theorem mkN_b {n i k u v s g : Nat} (h : mkN n i k u v s g) : i < n ∧ k ≤ 3 ∧ u ≤ 999 ∧ v ≤ 999 ∧ s ≤ 99 ∧ g ≤ 15 := by
  unfold mkN at h
  omega
theorem jn_mark {a kp bt sz : Nat → Nat} {sheets : Nat → Int32} {ke km : Nat} {pi : Int32} {ki : Int32} {u : Int32} {v : Int32} {si : Int32} {ga : Int32} {r1 r2 : Int64} {K1 K2 : Kt} (hok : okA a) (hsz : ∀ i, i < 4 → sz i ≤ 16) (h1 : MP_mark a kp bt sz sheets ke km pi ki u v si ga r1 K1) (h2 : MP_mark a kp bt sz sheets ke km pi ki u v si ga r2 K2) : r1 = r2 ∧ ∃ (a2 kp2 bt2 sz2 : Nat → Nat) (sh2 : Nat → Int32) (ke2 km2 : Nat), K1 a2 kp2 bt2 sz2 sh2 ke2 km2 ∧ K2 a2 kp2 bt2 sz2 sh2 ke2 km2 := by
  obtain ⟨b0, b1, b2, b3⟩ := hok.1
  rcases h1 with ⟨c1, e1, k1⟩ | ⟨i, k, u1, v1, s1, g1, ⟨p1, p2, p3, p4, p5, p6⟩, hm, h1⟩ <;> rcases h2 with ⟨c2, e2, k2⟩ | ⟨i', k', u1', v1', s1', g1', ⟨p1', p2', p3', p4', p5', p6'⟩, hm', h2⟩
  · exact ⟨by rw [e1, e2], _, _, _, _, _, _, _, k1, k2⟩
  · exact absurd ⟨_, _, _, _, _, _, ⟨p1', p2', p3', p4', p5', p6'⟩, hm'⟩ c1
  · exact absurd ⟨_, _, _, _, _, _, ⟨p1, p2, p3, p4, p5, p6⟩, hm⟩ c2
  · obtain ⟨m1, m2, m3, m4, m5, m6⟩ := mkN_b hm
    obtain ⟨n1, n2, n3, n4, n5, n6⟩ := mkN_b hm'
    have q1 := nI_inj7 (by omega) (by omega) (p1.symm.trans p1'); have q2 := nI_inj7 (by omega) (by omega) (p2.symm.trans p2'); have q3 := nI_inj7 (by omega) (by omega) (p3.symm.trans p3'); have q4 := nI_inj7 (by omega) (by omega) (p4.symm.trans p4'); have q5 := nI_inj7 (by omega) (by omega) (p5.symm.trans p5'); have q6 := nI_inj7 (by omega) (by omega) (p6.symm.trans p6')
    subst q1; subst q2; subst q3; subst q4; subst q5; subst q6
    rcases h1 with ⟨c1, e1, k1⟩ | ⟨c1, e1, k1⟩ <;> rcases h2 with ⟨c2, e2, k2⟩ | ⟨c2, e2, k2⟩
    · exact ⟨by rw [e1, e2], _, _, _, _, _, _, _, k1, k2⟩
    · omega
    · omega
    · exact ⟨by rw [e1, e2], _, _, _, _, _, _, _, k1, k2⟩
theorem jn_sign {a kp bt sz : Nat → Nat} {sheets : Nat → Int32} {ke km : Nat} {v : Int32} {r1 r2 : Int64} {K1 K2 : Kt} (hok : okA a) (hsz : ∀ i, i < 4 → sz i ≤ 16) (h1 : MP_sign a kp bt sz sheets ke km v r1 K1) (h2 : MP_sign a kp bt sz sheets ke km v r2 K2) : r1 = r2 ∧ ∃ (a2 kp2 bt2 sz2 : Nat → Nat) (sh2 : Nat → Int32) (ke2 km2 : Nat), K1 a2 kp2 bt2 sz2 sh2 ke2 km2 ∧ K2 a2 kp2 bt2 sz2 sh2 ke2 km2 := by
  obtain ⟨b0, b1, b2, b3⟩ := hok.1
  rcases h1 with ⟨c1, e1, k1⟩ | ⟨i, ⟨p1, g1⟩, h1⟩ <;> rcases h2 with ⟨c2, e2, k2⟩ | ⟨i', ⟨p1', g1'⟩, h2⟩
  · exact ⟨by rw [e1, e2], _, _, _, _, _, _, _, k1, k2⟩
  · exact absurd (by rw [p1']; exact sgI_nI7 g1') c1
  · exact absurd (by rw [p1]; exact sgI_nI7 g1) c2
  · have q1 := nI_inj7 (by omega) (by omega) (p1.symm.trans p1')
    subst q1
    rcases h1 with ⟨c1, e1, k1⟩ | ⟨c1, e1, k1⟩ <;> rcases h2 with ⟨c2, e2, k2⟩ | ⟨c2, e2, k2⟩
    · exact ⟨by rw [e1, e2], _, _, _, _, _, _, _, k1, k2⟩
    · omega
    · omega
    · exact ⟨by rw [e1, e2], _, _, _, _, _, _, _, k1, k2⟩
theorem jn_field {a kp bt sz : Nat → Nat} {sheets : Nat → Int32} {ke km : Nat} {x : Int32} {y : Int32} {z : Int32} {r1 r2 : Int64} {K1 K2 : Kt} (hok : okA a) (hsz : ∀ i, i < 4 → sz i ≤ 16) (h1 : MP_field a kp bt sz sheets ke km x y z r1 K1) (h2 : MP_field a kp bt sz sheets ke km x y z r2 K2) : r1 = r2 ∧ ∃ (a2 kp2 bt2 sz2 : Nat → Nat) (sh2 : Nat → Int32) (ke2 km2 : Nat), K1 a2 kp2 bt2 sz2 sh2 ke2 km2 ∧ K2 a2 kp2 bt2 sz2 sh2 ke2 km2 := by
  obtain ⟨b0, b1, b2, b3⟩ := hok.1
  rcases h1 with ⟨c1, e1, k1⟩ | ⟨so, ch, ho, ⟨p1, p2, p3, g1, g2, g3, g4, g5⟩, h1⟩ <;> rcases h2 with ⟨c2, e2, k2⟩ | ⟨so', ch', ho', ⟨p1', p2', p3', g1', g2', g3', g4', g5'⟩, h2⟩
  · exact ⟨by rw [e1, e2], _, _, _, _, _, _, _, k1, k2⟩
  · exact absurd (by rw [p1', p2', p3']; exact ⟨rg_nI (Nat.zero_le _) g1' (by decide), rg_nI g2' g3' (by decide), rg_nI g4' g5' (by decide)⟩) c1
  · exact absurd (by rw [p1, p2, p3]; exact ⟨rg_nI (Nat.zero_le _) g1 (by decide), rg_nI g2 g3 (by decide), rg_nI g4 g5 (by decide)⟩) c2
  · have q1 := nI_inj7 (by omega) (by omega) (p1.symm.trans p1'); have q2 := nI_inj7 (by omega) (by omega) (p2.symm.trans p2'); have q3 := nI_inj7 (by omega) (by omega) (p3.symm.trans p3')
    subst q1; subst q2; subst q3
    rcases h1 with ⟨c1, e1, k1⟩ | ⟨c1, e1, k1⟩ <;> rcases h2 with ⟨c2, e2, k2⟩ | ⟨c2, e2, k2⟩
    · exact ⟨by rw [e1, e2], _, _, _, _, _, _, _, k1, k2⟩
    · omega
    · omega
    · exact ⟨by rw [e1, e2], _, _, _, _, _, _, _, k1, k2⟩
theorem jn_look {a kp bt sz : Nat → Nat} {sheets : Nat → Int32} {ke km : Nat} {fd : Int32} {x : Int32} {y : Int32} {z : Int32} {r1 r2 : Int64} {K1 K2 : Kt} (hok : okA a) (hsz : ∀ i, i < 4 → sz i ≤ 16) (h1 : MP_look a kp bt sz sheets ke km fd x y z r1 K1) (h2 : MP_look a kp bt sz sheets ke km fd x y z r2 K2) : r1 = r2 ∧ ∃ (a2 kp2 bt2 sz2 : Nat → Nat) (sh2 : Nat → Int32) (ke2 km2 : Nat), K1 a2 kp2 bt2 sz2 sh2 ke2 km2 ∧ K2 a2 kp2 bt2 sz2 sh2 ke2 km2 := by
  obtain ⟨b0, b1, b2, b3⟩ := hok.1
  rcases h1 with ⟨c1, e1, k1⟩ | ⟨i, cr, dr, ⟨p1, p2, p3, g1, g2, g3⟩, h1⟩ <;> rcases h2 with ⟨c2, e2, k2⟩ | ⟨i', cr', dr', ⟨p1', p2', p3', g1', g2', g3'⟩, h2⟩
  · exact ⟨by rw [e1, e2], _, _, _, _, _, _, _, k1, k2⟩
  · exact absurd (by rw [p1', p2', p3']; exact ⟨ix_nI g1' (by omega), rg_nI (Nat.zero_le _) g2' (by decide), rg_nI (Nat.zero_le _) g3' (by decide)⟩) c1
  · exact absurd (by rw [p1, p2, p3]; exact ⟨ix_nI g1 (by omega), rg_nI (Nat.zero_le _) g2 (by decide), rg_nI (Nat.zero_le _) g3 (by decide)⟩) c2
  · have q1 := nI_inj7 (by omega) (by omega) (p1.symm.trans p1'); have q2 := nI_inj7 (by omega) (by omega) (p2.symm.trans p2'); have q3 := nI_inj7 (by omega) (by omega) (p3.symm.trans p3')
    subst q1; subst q2; subst q3
    rcases h1 with ⟨c1, e1, k1⟩ | ⟨c1, c3, e1, k1⟩ | ⟨c1, c3, e1, k1⟩ <;> rcases h2 with ⟨c2, e2, k2⟩ | ⟨c2, c4, e2, k2⟩ | ⟨c2, c4, e2, k2⟩ <;> first | omega | (exact ⟨by rw [e1, e2], _, _, _, _, _, _, _, k1, k2⟩)
theorem jn_dig {a kp bt sz : Nat → Nat} {sheets : Nat → Int32} {ke km : Nat} {x : Int32} {y : Int32} {r1 r2 : Int64} {K1 K2 : Kt} (hok : okA a) (hsz : ∀ i, i < 4 → sz i ≤ 16) (h1 : MP_dig a kp bt sz sheets ke km x y r1 K1) (h2 : MP_dig a kp bt sz sheets ke km x y r2 K2) : r1 = r2 ∧ ∃ (a2 kp2 bt2 sz2 : Nat → Nat) (sh2 : Nat → Int32) (ke2 km2 : Nat), K1 a2 kp2 bt2 sz2 sh2 ke2 km2 ∧ K2 a2 kp2 bt2 sz2 sh2 ke2 km2 := by
  obtain ⟨b0, b1, b2, b3⟩ := hok.1
  rcases h1 with ⟨c1, e1, k1⟩ | ⟨i, ⟨p1, g1⟩, h1⟩ <;> rcases h2 with ⟨c2, e2, k2⟩ | ⟨i', ⟨p1', g1'⟩, h2⟩
  · exact ⟨by rw [e1, e2], _, _, _, _, _, _, _, k1, k2⟩
  · exact absurd (by rw [p1']; exact ix_nI g1' (by omega)) c1
  · exact absurd (by rw [p1]; exact ix_nI g1 (by omega)) c2
  · have q1 := nI_inj7 (by omega) (by omega) (p1.symm.trans p1')
    subst q1
    rcases h1 with ⟨c1, e1, k1⟩ | ⟨c1, mn, hm, e1, k1⟩ <;> rcases h2 with ⟨c2, e2, k2⟩ | ⟨c2, mn', hm', e2, k2⟩
    · exact ⟨by rw [e1, e2], _, _, _, _, _, _, _, k1, k2⟩
    · omega
    · omega
    · have q2 : mn = mn' := by
        rcases hm with ⟨z1, z2⟩ | ⟨z1, z2⟩ <;> rcases hm' with ⟨z3, z4⟩ | ⟨z3, z4⟩
        · omega
        · exact absurd z1 z3
        · exact absurd z3 z1
        · omega
      subst q2
      exact ⟨by rw [e1, e2], _, _, _, _, _, _, _, k1, k2⟩
theorem jn_sheet {a kp bt sz : Nat → Nat} {sheets : Nat → Int32} {ke km : Nat} {x : Int32} {y : Int32} {z : Int32} {r1 r2 : Int64} {K1 K2 : Kt} (hok : okA a) (hsz : ∀ i, i < 4 → sz i ≤ 16) (h1 : MP_sheet a kp bt sz sheets ke km x y z r1 K1) (h2 : MP_sheet a kp bt sz sheets ke km x y z r2 K2) : r1 = r2 ∧ ∃ (a2 kp2 bt2 sz2 : Nat → Nat) (sh2 : Nat → Int32) (ke2 km2 : Nat), K1 a2 kp2 bt2 sz2 sh2 ke2 km2 ∧ K2 a2 kp2 bt2 sz2 sh2 ke2 km2 := by
  obtain ⟨b0, b1, b2, b3⟩ := hok.1
  rcases h1 with ⟨c1, e1, k1⟩ | ⟨s1, b, ⟨p1, p2⟩, g1, h1⟩ <;> rcases h2 with ⟨c2, e2, k2⟩ | ⟨s1', b', ⟨p1', p2'⟩, g1', h2⟩
  · exact ⟨by rw [e1, e2], _, _, _, _, _, _, _, k1, k2⟩
  · exact absurd ⟨_, _, ⟨p1', p2'⟩, g1'⟩ c1
  · exact absurd ⟨_, _, ⟨p1, p2⟩, g1⟩ c2
  · have q1 := nI_inj7 (by omega) (by omega) (p1.symm.trans p1'); have q2 := nI_inj7 (by omega) (by omega) (p2.symm.trans p2')
    subst q1; subst q2
    rcases h1 with ⟨c1, e1, k1⟩ | ⟨c1, c3, e1, k1⟩ | ⟨n1, p3, c3, e1, k1⟩ <;> rcases h2 with ⟨c2, e2, k2⟩ | ⟨c2, c4, e2, k2⟩ | ⟨n2, p3', c4, e2, k2⟩
    · exact ⟨by rw [e1, e2], _, _, _, _, _, _, _, k1, k2⟩
    · exact absurd c2 c1
    · exact absurd (by rw [p3']; exact nI_pos' (by omega)) c1
    · exact absurd c1 c2
    · exact ⟨by rw [e1, e2], _, _, _, _, _, _, _, k1, k2⟩
    · exact absurd (by rw [p3']; exact nI_le (by omega) (by decide)) c3
    · exact absurd (by rw [p3]; exact nI_pos' (by omega)) c2
    · exact absurd (by rw [p3]; exact nI_le (by omega) (by decide)) c4
    · have q3 := nI_inj7 (by omega) (by omega) (p3.symm.trans p3')
      subst q3
      exact ⟨by rw [e1, e2], _, _, _, _, _, _, _, k1, k2⟩
theorem jn_put {a kp bt sz : Nat → Nat} {sheets : Nat → Int32} {ke km : Nat} {x : Int32} {y : Int32} {z : Int32} {r1 r2 : Int64} {K1 K2 : Kt} (hok : okA a) (hsz : ∀ i, i < 4 → sz i ≤ 16) (h1 : MP_put a kp bt sz sheets ke km x y z r1 K1) (h2 : MP_put a kp bt sz sheets ke km x y z r2 K2) : r1 = r2 ∧ ∃ (a2 kp2 bt2 sz2 : Nat → Nat) (sh2 : Nat → Int32) (ke2 km2 : Nat), K1 a2 kp2 bt2 sz2 sh2 ke2 km2 ∧ K2 a2 kp2 bt2 sz2 sh2 ke2 km2 := by
  obtain ⟨b0, b1, b2, b3⟩ := hok.1
  rcases h1 with ⟨c1, e1, k1⟩ | ⟨i, ⟨p1, g1⟩, h1⟩ <;> rcases h2 with ⟨c2, e2, k2⟩ | ⟨i', ⟨p1', g1'⟩, h2⟩
  · exact ⟨by rw [e1, e2], _, _, _, _, _, _, _, k1, k2⟩
  · exact absurd (by rw [p1']; exact rg_nI (Nat.zero_le _) g1' (by decide)) c1
  · exact absurd (by rw [p1]; exact rg_nI (Nat.zero_le _) g1 (by decide)) c2
  · have q1 := nI_inj7 (by omega) (by omega) (p1.symm.trans p1')
    subst q1
    have hz := hsz i (by omega)
    rcases h1 with ⟨c1, e1, k1⟩ | ⟨c1, c3, e1, k1⟩ | ⟨c1, n1, p3, c3, e1, k1⟩ <;> rcases h2 with ⟨c2, e2, k2⟩ | ⟨c2, c4, e2, k2⟩ | ⟨c2, n2, p3', c4, e2, k2⟩
    · exact ⟨by rw [e1, e2], _, _, _, _, _, _, _, k1, k2⟩
    · omega
    · omega
    · omega
    · exact ⟨by rw [e1, e2], _, _, _, _, _, _, _, k1, k2⟩
    · exact absurd (by rw [p3']; exact ix_nI c4 (by omega)) c3
    · omega
    · exact absurd (by rw [p3]; exact ix_nI c3 (by omega)) c4
    · have q3 := nI_inj7 (by omega) (by omega) (p3.symm.trans p3')
      subst q3
      exact ⟨by rw [e1, e2], _, _, _, _, _, _, _, k1, k2⟩
theorem jn_copy {a kp bt sz : Nat → Nat} {sheets : Nat → Int32} {ke km : Nat} {x : Int32} {y : Int32} {u : Int32} {v : Int32} {z : Int32} {r1 r2 : Int64} {K1 K2 : Kt} (hok : okA a) (hsz : ∀ i, i < 4 → sz i ≤ 16) (h1 : MP_copy a kp bt sz sheets ke km x y u v z r1 K1) (h2 : MP_copy a kp bt sz sheets ke km x y u v z r2 K2) : r1 = r2 ∧ ∃ (a2 kp2 bt2 sz2 : Nat → Nat) (sh2 : Nat → Int32) (ke2 km2 : Nat), K1 a2 kp2 bt2 sz2 sh2 ke2 km2 ∧ K2 a2 kp2 bt2 sz2 sh2 ke2 km2 := by
  obtain ⟨b0, b1, b2, b3⟩ := hok.1
  rcases h1 with ⟨c1, e1, k1⟩ | ⟨i, t, ⟨p1, p2, g1, g2⟩, h1⟩ <;> rcases h2 with ⟨c2, e2, k2⟩ | ⟨i', t', ⟨p1', p2', g1', g2'⟩, h2⟩
  · exact ⟨by rw [e1, e2], _, _, _, _, _, _, _, k1, k2⟩
  · exact absurd (by rw [p1', p2']; exact ⟨rg_nI (Nat.zero_le _) g1' (by decide), rg_nI (Nat.zero_le _) g2' (by decide)⟩) c1
  · exact absurd (by rw [p1, p2]; exact ⟨rg_nI (Nat.zero_le _) g1 (by decide), rg_nI (Nat.zero_le _) g2 (by decide)⟩) c2
  · have q1 := nI_inj7 (by omega) (by omega) (p1.symm.trans p1'); have q2 := nI_inj7 (by omega) (by omega) (p2.symm.trans p2')
    subst q1; subst q2
    have hz := hsz i (by omega)
    have hz2 := hsz t (by omega)
    rcases h1 with ⟨c1, e1, k1⟩ | ⟨c1, c3, c5, e1, k1⟩ | ⟨c1, c3, c5, e1, k1⟩ | ⟨c1, c3, f, w, k, ⟨y1, y2, y3⟩, c5, c7, e1, k1⟩ <;> rcases h2 with ⟨c2, e2, k2⟩ | ⟨c2, c4, c6, e2, k2⟩ | ⟨c2, c4, c6, e2, k2⟩ | ⟨c2, c4, f', w', k', ⟨y1', y2', y3'⟩, c6, c8, e2, k2⟩
    · exact ⟨by rw [e1, e2], _, _, _, _, _, _, _, k1, k2⟩
    · omega
    · omega
    · omega
    · omega
    · exact ⟨by rw [e1, e2], _, _, _, _, _, _, _, k1, k2⟩
    · omega
    · omega
    · omega
    · omega
    · exact ⟨by rw [e1, e2], _, _, _, _, _, _, _, k1, k2⟩
    · exact absurd ⟨_, _, _, ⟨y1', y2', y3'⟩, c6, c8⟩ c5
    · omega
    · omega
    · exact absurd ⟨_, _, _, ⟨y1, y2, y3⟩, c5, c7⟩ c6
    · have q3 := nI_inj7 (by omega) (by omega) (y1.symm.trans y1'); have q4 := nI_inj7 (by omega) (by omega) (y2.symm.trans y2'); have q5 := nI_inj7 (by omega) (by omega) (y3.symm.trans y3')
      subst q3; subst q4; subst q5
      exact ⟨by rw [e1, e2], _, _, _, _, _, _, _, k1, k2⟩
theorem jn_text {a kp bt sz : Nat → Nat} {sheets : Nat → Int32} {ke km : Nat} {x : Int32} {r1 r2 : Int64} {K1 K2 : Kt} (hok : okA a) (hsz : ∀ i, i < 4 → sz i ≤ 16) (h1 : MP_text a kp bt sz sheets ke km x r1 K1) (h2 : MP_text a kp bt sz sheets ke km x r2 K2) : r1 = r2 ∧ ∃ (a2 kp2 bt2 sz2 : Nat → Nat) (sh2 : Nat → Int32) (ke2 km2 : Nat), K1 a2 kp2 bt2 sz2 sh2 ke2 km2 ∧ K2 a2 kp2 bt2 sz2 sh2 ke2 km2 := by
  obtain ⟨b0, b1, b2, b3⟩ := hok.1
  rcases h1 with ⟨c1, e1, k1⟩ | ⟨i, ⟨p1, g1⟩, h1⟩ <;> rcases h2 with ⟨c2, e2, k2⟩ | ⟨i', ⟨p1', g1'⟩, h2⟩
  · exact ⟨by rw [e1, e2], _, _, _, _, _, _, _, k1, k2⟩
  · exact absurd (by rw [p1']; exact rg_nI (Nat.zero_le _) g1' (by decide)) c1
  · exact absurd (by rw [p1]; exact rg_nI (Nat.zero_le _) g1 (by decide)) c2
  · have q1 := nI_inj7 (by omega) (by omega) (p1.symm.trans p1')
    subst q1
    rcases h1 with ⟨c1, e1, k1⟩ | ⟨c1, c3, e1, k1⟩ | ⟨c1, c3, c5, e1, k1⟩ | ⟨c1, c3, c5, e1, k1⟩ <;> rcases h2 with ⟨c2, e2, k2⟩ | ⟨c2, c4, e2, k2⟩ | ⟨c2, c4, c6, e2, k2⟩ | ⟨c2, c4, c6, e2, k2⟩ <;> first | omega | exact absurd c6 c5 | exact absurd c5 c6 | (exact ⟨by rw [e1, e2], _, _, _, _, _, _, _, k1, k2⟩)
