theorem mkI_of {n i k u v s g : Nat} (h : mkN n i k u v s g) : mkI (nI k) (nI s) (nI g) := by
  obtain ⟨h1, h2, h3, h4, h5, h6, h7, h8⟩ := h
  by_cases hr : k = 1 ∨ k = 3
  · exact (mkI_r h2 hr).mpr ⟨rg_nI (h7 hr) h5 (by decide), rg_nI (Nat.zero_le _) h6 (by decide)⟩
  · obtain ⟨rfl, rfl⟩ := h8 hr
    exact (mkI_n h2 hr).mpr ⟨rfl, rfl⟩
def padU (pad : Nat → Nat → Nat) (n a0 a1 a2 a3 a4 a5 a6 : Nat) : Nat → Nat → Nat := fun q j => if j = n then (if q = 0 then a0 else if q = 1 then a1 else if q = 2 then a2 else if q = 3 then a3 else if q = 4 then a4 else if q = 5 then a5 else a6) else pad q j
theorem padU_n {pad : Nat → Nat → Nat} {n a0 a1 a2 a3 a4 a5 a6 q j : Nat} (h : j ≠ n) : padU pad n a0 a1 a2 a3 a4 a5 a6 q j = pad q j := if_neg h
theorem padU_s (pad : Nat → Nat → Nat) (n a0 a1 a2 a3 a4 a5 a6 q : Nat) : padU pad n a0 a1 a2 a3 a4 a5 a6 q n = (if q = 0 then a0 else if q = 1 then a1 else if q = 2 then a2 else if q = 3 then a3 else if q = 4 then a4 else if q = 5 then a5 else a6) := if_pos rfl
def pfU (PF : Nat → Nat → Nat → Nat) (i : Nat) (f0 f1 f2 f3 : Nat → Nat) : Nat → Nat → Nat → Nat := fun q j => if j = i then (if q = 0 then f0 else if q = 1 then f1 else if q = 2 then f2 else f3) else PF q j
theorem pfU_n {PF : Nat → Nat → Nat → Nat} {i : Nat} {f0 f1 f2 f3 : Nat → Nat} {q j : Nat} (h : j ≠ i) : pfU PF i f0 f1 f2 f3 q j = PF q j := if_neg h
theorem pfU_s (PF : Nat → Nat → Nat → Nat) (i : Nat) (f0 f1 f2 f3 : Nat → Nat) (q : Nat) : pfU PF i f0 f1 f2 f3 q i = (if q = 0 then f0 else if q = 1 then f1 else if q = 2 then f2 else f3) := if_pos rfl
theorem pc_zero (F T : Nat → Nat) : lZ (vBs F T 0) = 0 ∧ lZ (vSl F T 0) = 0 ∧ lZ (vSp F 0) = 0 ∧ lN (vWo F T 0) = 0 := ⟨rfl, rfl, rfl, rfl⟩
theorem pc_new {cy : Nat → ClassId} {pad : Nat → Nat → Nat} {PF : Nat → Nat → Nat → Nat} {a a' : Nat → Nat} {a0 a1 a2 a3 a4 a5 a6 : Nat} (h0 : a' (4 + a 0) = 0) (ha : ∀ j, j < a 0 → a' (4 + j) = a (4 + j)) : (pcPl cy pad PF a (a 0) ++ ([(a0, .inr (7, [.int (nI (a 0)), .ref a1, .ref a4])), (a1, .inr (4, [.ref a2, .ref a3, .int (nI 0), .long 0, .long 0, .long 0, .long 0, .long 0])), (a2, .inl (cy 0, 8, .inl (nA (fun _ => 0)))), (a3, .inl (cy 0, 8, .inl (nA (fun _ => 0)))), (a4, .inr (4, [.ref a5, .ref a6, .int (nI 0), .long 0, .long 0, .long 0, .long 0, .long 0])), (a5, .inl (cy 0, 8, .inl (nA (fun _ => 0)))), (a6, .inl (cy 0, 8, .inl (nA (fun _ => 0))))] : va_W)).Perm (pcPl cy (padU pad (a 0) a0 a1 a2 a3 a4 a5 a6) (pfU PF (a 0) (fun _ => 0) (fun _ => 0) (fun _ => 0) (fun _ => 0)) a' (a 0 + 1)) := by
  have e : pcPl cy (padU pad (a 0) a0 a1 a2 a3 a4 a5 a6) (pfU PF (a 0) (fun _ => 0) (fun _ => 0) (fun _ => 0) (fun _ => 0)) a' (a 0) = pcPl cy pad PF a (a 0) := pc_cong ha (fun j hj q => pfU_n (by omega)) (fun j hj q => padU_n (by omega))
  rw [← e, pcPl, pcPl, pool_push]
  refine List.Perm.append_left _ ?_
  have z := fun F T => pc_zero F T
  simp only [pcC, padU_s, pfU_s, h0, if_true, if_false, (pc_zero _ _).1, (pc_zero _ _).2.1, (pc_zero _ (fun _ => 0)).2.2.1, (pc_zero _ _).2.2.2]
  exact List.Perm.refl _
theorem mk_new {pad : Nat → Nat → Nat} {ka a a' : Nat → Nat} {q0 m0 m1 m2 m3 m4 m5 : Nat} (h : a' (202 + 6 * a 1) = m0 ∧ a' (202 + 6 * a 1 + 1) = m1 ∧ a' (202 + 6 * a 1 + 2) = m2 ∧ a' (202 + 6 * a 1 + 3) = m3 ∧ a' (202 + 6 * a 1 + 4) = m4 ∧ a' (202 + 6 * a 1 + 5) = m5) (ha : ∀ j, j < a 1 → ∀ q, q < 6 → a' (202 + 6 * j + q) = a (202 + 6 * j + q)) : (mkPl pad ka a (a 1) ++ ([(q0, .inr (5, [.ref (pad 0 m0), .int (nI m1), .int (nI m2), .int (nI m3), .int (nI m4), .int (nI m5)]))] : va_W)).Perm (mkPl pad (upN ka (a 1) q0) a' (a 1 + 1)) := by
  obtain ⟨e0, e1, e2, e3, e4, e5⟩ := h
  have e : mkPl pad (upN ka (a 1) q0) a' (a 1) = mkPl pad ka a (a 1) := mk_cong ha (fun j hj => upN_n (by omega)) (fun _ _ => rfl)
  rw [← e, mkPl, mkPl, pool_push]
  refine List.Perm.append_left _ ?_
  simp only [mkC, upN_s, e0, e1, e2, e3, e4, e5]
  exact List.Perm.refl _
def fadU (fad : Nat → Nat → Nat) (n b0 b1 b2 b3 : Nat) : Nat → Nat → Nat := fun q j => if j = n then (if q = 0 then b0 else if q = 1 then b1 else if q = 2 then b2 else b3) else fad q j
theorem fadU_n {fad : Nat → Nat → Nat} {n b0 b1 b2 b3 q j : Nat} (h : j ≠ n) : fadU fad n b0 b1 b2 b3 q j = fad q j := if_neg h
theorem fadU_s (fad : Nat → Nat → Nat) (n b0 b1 b2 b3 q : Nat) : fadU fad n b0 b1 b2 b3 q n = (if q = 0 then b0 else if q = 1 then b1 else if q = 2 then b2 else b3) := if_pos rfl
def lfU (LF : Nat → Nat → Nat → Nat) (i : Nat) (l0 l1 l2 : Nat → Nat) : Nat → Nat → Nat → Nat := fun q j => if j = i then (if q = 0 then l0 else if q = 1 then l1 else l2) else LF q j
theorem lfU_n {LF : Nat → Nat → Nat → Nat} {i : Nat} {l0 l1 l2 : Nat → Nat} {q j : Nat} (h : j ≠ i) : lfU LF i l0 l1 l2 q j = LF q j := if_neg h
theorem lfU_s (LF : Nat → Nat → Nat → Nat) (i : Nat) (l0 l1 l2 : Nat → Nat) (q : Nat) : lfU LF i l0 l1 l2 q i = (if q = 0 then l0 else if q = 1 then l1 else l2) := if_pos rfl
theorem fl_new {cy : Nat → ClassId} {fad : Nat → Nat → Nat} {fo : Nat → Nat} {LF : Nat → Nat → Nat → Nat} {a a' : Nat → Nat} {b0 b1 b2 b3 so ch ho : Nat} (h : a' (334 + 5 * a 3) = so ∧ a' (334 + 5 * a 3 + 1) = ch ∧ a' (334 + 5 * a 3 + 2) = ho ∧ a' (334 + 5 * a 3 + 3) = 0 ∧ a' (334 + 5 * a 3 + 4) = 0) (ha : ∀ j, j < a 3 → ∀ q, q < 5 → a' (334 + 5 * j + q) = a (334 + 5 * j + q)) : (flPa cy fad fo LF a (a 3) ++ ([(b0, .inr (0, [.int (nI so), .int (nI ch), .int (nI ho), .ref b1, .ref b2, .ref b3, .int (nI 0), .int (nI 0), .int (nI 0)])), (b1, .inl (cy 0, 4, .inl (nA (fun _ => 0)))), (b2, .inl (cy 0, 4, .inl (nA (fun _ => 0)))), (b3, .inl (cy 2, 4, .inl (nA (fun _ => 0))))] : va_W)).Perm (flPa cy (fadU fad (a 3) b0 b1 b2 b3) (upN fo (a 3) 0) (lfU LF (a 3) (fun _ => 0) (fun _ => 0) (fun _ => 0)) a' (a 3 + 1)) := by
  obtain ⟨e0, e1, e2, e3, e4⟩ := h
  have e : flPa cy (fadU fad (a 3) b0 b1 b2 b3) (upN fo (a 3) 0) (lfU LF (a 3) (fun _ => 0) (fun _ => 0) (fun _ => 0)) a' (a 3) = flPa cy fad fo LF a (a 3) := fl_cong ha (fun j hj => upN_n (by omega)) (fun j hj q => lfU_n (by omega)) (fun j hj q => fadU_n (by omega))
  rw [← e, flPa, flPa, flP, flP, pool_push]
  refine List.Perm.append_left _ ?_
  simp only [flC, fadU_s, lfU_s, upN_s, e0, e1, e2, e3, e4, if_true, if_false]
  exact List.Perm.refl _
theorem va_up_s (f : Nat → Option Nat) (i : Nat) (v : Option Nat) : va_up f i v i = v := by simp [va_up]
theorem va_up_n {f : Nat → Option Nat} {i j : Nat} {v : Option Nat} (h : j ≠ i) : va_up f i v j = f j := by simp [va_up, h]
set_option maxHeartbeats 4000000 in
set_option maxRecDepth 100000 in
theorem ik_picture (l : Launch) (D : va_G) {cy : Nat → ClassId} {d0 : Nat} {a kp bt sz : Nat → Nat} {sheets : Nat → Int32} {ke km : Nat} {w : va_W} (hI : IvD cy d0 a kp bt sz sheets ke km w)  : kq_l l D (cT cy) yX11_picture wsX11_picture 3 7 51 55 [.ref d0] w (fun r w1 => MP_picture a kp bt sz sheets ke km  r (fun a kp bt sz sheets ke km => IvD cy d0 a kp bt sz sheets ke km w1)) := by
  obtain ⟨x, PA, MA, FQ, HA, SQ, gt, gn, bs, bh, fnd, bg, GG, GB, GC, SG, RO, UP, LO, HO, V0, GA, ha, za, sa, ra, AC, WH, ka, fo, RW, NU, pad, fad, PF, LF, gb, hw, hpt, hct, hax, hsh, hhs⟩ := hI
  obtain ⟨⟨b0, b1, b2, b3⟩, opl, omk, osg, ofd, osh, oz⟩ := id hhs.ok
  have hpc : pcR PF a (a 0) := fun i hi => ⟨opl i hi, hct.1 i hi⟩
  have hma : maR a (a 0) (a 1) := omk
  have h20 := hhs.1
  have hk20 := hhs.2.1
  have hs20 := hpt.2.2.2.2 ke h20
  refine nk_l (qX11_picture l D cy  d0 (x 1) (a 0) (x 2) (a 1) (x 3) (x 7) (x 10) (a 3) (x 11) (x 14) (x 17) (x 18) fnd PA (x 19) ke km SQ (sa ke) (AC ke) (WH ke) (ra ke) (RW ke)  h20 hk20 hs20 b0) (hw.trans (pm_b0T bp_0x1x18x19 (st_get (i := ke) h20))) (Nat.le_of_ble_eq_true rfl) (Nat.le_of_ble_eq_true rfl) (Nat.le_of_ble_eq_true rfl) (Nat.le_of_ble_eq_true rfl) (fun r w1 h => ⟨_, List.Perm.refl _, ?_⟩)
  rcases h with ⟨g, e, rfl⟩ | ⟨g, e, a0, a1, a2, a3, a4, a5, a6, rfl⟩
  · exact .inl ⟨g, e, ⟨x, PA, MA, FQ, HA, SQ, gt, gn, bs, bh, _, bg, GG, GB, GC, SG, RO, UP, LO, HO, V0, GA, ha, za, sa, ra, AC, WH, ka, fo, RW, NU, pad, fad, PF, LF, gb, (pm_b0T bp_0x1x18x19 (st_get (i := ke) h20)).symm, hpt, hct, hax, hsh, hhs⟩⟩
  · refine .inr ⟨g, e, ?_⟩
    exact IvD_mk cy d0 (a 0 + 1) (a 1) (a 3) (a 2) ((ke + 1) % 20) (min (km + 1) 20) x (va_up PA (a 0) (some a0)) MA FQ HA SQ gt gn bs bh fnd bg GG GB GC SG RO UP LO HO V0 GA ha za sa ra (upN AC ke 0) (upN WH ke (a 0)) ka fo (upR RW ke ((RW ke))) NU (padU pad (a 0) a0 a1 a2 a3 a4 a5 a6) fad (pfU PF (a 0) (fun _ => 0) (fun _ => 0) (fun _ => 0) (fun _ => 0)) LF gb ((pm_b0TNP bp_0x1x18x19 (st_put h20 0 (a 0) ((RW ke))))).symm rfl ((pi_e (by decide) (by omega)).symm) ((pi_e (by decide) (by omega)).symm) ((pi_e (by decide) (by omega)).symm) rfl (kmU_min hk20) (pEq (by rw [pi_e (a := a) (k := 1) (by decide) (by omega)]; exact (mk_cong (fun j hj q hq => pi_e (by omega) (by omega)) (fun _ _ => rfl) (fun j hj => padU_n (by have := (omk j hj).1; omega))).symm)) (pc_new (pi_4 a) (fun j hj => pi_e (by omega) (by omega))) (pEq (by rw [pi_e (a := a) (k := 3) (by decide) (by omega)]; exact (fl_cong (fun j hj q hq => pi_e (by omega) (by omega)) (fun _ _ => rfl) (fun _ _ _ => rfl) (fun _ _ _ => rfl)).symm)) ⟨fun i hi => by rw [pi_0] at hi; by_cases q : i = a 0; rw [q, va_up_s, padU_s]; rfl; rw [va_up_n q, padU_n q]; exact hpt.1 i (by omega), fun i hi => hpt.2.1 i (by rw [← pi_e (a := a) (by decide) (by omega)]; exact hi), fun i hi => hpt.2.2.1 i (by rw [← pi_e (a := a) (by decide) (by omega)]; exact hi), hpt.2.2.2⟩ ⟨fun i hi k hk j hj => by rw [pi_0] at hi; by_cases q : i = a 0; rw [q, pi_4] at hk; omega; rw [pi_e (by omega) (by omega)] at hk; have := (opl i (by omega)).1; rw [pfU_n q, pi_e (by omega) (by omega)]; exact hct.1 i (by omega) k hk j hj, cS hct.2.1 b2 (pi_e (by decide) (by omega)) (fun k _ _ => pi_e (by omega) (by omega)), cF hct.2.2.1 ofd b3 (pi_e (by decide) (by omega)) (fun k _ _ => pi_e (by omega) (by omega)), cT_ hct.2.2.2.1 (fun k _ _ => pi_e (by omega) (by omega)), hct.2.2.2.2⟩ hax hsh (hhs.push (ok_pi hhs.ok g) (.inl ⟨rfl, g, rfl⟩) (fun _ _ _ => rfl) (fun i hi hd => ⟨by rw [pi_e (by decide) (by omega)]; exact hi, by rw [pi_e (by omega) (by omega)]; exact hd⟩) (fun q => absurd q (by decide)))
theorem ct_pl {a : Nat → Nat} {PF : Nat → Nat → Nat → Nat} {i u v x y : Nat} (h : ∀ i, i < a 0 → ∀ k, k < a (4 + i) → ∀ j, j < 4 → PF j i k = a (10 + 32 * i + 4 * k + j)) (opl : ∀ i, i < a 0 → plOk a i) (b0 : a 0 ≤ 6) (hi : i < a 0) (h8 : a (4 + i) < 8) : ∀ i', i' < plA a i u v x y 0 → ∀ k, k < plA a i u v x y (4 + i') → ∀ j, j < 4 → pfU PF i (upN (PF 0 i) (a (4 + i)) u) (upN (PF 1 i) (a (4 + i)) v) (upN (PF 2 i) (a (4 + i)) x) (upN (PF 3 i) (a (4 + i)) y) j i' k = plA a i u v x y (10 + 32 * i' + 4 * k + j) := fun i' hi' k hk j hj => by
  rw [pl_e (by omega) (by omega)] at hi'
  by_cases q : i' = i
  · subst q
    rw [pl_4] at hk
    by_cases q2 : k = a (4 + i')
    · subst q2
      rw [pfU_s, pl_j (u := u) (v := v) (x := x) (y := y) hj (show i' < 6 by omega) (fo4 u v x y) rfl rfl rfl rfl]
      rcases (show j = 0 ∨ j = 1 ∨ j = 2 ∨ j = 3 by omega) with rfl | rfl | rfl | rfl
      · exact upN_s
      · exact upN_s
      · exact upN_s
      · exact upN_s
    · have e := h i' hi' k (by omega) j hj
      rw [pfU_s, pl_e (by omega) (by omega), ← e]
      rcases (show j = 0 ∨ j = 1 ∨ j = 2 ∨ j = 3 by omega) with rfl | rfl | rfl | rfl
      · exact upN_n q2
      · exact upN_n q2
      · exact upN_n q2
      · exact upN_n q2
  · rw [pl_e (by omega) (by omega)] at hk
    have := (opl i' hi').1
    rw [pfU_n q, pl_e (by omega) (by omega)]
    exact h i' hi' k hk j hj
theorem ct_un {a : Nat → Nat} {PF : Nat → Nat → Nat → Nat} {i n : Nat} (h : ∀ i, i < a 0 → ∀ k, k < a (4 + i) → ∀ j, j < 4 → PF j i k = a (10 + 32 * i + 4 * k + j)) (b0 : a 0 ≤ 6) (hi : i < a 0) (hn : n ≤ a (4 + i)) : ∀ i', i' < upN a (4 + i) n 0 → ∀ k, k < upN a (4 + i) n (4 + i') → ∀ j, j < 4 → PF j i' k = upN a (4 + i) n (10 + 32 * i' + 4 * k + j) := fun i' hi' k hk j hj => by
  rw [upN_n (by omega)] at hi'
  rw [upN_n (by omega)]
  by_cases q : i' = i
  · subst q
    rw [upN_s] at hk
    exact h i' hi' k (by omega) j hj
  · rw [upN_n (by omega)] at hk
    exact h i' hi' k hk j hj
theorem ct_si {a SG : Nat → Nat} {v : Nat} (h : ∀ k, k < a 2 → SG k = a (322 + k)) : ∀ k, k < siA a v 2 → upN SG (a 2) v k = siA a v (322 + k) := fun k hk => by
  rw [si_2] at hk
  by_cases q : k = a 2
  · rw [q, upN_s, si_v]
  · rw [upN_n q, si_e (by omega) (by omega)]
    exact h k (by omega)
theorem ct_lo {a : Nat → Nat} {LF : Nat → Nat → Nat → Nat} {i cr dr z : Nat} (h : ∀ i, i < a 3 → ∀ k, k < a (334 + 5 * i + 4) → ∀ j, j < 3 → LF j i k = a (374 + 12 * i + 3 * k + j)) (ofd : ∀ i, i < a 3 → fdOk a i) (b3 : a 3 ≤ 8) (hi : i < a 3) (h4 : a (334 + 5 * i + 4) < 4) : ∀ i', i' < loA a i cr dr z 3 → ∀ k, k < loA a i cr dr z (334 + 5 * i' + 4) → ∀ j, j < 3 → lfU LF i (upN (LF 0 i) (a (334 + 5 * i + 4)) cr) (upN (LF 1 i) (a (334 + 5 * i + 4)) dr) (upN (LF 2 i) (a (334 + 5 * i + 4)) z) j i' k = loA a i cr dr z (374 + 12 * i' + 3 * k + j) := fun i' hi' k hk j hj => by
  rw [lo_e (by omega) (by omega)] at hi'
  by_cases q : i' = i
  · subst q
    rw [lo_4] at hk
    by_cases q2 : k = a (334 + 5 * i' + 4)
    · subst q2
      obtain ⟨v0, v1, v2⟩ := lo_v (s := a) (cr := cr) (dr := dr) (z := z) (show i' < 8 by omega)
      rw [lfU_s]
      rcases (show j = 0 ∨ j = 1 ∨ j = 2 by omega) with rfl | rfl | rfl
      · exact upN_s.trans v0.symm
      · exact upN_s.trans v1.symm
      · exact upN_s.trans v2.symm
    · have e := h i' hi' k (by omega) j hj
      rw [lfU_s, lo_e (by omega) (by omega), ← e]
      rcases (show j = 0 ∨ j = 1 ∨ j = 2 by omega) with rfl | rfl | rfl
      · exact upN_n q2
      · exact upN_n q2
      · exact upN_n q2
  · rw [lo_e (by omega) (by omega)] at hk
    have := (ofd i' hi').2.2.2.2.1
    rw [lfU_n q, lo_e (by omega) (by omega)]
    exact h i' hi' k hk j hj
theorem hsz_of {bt sz : Nat → Nat} {sheets : Nat → Int32} {NU : Nat → Nat → Int32} (h : Shs bt sz sheets NU) : ∀ i, i < 4 → sz i ≤ 16 ∧ (bt i = 0 ∨ bt i = 8 ∨ bt i = 16 ∨ bt i = 32) := fun i hi => (h i hi).1
set_option maxHeartbeats 4000000 in
set_option maxRecDepth 100000 in
theorem ik_place (l : Launch) (D : va_G) {cy : Nat → ClassId} {d0 : Nat} {a kp bt sz : Nat → Nat} {sheets : Nat → Int32} {ke km : Nat} {w : va_W} (hI : IvD cy d0 a kp bt sz sheets ke km w) (p0 : Int32) (p1 : Int32) (p2 : Int32) (p3 : Int32) (p4 : Int32) : kq_l l D (cT cy) yX11_place wsX11_place 5 0 0 126 [.ref d0, .int p0, .int p1, .int p2, .int p3, .int p4] w (fun r w1 => MP_place a kp bt sz sheets ke km p0 p1 p2 p3 p4 r (fun a kp bt sz sheets ke km => IvD cy d0 a kp bt sz sheets ke km w1)) := by
  obtain ⟨x, PA, MA, FQ, HA, SQ, gt, gn, bs, bh, fnd, bg, GG, GB, GC, SG, RO, UP, LO, HO, V0, GA, ha, za, sa, ra, AC, WH, ka, fo, RW, NU, pad, fad, PF, LF, gb, hw, hpt, hct, hax, hsh, hhs⟩ := hI
  obtain ⟨⟨b0, b1, b2, b3⟩, opl, omk, osg, ofd, osh, oz⟩ := id hhs.ok
  have hpc : pcR PF a (a 0) := fun i hi => ⟨opl i hi, hct.1 i hi⟩
  have hma : maR a (a 0) (a 1) := omk
  have h20 := hhs.1
  have hk20 := hhs.2.1
  have hs20 := hpt.2.2.2.2 ke h20
  by_cases hx : ix (a 0) p0
  · obtain ⟨i, hi, rfl⟩ := ix_of8 hx (by omega)
    refine nk_l (qX11_place_y l D cy  d0 (x 1) (a 0) (x 2) (a 1) (x 3) (x 7) (x 10) (a 3) (x 11) (x 14) (x 17) (x 18) fnd PA (pad 0 i) i (pad 1 i) (pad 4 i) (pad 2 i) (pad 3 i) (a (4 + i)) (PF 0 i) (PF 2 i) (pad 5 i) (pad 6 i) (PF 1 i) (PF 3 i) (x 19) ke km SQ (sa ke) (AC ke) (WH ke) (ra ke) (RW ke) i p1 p2 p3 p4 hi b0 (hpt.1 i hi) h20 hk20 hs20 (opl i hi).1 (pcR_9 (j := 0) hpc hi (by decide)) (pcR_9 (j := 2) hpc hi (by decide)) (pcR_9 (j := 1) hpc hi (by decide)) (pcR_9 (j := 3) hpc hi (by decide))) (hw.trans (pm_b0Pb1T bp_0x1_18x19 (st_get (i := ke) h20) (pc_get (i := i) hi))) (Nat.le_of_ble_eq_true rfl) (Nat.le_of_ble_eq_true rfl) (Nat.le_of_ble_eq_true rfl) (Nat.le_of_ble_eq_true rfl) (fun r w1 h => ⟨_, List.Perm.refl _, ?_⟩)
    rcases h with ⟨g, e, rfl⟩ | ⟨u1, v1, x1, y1, ⟨rfl, rfl, rfl, rfl, hu, hv, hx9, hy9⟩, ⟨g, e, rfl⟩ | ⟨g, e, rfl⟩⟩
    · exact .inl ⟨fun h => g h.2, e, ⟨x, PA, MA, FQ, HA, SQ, gt, gn, bs, bh, _, bg, GG, GB, GC, SG, RO, UP, LO, HO, V0, GA, ha, za, sa, ra, AC, WH, ka, fo, RW, NU, pad, fad, PF, LF, gb, (pm_b0Pb1T bp_0x1_18x19 (st_get (i := ke) h20) (pc_get (i := i) hi)).symm, hpt, hct, hax, hsh, hhs⟩⟩
    · exact .inr ⟨i, u1, v1, x1, y1, ⟨rfl, rfl, rfl, rfl, rfl, hi, hu, hv, hx9, hy9⟩, .inl ⟨g, e, ⟨x, PA, MA, FQ, HA, SQ, gt, gn, bs, bh, _, bg, GG, GB, GC, SG, RO, UP, LO, HO, V0, GA, ha, za, sa, ra, AC, WH, ka, fo, RW, NU, pad, fad, PF, LF, gb, (pm_b0Pb1T bp_0x1_18x19 (st_get (i := ke) h20) (pc_get (i := i) hi)).symm, hpt, hct, hax, hsh, hhs⟩⟩⟩
    · refine .inr ⟨i, u1, v1, x1, y1, ⟨rfl, rfl, rfl, rfl, rfl, hi, hu, hv, hx9, hy9⟩, .inr ⟨g, e, ?_⟩⟩
      exact IvD_mk cy d0 (a 0) (a 1) (a 3) (a 2) ((ke + 1) % 20) (min (km + 1) 20) x PA MA FQ HA SQ gt gn bs bh fnd bg GG GB GC SG RO UP LO HO V0 GA ha za sa ra (upN AC ke 1) (upN WH ke i) ka fo (upR RW ke ((RW ke))) NU pad fad (pfU PF i (upN (PF 0 i) (a (4 + i)) u1) (upN (PF 1 i) (a (4 + i)) v1) (upN (PF 2 i) (a (4 + i)) x1) (upN (PF 3 i) (a (4 + i)) y1)) LF gb (pm_b0Pb1T bp_0x1_18x19 (st_put h20 1 i ((RW ke))) (pc_put (a' := (plA a i u1 v1 x1 y1)) (PF' := pfU PF i (upN (PF 0 i) (a (4 + i)) u1) (upN (PF 1 i) (a (4 + i)) v1) (upN (PF 2 i) (a (4 + i)) x1) (upN (PF 3 i) (a (4 + i)) y1)) hi (pl_4 ..) (pfU_s ..) (pfU_s ..) (pfU_s ..) (pfU_s ..) (fun j hj hn => pl_e (by omega) (by omega)) (fun j hj hn q => pfU_n hn))).symm ((pl_e (by omega) (by omega)).symm) ((pl_e (by omega) (by omega)).symm) ((pl_e (by omega) (by omega)).symm) ((pl_e (by omega) (by omega)).symm) rfl (kmU_min hk20) (pEq (by rw [show (plA a i u1 v1 x1 y1) 1 = a 1 from pl_e (by omega) (by omega)]; exact (mk_cong (fun j hj q hq => pl_e (by omega) (by omega)) (fun _ _ => rfl) (fun _ _ => rfl)).symm)) (pEq (by rw [show (plA a i u1 v1 x1 y1) 0 = a 0 from pl_e (by omega) (by omega)])) (pEq (by rw [show (plA a i u1 v1 x1 y1) 3 = a 3 from pl_e (by omega) (by omega)]; exact (fl_cong (fun j hj q hq => pl_e (by omega) (by omega)) (fun _ _ => rfl) (fun _ _ _ => rfl) (fun _ _ _ => rfl)).symm)) (hpt.cg (Nat.le_of_eq (pl_e (by omega) (by omega))) (Nat.le_of_eq (pl_e (by omega) (by omega))) (Nat.le_of_eq (pl_e (by omega) (by omega)))) ⟨ct_pl hct.1 opl b0 hi g, cS hct.2.1 b2 (pl_e (by omega) (by omega)) (fun k _ _ => pl_e (by omega) (by omega)), cF hct.2.2.1 ofd b3 (pl_e (by omega) (by omega)) (fun k _ _ => pl_e (by omega) (by omega)), cT_ hct.2.2.2.1 (fun k _ _ => pl_e (by omega) (by omega)), hct.2.2.2.2⟩ hax hsh (hhs.push (ok_pl hhs.ok hi g hu hv hx9 hy9) (.inr (.inl ⟨rfl, hi, g, u1, v1, x1, y1, rfl⟩)) (fun _ _ _ => rfl) (fun i hi hd => ⟨by rw [pl_e (by omega) (by omega)]; exact hi, by rw [pl_e (by omega) (by omega)]; exact hd⟩) (fun q => absurd q (by decide)))
  · refine nk_l (qX11_place_n l D cy  d0 (x 1) (a 0) (x 2) (a 1) (x 3) (x 7) (x 10) (a 3) (x 11) (x 14) (x 17) (x 18) fnd PA p0 p1 p2 p3 p4 hx) (hw.trans (pm_b0 bp_0x1)) (Nat.le_of_ble_eq_true rfl) (Nat.le_of_ble_eq_true rfl) (Nat.le_of_ble_eq_true rfl) (Nat.le_of_ble_eq_true rfl) (fun r w1 h => ⟨_, List.Perm.refl _, ?_⟩)
    rcases h with ⟨e, rfl⟩
    · exact .inl ⟨fun h => hx h.1, e, ⟨x, PA, MA, FQ, HA, SQ, gt, gn, bs, bh, _, bg, GG, GB, GC, SG, RO, UP, LO, HO, V0, GA, ha, za, sa, ra, AC, WH, ka, fo, RW, NU, pad, fad, PF, LF, gb, (pm_b0 bp_0x1).symm, hpt, hct, hax, hsh, hhs⟩⟩
set_option maxHeartbeats 4000000 in
set_option maxRecDepth 100000 in
theorem ik_unplace (l : Launch) (D : va_G) {cy : Nat → ClassId} {d0 : Nat} {a kp bt sz : Nat → Nat} {sheets : Nat → Int32} {ke km : Nat} {w : va_W} (hI : IvD cy d0 a kp bt sz sheets ke km w) (p0 : Int32) : kq_l l D (cT cy) yX11_unplace wsX11_unplace 5 0 0 120 [.ref d0, .int p0] w (fun r w1 => MP_unplace a kp bt sz sheets ke km p0 r (fun a kp bt sz sheets ke km => IvD cy d0 a kp bt sz sheets ke km w1)) := by
  obtain ⟨x, PA, MA, FQ, HA, SQ, gt, gn, bs, bh, fnd, bg, GG, GB, GC, SG, RO, UP, LO, HO, V0, GA, ha, za, sa, ra, AC, WH, ka, fo, RW, NU, pad, fad, PF, LF, gb, hw, hpt, hct, hax, hsh, hhs⟩ := hI
  obtain ⟨⟨b0, b1, b2, b3⟩, opl, omk, osg, ofd, osh, oz⟩ := id hhs.ok
  have hpc : pcR PF a (a 0) := fun i hi => ⟨opl i hi, hct.1 i hi⟩
  have hma : maR a (a 0) (a 1) := omk
  have h20 := hhs.1
  have hk20 := hhs.2.1
  have hs20 := hpt.2.2.2.2 ke h20
  by_cases hx : ix (a 0) p0
  · obtain ⟨i, hi, rfl⟩ := ix_of8 hx (by omega)
    refine nk_l (qX11_unplace_y l D cy  d0 (x 1) (a 0) (x 2) (a 1) (x 3) (x 7) (x 10) (a 3) (x 11) (x 14) (x 17) (x 18) fnd PA (pad 0 i) i (pad 1 i) (pad 4 i) (pad 2 i) (pad 3 i) (a (4 + i)) (PF 0 i) (PF 2 i) (pad 5 i) (pad 6 i) (PF 1 i) (PF 3 i) (x 19) ke km SQ (sa ke) (AC ke) (WH ke) (ra ke) (RW ke) i hi b0 (hpt.1 i hi) h20 hk20 hs20 (opl i hi).1 (pcR_9 (j := 0) hpc hi (by decide)) (pcR_9 (j := 2) hpc hi (by decide)) (pcR_9 (j := 1) hpc hi (by decide)) (pcR_9 (j := 3) hpc hi (by decide))) (hw.trans (pm_b0Pb1T bp_0x1_18x19 (st_get (i := ke) h20) (pc_get (i := i) hi))) (Nat.le_of_ble_eq_true rfl) (Nat.le_of_ble_eq_true rfl) (Nat.le_of_ble_eq_true rfl) (Nat.le_of_ble_eq_true rfl) (fun r w1 h => ⟨_, List.Perm.refl _, ?_⟩)
    rcases h with ⟨g, e, rfl⟩ | ⟨g, e, rfl⟩
    · exact .inr ⟨i, ⟨rfl, hi⟩, .inl ⟨g, e, ⟨x, PA, MA, FQ, HA, SQ, gt, gn, bs, bh, _, bg, GG, GB, GC, SG, RO, UP, LO, HO, V0, GA, ha, za, sa, ra, AC, WH, ka, fo, RW, NU, pad, fad, PF, LF, gb, (pm_b0Pb1T bp_0x1_18x19 (st_get (i := ke) h20) (pc_get (i := i) hi)).symm, hpt, hct, hax, hsh, hhs⟩⟩⟩
    · refine .inr ⟨i, ⟨rfl, hi⟩, .inr ⟨g, e, ?_⟩⟩
      exact IvD_mk cy d0 (a 0) (a 1) (a 3) (a 2) ((ke + 1) % 20) (min (km + 1) 20) x PA MA FQ HA SQ gt gn bs bh fnd bg GG GB GC SG RO UP LO HO V0 GA ha za sa ra (upN AC ke 2) (upN WH ke i) ka fo (upR RW ke (upN (upN (upN (upN (RW ke) 0 (PF 0 i (a (4 + i) - 1))) 1 (PF 1 i (a (4 + i) - 1))) 2 (PF 2 i (a (4 + i) - 1))) 3 (PF 3 i (a (4 + i) - 1)))) NU pad fad PF LF gb (pm_b0Pb1T bp_0x1_18x19 (st_put h20 2 i (upN (upN (upN (upN (RW ke) 0 (PF 0 i (a (4 + i) - 1))) 1 (PF 1 i (a (4 + i) - 1))) 2 (PF 2 i (a (4 + i) - 1))) 3 (PF 3 i (a (4 + i) - 1)))) (pc_put (a' := (upN a (4 + i) (a (4 + i) - 1))) (PF' := PF) hi upN_s rfl rfl rfl rfl (fun j hj hn => upN_n (by omega)) (fun _ _ _ _ => rfl))).symm ((upN_n (by omega)).symm) ((upN_n (by omega)).symm) ((upN_n (by omega)).symm) ((upN_n (by omega)).symm) rfl (kmU_min hk20) (pEq (by rw [show (upN a (4 + i) (a (4 + i) - 1)) 1 = a 1 from upN_n (by omega)]; exact (mk_cong (fun j hj q hq => upN_n (by omega)) (fun _ _ => rfl) (fun _ _ => rfl)).symm)) (pEq (by rw [show (upN a (4 + i) (a (4 + i) - 1)) 0 = a 0 from upN_n (by omega)])) (pEq (by rw [show (upN a (4 + i) (a (4 + i) - 1)) 3 = a 3 from upN_n (by omega)]; exact (fl_cong (fun j hj q hq => upN_n (by omega)) (fun _ _ => rfl) (fun _ _ _ => rfl) (fun _ _ _ => rfl)).symm)) (hpt.cg (Nat.le_of_eq (upN_n (by omega))) (Nat.le_of_eq (upN_n (by omega))) (Nat.le_of_eq (upN_n (by omega)))) ⟨ct_un hct.1 b0 hi (by omega), cS hct.2.1 b2 (upN_n (by omega)) (fun k _ _ => upN_n (by omega)), cF hct.2.2.1 ofd b3 (upN_n (by omega)) (fun k _ _ => upN_n (by omega)), cT_ hct.2.2.2.1 (fun k _ _ => upN_n (by omega)), hct.2.2.2.2⟩ hax hsh (hhs.push (ok_un hhs.ok hi (by omega)) (.inr (.inr (.inl ⟨rfl, hi, g, rfl, fun j hj => by rcases (show j = 0 ∨ j = 1 ∨ j = 2 ∨ j = 3 by omega) with rfl | rfl | rfl | rfl; exact hct.1 i hi _ (by omega) 0 (by decide); exact hct.1 i hi _ (by omega) 1 (by decide); exact hct.1 i hi _ (by omega) 2 (by decide); exact hct.1 i hi _ (by omega) 3 (by decide)⟩))) (fun _ _ _ => rfl) (fun i hi hd => ⟨by rw [upN_n (by omega)]; exact hi, by rw [upN_n (by omega)]; exact hd⟩) (fun q => absurd q (by decide)))
  · refine nk_l (qX11_unplace_n l D cy  d0 (x 1) (a 0) (x 2) (a 1) (x 3) (x 7) (x 10) (a 3) (x 11) (x 14) (x 17) (x 18) fnd PA p0 hx) (hw.trans (pm_b0 bp_0x1)) (Nat.le_of_ble_eq_true rfl) (Nat.le_of_ble_eq_true rfl) (Nat.le_of_ble_eq_true rfl) (Nat.le_of_ble_eq_true rfl) (fun r w1 h => ⟨_, List.Perm.refl _, ?_⟩)
    rcases h with ⟨e, rfl⟩
    · exact .inl ⟨hx, e, ⟨x, PA, MA, FQ, HA, SQ, gt, gn, bs, bh, _, bg, GG, GB, GC, SG, RO, UP, LO, HO, V0, GA, ha, za, sa, ra, AC, WH, ka, fo, RW, NU, pad, fad, PF, LF, gb, (pm_b0 bp_0x1).symm, hpt, hct, hax, hsh, hhs⟩⟩
set_option maxHeartbeats 4000000 in
set_option maxRecDepth 100000 in
theorem ik_mark (l : Launch) (D : va_G) {cy : Nat → ClassId} {d0 : Nat} {a kp bt sz : Nat → Nat} {sheets : Nat → Int32} {ke km : Nat} {w : va_W} (hI : IvD cy d0 a kp bt sz sheets ke km w) (p0 : Int32) (p1 : Int32) (p2 : Int32) (p3 : Int32) (p4 : Int32) (p5 : Int32) : kq_l l D (cT cy) yX11_mark wsX11_mark 4 1 6 87 [.ref d0, .int p0, .int p1, .int p2, .int p3, .int p4, .int p5] w (fun r w1 => MP_mark a kp bt sz sheets ke km p0 p1 p2 p3 p4 p5 r (fun a kp bt sz sheets ke km => IvD cy d0 a kp bt sz sheets ke km w1)) := by
  obtain ⟨x, PA, MA, FQ, HA, SQ, gt, gn, bs, bh, fnd, bg, GG, GB, GC, SG, RO, UP, LO, HO, V0, GA, ha, za, sa, ra, AC, WH, ka, fo, RW, NU, pad, fad, PF, LF, gb, hw, hpt, hct, hax, hsh, hhs⟩ := hI
  obtain ⟨⟨b0, b1, b2, b3⟩, opl, omk, osg, ofd, osh, oz⟩ := id hhs.ok
  have hpc : pcR PF a (a 0) := fun i hi => ⟨opl i hi, hct.1 i hi⟩
  have hma : maR a (a 0) (a 1) := omk
  have h20 := hhs.1
  have hk20 := hhs.2.1
  have hs20 := hpt.2.2.2.2 ke h20
  by_cases hx : ix (a 0) p0
  · obtain ⟨i, hi, rfl⟩ := ix_of8 hx (by omega)
    refine kk_l (qX11_mark_y l D cy  d0 (x 1) (a 0) (x 2) (a 1) (x 3) (x 7) (x 10) (a 3) (x 11) (x 14) (x 17) (x 18) fnd PA MA (x 19) ke km SQ (sa ke) (AC ke) (WH ke) (ra ke) (RW ke) i p1 p2 p3 p4 p5 (pad 0 i) hi b0 (hpt.1 i hi) h20 hk20 hs20 b1) (hw.trans (pm_b0T bp_0x1x2x18x19 (st_get (i := ke) h20))) (Nat.le_of_ble_eq_true rfl) (Nat.le_of_ble_eq_true rfl) (Nat.le_of_ble_eq_true rfl) (Nat.le_of_ble_eq_true rfl) (fun r w1 h => ⟨_, List.Perm.refl _, ?_⟩)
    rcases h with ⟨g, e, rfl⟩ | ⟨u1, v1, k, s1, g1, ⟨rfl, rfl, rfl, rfl, rfl, hu, hv, hmp⟩, hr⟩
    · exact .inl ⟨fun ⟨_, _, _, _, _, _, ⟨_, q2, q3, q4, q5, q6⟩, hm⟩ => g (by rw [q2, q3, q4, q5, q6]; exact ⟨rg_nI (Nat.zero_le _) (mkN_b hm).2.2.1 (by decide), rg_nI (Nat.zero_le _) (mkN_b hm).2.2.2.1 (by decide), mkI_of hm⟩), e, ⟨x, PA, MA, FQ, HA, SQ, gt, gn, bs, bh, _, bg, GG, GB, GC, SG, RO, UP, LO, HO, V0, GA, ha, za, sa, ra, AC, WH, ka, fo, RW, NU, pad, fad, PF, LF, gb, (pm_b0T bp_0x1x2x18x19 (st_get (i := ke) h20)).symm, hpt, hct, hax, hsh, hhs⟩⟩
    · have hmn : mkN (a 0) i k u1 v1 s1 g1 := ⟨hi, hmp.1, hu, hv, hmp.2.1, hmp.2.2.1, hmp.2.2.2.1, hmp.2.2.2.2⟩
      rcases hr with ⟨g, e, rfl⟩ | ⟨g, e, q0, rfl⟩
      · exact .inr ⟨i, k, u1, v1, s1, g1, ⟨rfl, rfl, rfl, rfl, rfl, rfl⟩, hmn, .inl ⟨g, e, ⟨x, PA, MA, FQ, HA, SQ, gt, gn, bs, bh, _, bg, GG, GB, GC, SG, RO, UP, LO, HO, V0, GA, ha, za, sa, ra, AC, WH, ka, fo, RW, NU, pad, fad, PF, LF, gb, (pm_b0T bp_0x1x2x18x19 (st_get (i := ke) h20)).symm, hpt, hct, hax, hsh, hhs⟩⟩⟩
      · refine .inr ⟨i, k, u1, v1, s1, g1, ⟨rfl, rfl, rfl, rfl, rfl, rfl⟩, hmn, .inr ⟨g, e, ?_⟩⟩
        exact IvD_mk cy d0 (a 0) (a 1 + 1) (a 3) (a 2) ((ke + 1) % 20) (min (km + 1) 20) x PA (va_up MA (a 1) (some q0)) FQ HA SQ gt gn bs bh fnd bg GG GB GC SG RO UP LO HO V0 GA ha za sa ra (upN AC ke 3) (upN WH ke (a 1)) (upN ka (a 1) q0) fo (upR RW ke ((RW ke))) NU pad fad PF LF gb (pm_b0TNM bp_0x1x2x18x19 (st_put h20 3 (a 1) ((RW ke)))).symm ((mr_e (by omega) (by omega)).symm) ((mr_1 ..).symm) ((mr_e (by omega) (by omega)).symm) ((mr_e (by omega) (by omega)).symm) rfl (kmU_min hk20) (mk_new (mr_v a i k u1 v1 s1 g1) (fun j hj q hq => mr_e (by omega) (by omega))) (pEq (by rw [show (mrA a i k u1 v1 s1 g1) 0 = a 0 from mr_e (by omega) (by omega)]; exact (pc_cong (fun j hj => mr_e (by omega) (by omega)) (fun _ _ _ => rfl) (fun _ _ _ => rfl)).symm)) (pEq (by rw [show (mrA a i k u1 v1 s1 g1) 3 = a 3 from mr_e (by omega) (by omega)]; exact (fl_cong (fun j hj q hq => mr_e (by omega) (by omega)) (fun _ _ => rfl) (fun _ _ _ => rfl) (fun _ _ _ => rfl)).symm)) ⟨fun j hj => hpt.1 j (by rw [mr_e (by omega) (by omega)] at hj; exact hj), fun j hj => by rw [mr_1] at hj; by_cases q : j = a 1; rw [q, va_up_s, upN_s]; rw [va_up_n q, upN_n q]; exact hpt.2.1 j (by omega), fun j hj => hpt.2.2.1 j (by rw [mr_e (by omega) (by omega)] at hj; exact hj), hpt.2.2.2⟩ ⟨cP hct.1 opl b0 (mr_e (by omega) (by omega)) (fun k _ _ => mr_e (by omega) (by omega)), cS hct.2.1 b2 (mr_e (by omega) (by omega)) (fun k _ _ => mr_e (by omega) (by omega)), cF hct.2.2.1 ofd b3 (mr_e (by omega) (by omega)) (fun k _ _ => mr_e (by omega) (by omega)), cT_ hct.2.2.2.1 (fun k _ _ => mr_e (by omega) (by omega)), hct.2.2.2.2⟩ hax hsh (hhs.push (ok_mr hhs.ok g hmn) (.inr (.inr (.inr (.inl ⟨rfl, g, i, k, u1, v1, s1, g1, rfl⟩)))) (fun _ _ _ => rfl) (fun i hi hd => ⟨by rw [mr_e (by omega) (by omega)]; exact hi, by rw [mr_e (by omega) (by omega)]; exact hd⟩) (fun q => absurd q (by decide)))
  · refine nk_l (qX11_mark_n l D cy  d0 (x 1) (a 0) (x 2) (a 1) (x 3) (x 7) (x 10) (a 3) (x 11) (x 14) (x 17) (x 18) fnd PA p0 p1 p2 p3 p4 p5 hx) (hw.trans (pm_b0 bp_0x1)) (Nat.le_of_ble_eq_true rfl) (Nat.le_of_ble_eq_true rfl) (Nat.le_of_ble_eq_true rfl) (Nat.le_of_ble_eq_true rfl) (fun r w1 h => ⟨_, List.Perm.refl _, ?_⟩)
    rcases h with ⟨e, rfl⟩
    · exact .inl ⟨fun ⟨_, _, _, _, _, _, ⟨q1, _⟩, hm⟩ => hx (by rw [q1]; exact ix_nI (mkN_b hm).1 (by omega)), e, ⟨x, PA, MA, FQ, HA, SQ, gt, gn, bs, bh, _, bg, GG, GB, GC, SG, RO, UP, LO, HO, V0, GA, ha, za, sa, ra, AC, WH, ka, fo, RW, NU, pad, fad, PF, LF, gb, (pm_b0 bp_0x1).symm, hpt, hct, hax, hsh, hhs⟩⟩
set_option maxHeartbeats 4000000 in
set_option maxRecDepth 100000 in
theorem ik_sign (l : Launch) (D : va_G) {cy : Nat → ClassId} {d0 : Nat} {a kp bt sz : Nat → Nat} {sheets : Nat → Int32} {ke km : Nat} {w : va_W} (hI : IvD cy d0 a kp bt sz sheets ke km w) (p0 : Int32) : kq_l l D (cT cy) yX11_sign wsX11_sign 2 0 0 49 [.ref d0, .int p0] w (fun r w1 => MP_sign a kp bt sz sheets ke km p0 r (fun a kp bt sz sheets ke km => IvD cy d0 a kp bt sz sheets ke km w1)) := by
  obtain ⟨x, PA, MA, FQ, HA, SQ, gt, gn, bs, bh, fnd, bg, GG, GB, GC, SG, RO, UP, LO, HO, V0, GA, ha, za, sa, ra, AC, WH, ka, fo, RW, NU, pad, fad, PF, LF, gb, hw, hpt, hct, hax, hsh, hhs⟩ := hI
  obtain ⟨⟨b0, b1, b2, b3⟩, opl, omk, osg, ofd, osh, oz⟩ := id hhs.ok
  have hpc : pcR PF a (a 0) := fun i hi => ⟨opl i hi, hct.1 i hi⟩
  have hma : maR a (a 0) (a 1) := omk
  have h20 := hhs.1
  have hk20 := hhs.2.1
  have hs20 := hpt.2.2.2.2 ke h20
  refine nk_l (qX11_sign l D cy  d0 (x 1) (a 0) (x 2) (a 1) (x 3) (x 7) (x 10) (a 3) (x 11) (x 14) (x 17) (x 18) fnd (x 8) (a 2) (x 9) SG RO (x 19) ke km SQ (sa ke) (AC ke) (WH ke) (ra ke) (RW ke) p0 h20 hk20 hs20 b2) (hw.trans (pm_b0T bp_0x7x8x9x18x19 (st_get (i := ke) h20))) (Nat.le_of_ble_eq_true rfl) (Nat.le_of_ble_eq_true rfl) (Nat.le_of_ble_eq_true rfl) (Nat.le_of_ble_eq_true rfl) (fun r w1 h => ⟨_, List.Perm.refl _, ?_⟩)
  rcases h with ⟨g, e, rfl⟩ | ⟨j, ⟨rfl, hj⟩, ⟨g, e, rfl⟩ | ⟨g, e, rfl⟩⟩
  · exact .inl ⟨g, e, ⟨x, PA, MA, FQ, HA, SQ, gt, gn, bs, bh, _, bg, GG, GB, GC, SG, RO, UP, LO, HO, V0, GA, ha, za, sa, ra, AC, WH, ka, fo, RW, NU, pad, fad, PF, LF, gb, (pm_b0T bp_0x7x8x9x18x19 (st_get (i := ke) h20)).symm, hpt, hct, hax, hsh, hhs⟩⟩
  · exact .inr ⟨j, ⟨rfl, hj⟩, .inl ⟨g, e, ⟨x, PA, MA, FQ, HA, SQ, gt, gn, bs, bh, _, bg, GG, GB, GC, SG, RO, UP, LO, HO, V0, GA, ha, za, sa, ra, AC, WH, ka, fo, RW, NU, pad, fad, PF, LF, gb, (pm_b0T bp_0x7x8x9x18x19 (st_get (i := ke) h20)).symm, hpt, hct, hax, hsh, hhs⟩⟩⟩
  · refine .inr ⟨j, ⟨rfl, hj⟩, .inr ⟨g, e, ?_⟩⟩
    exact IvD_mk cy d0 (a 0) (a 1) (a 3) (a 2 + 1) ((ke + 1) % 20) (min (km + 1) 20) x PA MA FQ HA SQ gt gn bs bh fnd bg GG GB GC (upN SG (a 2) j) RO UP LO HO V0 GA ha za sa ra (upN AC ke 4) (upN WH ke (a 2)) ka fo (upR RW ke ((RW ke))) NU pad fad PF LF gb (pm_b0T bp_0x7x8x9x18x19 (st_put h20 4 (a 2) ((RW ke)))).symm ((si_e (by omega) (by omega)).symm) ((si_e (by omega) (by omega)).symm) ((si_e (by omega) (by omega)).symm) rfl rfl (kmU_min hk20) (pEq (by rw [show (siA a j) 1 = a 1 from si_e (by omega) (by omega)]; exact (mk_cong (fun j hj q hq => si_e (by omega) (by omega)) (fun _ _ => rfl) (fun _ _ => rfl)).symm)) (pEq (by rw [show (siA a j) 0 = a 0 from si_e (by omega) (by omega)]; exact (pc_cong (fun j hj => si_e (by omega) (by omega)) (fun _ _ _ => rfl) (fun _ _ _ => rfl)).symm)) (pEq (by rw [show (siA a j) 3 = a 3 from si_e (by omega) (by omega)]; exact (fl_cong (fun j hj q hq => si_e (by omega) (by omega)) (fun _ _ => rfl) (fun _ _ _ => rfl) (fun _ _ _ => rfl)).symm)) (hpt.cg (Nat.le_of_eq (si_e (by omega) (by omega))) (Nat.le_of_eq (si_e (by omega) (by omega))) (Nat.le_of_eq (si_e (by omega) (by omega)))) ⟨cP hct.1 opl b0 (si_e (by omega) (by omega)) (fun k _ _ => si_e (by omega) (by omega)), ct_si hct.2.1, cF hct.2.2.1 ofd b3 (si_e (by omega) (by omega)) (fun k _ _ => si_e (by omega) (by omega)), cT_ hct.2.2.2.1 (fun k _ _ => si_e (by omega) (by omega)), hct.2.2.2.2⟩ hax hsh (hhs.push (ok_si hhs.ok g hj) (.inr (.inr (.inr (.inr (.inl ⟨rfl, g, j, rfl⟩))))) (fun _ _ _ => rfl) (fun i hi hd => ⟨by rw [si_e (by omega) (by omega)]; exact hi, by rw [si_e (by omega) (by omega)]; exact hd⟩) (fun q => absurd q (by decide)))
set_option maxHeartbeats 4000000 in
set_option maxRecDepth 100000 in
theorem ik_blank (l : Launch) (D : va_G) {cy : Nat → ClassId} {d0 : Nat} {a kp bt sz : Nat → Nat} {sheets : Nat → Int32} {ke km : Nat} {w : va_W} (hI : IvD cy d0 a kp bt sz sheets ke km w)  : kq_l l D (cT cy) yX11_blank wsX11_blank 2 0 0 51 [.ref d0] w (fun r w1 => MP_blank a kp bt sz sheets ke km  r (fun a kp bt sz sheets ke km => IvD cy d0 a kp bt sz sheets ke km w1)) := by
  obtain ⟨x, PA, MA, FQ, HA, SQ, gt, gn, bs, bh, fnd, bg, GG, GB, GC, SG, RO, UP, LO, HO, V0, GA, ha, za, sa, ra, AC, WH, ka, fo, RW, NU, pad, fad, PF, LF, gb, hw, hpt, hct, hax, hsh, hhs⟩ := hI
  obtain ⟨⟨b0, b1, b2, b3⟩, opl, omk, osg, ofd, osh, oz⟩ := id hhs.ok
  have hpc : pcR PF a (a 0) := fun i hi => ⟨opl i hi, hct.1 i hi⟩
  have hma : maR a (a 0) (a 1) := omk
  have h20 := hhs.1
  have hk20 := hhs.2.1
  have hs20 := hpt.2.2.2.2 ke h20
  refine nk_l (qX11_blank l D cy  d0 (x 1) (a 0) (x 2) (a 1) (x 3) (x 7) (x 10) (a 3) (x 11) (x 14) (x 17) (x 18) fnd (x 8) (a 2) (x 9) SG RO (x 19) ke km SQ (sa ke) (AC ke) (WH ke) (ra ke) (RW ke)  h20 hk20 hs20 b2) (hw.trans (pm_b0T bp_0x7x8x9x18x19 (st_get (i := ke) h20))) (Nat.le_of_ble_eq_true rfl) (Nat.le_of_ble_eq_true rfl) (Nat.le_of_ble_eq_true rfl) (Nat.le_of_ble_eq_true rfl) (fun r w1 h => ⟨_, List.Perm.refl _, ?_⟩)
  rcases h with ⟨e, rfl⟩
  · refine ⟨e, ?_⟩
    exact IvD_mk cy d0 (a 0) (a 1) (a 3) 0 ((ke + 1) % 20) (min (km + 1) 20) x PA MA FQ HA SQ gt gn bs bh fnd bg GG GB GC SG RO UP LO HO V0 GA ha za sa ra (upN AC ke 5) (upN WH ke (a 2)) ka fo (upR RW ke (va_cpy SG (RW ke) 0 0 (a 2))) NU pad fad PF LF gb (pm_b0T bp_0x7x8x9x18x19 (st_put h20 5 (a 2) (va_cpy SG (RW ke) 0 0 (a 2)))).symm ((upN_n (by omega)).symm) ((upN_n (by omega)).symm) ((upN_n (by omega)).symm) rfl rfl (kmU_min hk20) (pEq (by rw [show (upN a 2 0) 1 = a 1 from upN_n (by omega)]; exact (mk_cong (fun j hj q hq => upN_n (by omega)) (fun _ _ => rfl) (fun _ _ => rfl)).symm)) (pEq (by rw [show (upN a 2 0) 0 = a 0 from upN_n (by omega)]; exact (pc_cong (fun j hj => upN_n (by omega)) (fun _ _ _ => rfl) (fun _ _ _ => rfl)).symm)) (pEq (by rw [show (upN a 2 0) 3 = a 3 from upN_n (by omega)]; exact (fl_cong (fun j hj q hq => upN_n (by omega)) (fun _ _ => rfl) (fun _ _ _ => rfl) (fun _ _ _ => rfl)).symm)) (hpt.cg (Nat.le_of_eq (upN_n (by omega))) (Nat.le_of_eq (upN_n (by omega))) (Nat.le_of_eq (upN_n (by omega)))) ⟨cP hct.1 opl b0 (upN_n (by omega)) (fun k _ _ => upN_n (by omega)), fun k hk => absurd hk (by rw [upN_s]; exact Nat.not_lt_zero k), cF hct.2.2.1 ofd b3 (upN_n (by omega)) (fun k _ _ => upN_n (by omega)), cT_ hct.2.2.2.1 (fun k _ _ => upN_n (by omega)), hct.2.2.2.2⟩ hax hsh (hhs.push (ok_bl hhs.ok) (.inr (.inr (.inr (.inr (.inr (.inl ⟨rfl, rfl, fun k hk => by rw [cpy0 hk]; exact hct.2.1 k hk, fun k h1 _ => upN_n h1⟩)))))) (fun _ _ _ => rfl) (fun i hi hd => ⟨by rw [upN_n (by omega)]; exact hi, by rw [upN_n (by omega)]; exact hd⟩) (fun q => absurd q (by decide)))
theorem tn_sg {v : Int32} (h : sgI v) : sg (tn v) := by
  obtain ⟨j, hj, rfl⟩ := sgI_of h
  have : tn (nI j) = j := nI_clamp (by omega)
  rw [this]
  exact hj
set_option maxHeartbeats 4000000 in
set_option maxRecDepth 100000 in
theorem ik_text (l : Launch) (D : va_G) {cy : Nat → ClassId} {d0 : Nat} {a kp bt sz : Nat → Nat} {sheets : Nat → Int32} {ke km : Nat} {w : va_W} (hI : IvD cy d0 a kp bt sz sheets ke km w) (p0 : Int32) : kq_l l D (cT cy) yX11_text wsX11_text 3 0 0 63 [.ref d0, .int p0] w (fun r w1 => MP_text a kp bt sz sheets ke km p0 r (fun a kp bt sz sheets ke km => IvD cy d0 a kp bt sz sheets ke km w1)) := by
  obtain ⟨x, PA, MA, FQ, HA, SQ, gt, gn, bs, bh, fnd, bg, GG, GB, GC, SG, RO, UP, LO, HO, V0, GA, ha, za, sa, ra, AC, WH, ka, fo, RW, NU, pad, fad, PF, LF, gb, hw, hpt, hct, hax, hsh, hhs⟩ := hI
  obtain ⟨⟨b0, b1, b2, b3⟩, opl, omk, osg, ofd, osh, oz⟩ := id hhs.ok
  have hpc : pcR PF a (a 0) := fun i hi => ⟨opl i hi, hct.1 i hi⟩
  have hma : maR a (a 0) (a 1) := omk
  have h20 := hhs.1
  have hk20 := hhs.2.1
  have hs20 := hpt.2.2.2.2 ke h20
  by_cases hx : ix 4 p0
  · obtain ⟨i, hi, rfl⟩ := ix_of8 hx (by decide)
    obtain ⟨z1, z2⟩ := hsh i hi
    have hq : 0 < bt i → ∀ k, k < sz i → (sgI (NU i k) ↔ sgI (sheets (16 * i + k))) ∧ (sgI (NU i k) → NU i k = sheets (16 * i + k)) := fun h0 k hk => srl_sg (by omega) (z2 k (by omega))
    refine nk_l (qX11_text_y l D cy  d0 (x 1) (a 0) (x 2) (a 1) (x 3) (x 7) (x 10) (a 3) (x 11) (x 14) (x 17) (x 18) fnd HA (ha i) (za i) (bt i) (sz i) (NU i) (x 8) (a 2) (x 9) SG RO (x 19) ke km SQ (sa ke) (AC ke) (WH ke) (ra ke) (RW ke) i hi (hpt.2.2.2.1 i hi) h20 hk20 hs20 z1.1 (by omega) b2) (hw.trans (pm_b0Sb1T bp_0x17_7x8x9x18x19 (sh_get (i := i) hi) (st_get (i := ke) h20))) (Nat.le_of_ble_eq_true rfl) (Nat.le_of_ble_eq_true rfl) (Nat.le_of_ble_eq_true rfl) (Nat.le_of_ble_eq_true rfl) (fun r w1 h => ⟨_, List.Perm.refl _, ?_⟩)
    rcases h with ⟨c1, e, rfl⟩ | ⟨c1, c2, e, rfl⟩ | ⟨c1, c2, c3, e, rfl⟩ | ⟨c1, c2, c3, e, rfl⟩
    · exact .inr ⟨i, ⟨rfl, by omega⟩, .inl ⟨c1, e, ⟨x, PA, MA, FQ, HA, SQ, gt, gn, bs, bh, _, bg, GG, GB, GC, SG, RO, UP, LO, HO, V0, GA, ha, za, sa, ra, AC, WH, ka, fo, RW, NU, pad, fad, PF, LF, gb, (pm_b0Sb1T bp_0x17_7x8x9x18x19 (sh_get (i := i) hi) (st_get (i := ke) h20)).symm, hpt, hct, hax, hsh, hhs⟩⟩⟩
    · exact .inr ⟨i, ⟨rfl, by omega⟩, .inr (.inl ⟨c1, c2, e, ⟨x, PA, MA, FQ, HA, SQ, gt, gn, bs, bh, _, bg, GG, GB, GC, SG, RO, UP, LO, HO, V0, GA, ha, za, sa, ra, AC, WH, ka, fo, RW, NU, pad, fad, PF, LF, gb, (pm_b0Sb1T bp_0x17_7x8x9x18x19 (sh_get (i := i) hi) (st_get (i := ke) h20)).symm, hpt, hct, hax, hsh, hhs⟩⟩)⟩
    · exact .inr ⟨i, ⟨rfl, by omega⟩, .inr (.inr (.inl ⟨c1, c2, fun q => c3 (fun j hj => (hq c1 j hj).1.mpr (q j hj)), e, ⟨x, PA, MA, FQ, HA, SQ, gt, gn, bs, bh, _, bg, GG, GB, GC, SG, RO, UP, LO, HO, V0, GA, ha, za, sa, ra, AC, WH, ka, fo, RW, NU, pad, fad, PF, LF, gb, (pm_b0Sb1T bp_0x17_7x8x9x18x19 (sh_get (i := i) hi) (st_get (i := ke) h20)).symm, hpt, hct, hax, hsh, hhs⟩⟩))⟩
    · have hq := hq c1
      have hq2 : ∀ j, j < sz i → sgI (sheets (16 * i + j)) := fun j hj => (hq j hj).1.mp (c3 j hj)
      refine .inr ⟨i, ⟨rfl, by omega⟩, .inr (.inr (.inr ⟨c1, c2, hq2, e, ?_⟩))⟩
      exact IvD_mk cy d0 (a 0) (a 1) (a 3) (sz i) ((ke + 1) % 20) (min (km + 1) 20) x PA MA FQ HA SQ gt gn bs bh fnd bg GG GB GC (va_cpy (fun j => tn (NU i j)) SG 0 0 (sz i)) RO UP LO HO V0 GA ha za sa ra (upN AC ke 5) (upN WH ke (a 2)) ka fo (upR RW ke (va_cpy SG (RW ke) 0 0 (a 2))) NU pad fad PF LF gb (pm_b0Sb1T bp_0x17_7x8x9x18x19 (sh_get (i := i) hi) (st_put h20 5 (a 2) (va_cpy SG (RW ke) 0 0 (a 2)))).symm ((tx_e (by omega) (by omega) (by omega)).symm) ((tx_e (by omega) (by omega) (by omega)).symm) ((tx_e (by omega) (by omega) (by omega)).symm) tx_2.symm rfl (kmU_min hk20) (pEq (by rw [show (cpN (upN a 2 (sz i)) (fun j => tn (sheets (16 * i + j))) 322 (sz i)) 1 = a 1 from tx_e (by omega) (by omega) (by omega)]; exact (mk_cong (fun j hj q hq => tx_e (by omega) (by omega) (by omega)) (fun _ _ => rfl) (fun _ _ => rfl)).symm)) (pEq (by rw [show (cpN (upN a 2 (sz i)) (fun j => tn (sheets (16 * i + j))) 322 (sz i)) 0 = a 0 from tx_e (by omega) (by omega) (by omega)]; exact (pc_cong (fun j hj => tx_e (by omega) (by omega) (by omega)) (fun _ _ _ => rfl) (fun _ _ _ => rfl)).symm)) (pEq (by rw [show (cpN (upN a 2 (sz i)) (fun j => tn (sheets (16 * i + j))) 322 (sz i)) 3 = a 3 from tx_e (by omega) (by omega) (by omega)]; exact (fl_cong (fun j hj q hq => tx_e (by omega) (by omega) (by omega)) (fun _ _ => rfl) (fun _ _ _ => rfl) (fun _ _ _ => rfl)).symm)) (hpt.cg (Nat.le_of_eq (tx_e (by omega) (by omega) (by omega))) (Nat.le_of_eq (tx_e (by omega) (by omega) (by omega))) (Nat.le_of_eq (tx_e (by omega) (by omega) (by omega)))) ⟨cP hct.1 opl b0 (tx_e (by omega) (by omega) (by omega)) (fun k _ _ => tx_e (by omega) (by omega) (by omega)), (fun k hk => by rw [cpy0 (by rw [tx_2] at hk; exact hk), tx_v (by rw [tx_2] at hk; exact hk)]; rw [(hq k (by rw [tx_2] at hk; exact hk)).2 (c3 k (by rw [tx_2] at hk; exact hk))]), cF hct.2.2.1 ofd b3 (tx_e (by omega) (by omega) (by omega)) (fun k _ _ => tx_e (by omega) (by omega) (by omega)), cT_ hct.2.2.2.1 (fun k _ _ => tx_e (by omega) (by omega) (by omega)), hct.2.2.2.2⟩ hax hsh (hhs.push (ok_tx hhs.ok (by rw [tx_2]; exact c2) (fun k hk => by rw [tx_2] at hk; rw [tx_v hk]; exact tn_sg (hq2 k hk)) (fun k h1 h2 => tx_e (by omega) h1 h2)) (.inr (.inr (.inr (.inr (.inr (.inl ⟨rfl, rfl, fun k hk => by rw [cpy0 hk]; exact hct.2.1 k hk, fun k h1 h2 => tx_e (by omega) h1 h2⟩)))))) (fun _ _ _ => rfl) (fun i hi hd => ⟨by rw [tx_e (by omega) (by omega) (by omega)]; exact hi, by rw [tx_e (by omega) (by omega) (by omega)]; exact hd⟩) (fun q => absurd q (by decide)))
  · refine nk_l (qX11_text_n l D cy  d0 (x 1) (a 0) (x 2) (a 1) (x 3) (x 7) (x 10) (a 3) (x 11) (x 14) (x 17) (x 18) fnd HA p0 hx) (hw.trans (pm_b0 bp_0x17)) (Nat.le_of_ble_eq_true rfl) (Nat.le_of_ble_eq_true rfl) (Nat.le_of_ble_eq_true rfl) (Nat.le_of_ble_eq_true rfl) (fun r w1 h => ⟨_, List.Perm.refl _, ?_⟩)
    rcases h with ⟨e, rfl⟩
    · exact .inl ⟨fun h => hx (ix4.mpr h), e, ⟨x, PA, MA, FQ, HA, SQ, gt, gn, bs, bh, _, bg, GG, GB, GC, SG, RO, UP, LO, HO, V0, GA, ha, za, sa, ra, AC, WH, ka, fo, RW, NU, pad, fad, PF, LF, gb, (pm_b0 bp_0x17).symm, hpt, hct, hax, hsh, hhs⟩⟩
set_option maxHeartbeats 4000000 in
set_option maxRecDepth 100000 in
theorem ik_field (l : Launch) (D : va_G) {cy : Nat → ClassId} {d0 : Nat} {a kp bt sz : Nat → Nat} {sheets : Nat → Int32} {ke km : Nat} {w : va_W} (hI : IvD cy d0 a kp bt sz sheets ke km w) (p0 : Int32) (p1 : Int32) (p2 : Int32) : kq_l l D (cT cy) yX11_field wsX11_field 2 4 21 49 [.ref d0, .int p0, .int p1, .int p2] w (fun r w1 => MP_field a kp bt sz sheets ke km p0 p1 p2 r (fun a kp bt sz sheets ke km => IvD cy d0 a kp bt sz sheets ke km w1)) := by
  obtain ⟨x, PA, MA, FQ, HA, SQ, gt, gn, bs, bh, fnd, bg, GG, GB, GC, SG, RO, UP, LO, HO, V0, GA, ha, za, sa, ra, AC, WH, ka, fo, RW, NU, pad, fad, PF, LF, gb, hw, hpt, hct, hax, hsh, hhs⟩ := hI
  obtain ⟨⟨b0, b1, b2, b3⟩, opl, omk, osg, ofd, osh, oz⟩ := id hhs.ok
  have hpc : pcR PF a (a 0) := fun i hi => ⟨opl i hi, hct.1 i hi⟩
  have hma : maR a (a 0) (a 1) := omk
  have h20 := hhs.1
  have hk20 := hhs.2.1
  have hs20 := hpt.2.2.2.2 ke h20
  refine nk_l (qX11_field l D cy  d0 (x 1) (a 0) (x 2) (a 1) (x 3) (x 7) (x 10) (a 3) (x 11) (x 14) (x 17) (x 18) fnd FQ (x 19) ke km SQ (sa ke) (AC ke) (WH ke) (ra ke) (RW ke) p0 p1 p2 h20 hk20 hs20 b3) (hw.trans (pm_b0T bp_0x10x18x19 (st_get (i := ke) h20))) (Nat.le_of_ble_eq_true rfl) (Nat.le_of_ble_eq_true rfl) (Nat.le_of_ble_eq_true rfl) (Nat.le_of_ble_eq_true rfl) (fun r w1 h => ⟨_, List.Perm.refl _, ?_⟩)
  rcases h with ⟨g, e, rfl⟩ | ⟨so, ch, ho, ⟨rfl, rfl, rfl, q1, q2, q3, q4, q5⟩, ⟨g, e, rfl⟩ | ⟨g, e, c0, c1, c2, c3, rfl⟩⟩
  · exact .inl ⟨g, e, ⟨x, PA, MA, FQ, HA, SQ, gt, gn, bs, bh, _, bg, GG, GB, GC, SG, RO, UP, LO, HO, V0, GA, ha, za, sa, ra, AC, WH, ka, fo, RW, NU, pad, fad, PF, LF, gb, (pm_b0T bp_0x10x18x19 (st_get (i := ke) h20)).symm, hpt, hct, hax, hsh, hhs⟩⟩
  · exact .inr ⟨so, ch, ho, ⟨rfl, rfl, rfl, q1, q2, q3, q4, q5⟩, .inl ⟨g, e, ⟨x, PA, MA, FQ, HA, SQ, gt, gn, bs, bh, _, bg, GG, GB, GC, SG, RO, UP, LO, HO, V0, GA, ha, za, sa, ra, AC, WH, ka, fo, RW, NU, pad, fad, PF, LF, gb, (pm_b0T bp_0x10x18x19 (st_get (i := ke) h20)).symm, hpt, hct, hax, hsh, hhs⟩⟩⟩
  · refine .inr ⟨so, ch, ho, ⟨rfl, rfl, rfl, q1, q2, q3, q4, q5⟩, .inr ⟨g, e, ?_⟩⟩
    exact IvD_mk cy d0 (a 0) (a 1) (a 3 + 1) (a 2) ((ke + 1) % 20) (min (km + 1) 20) x PA MA (va_up FQ (a 3) (some c0)) HA SQ gt gn bs bh fnd bg GG GB GC SG RO UP LO HO V0 GA ha za sa ra (upN AC ke 6) (upN WH ke (a 3)) ka (upN fo (a 3) 0) (upR RW ke ((RW ke))) NU pad (fadU fad (a 3) c0 c1 c2 c3) PF (lfU LF (a 3) (fun _ => 0) (fun _ => 0) (fun _ => 0)) gb (pm_b0TNF bp_0x10x18x19 (st_put h20 6 (a 3) ((RW ke)))).symm ((fi_e (by omega) (by omega)).symm) ((fi_e (by omega) (by omega)).symm) ((fi_3 ..).symm) ((fi_e (by omega) (by omega)).symm) rfl (kmU_min hk20) (pEq (by rw [show (fiA a so ch ho) 1 = a 1 from fi_e (by omega) (by omega)]; exact (mk_cong (fun j hj q hq => fi_e (by omega) (by omega)) (fun _ _ => rfl) (fun _ _ => rfl)).symm)) (pEq (by rw [show (fiA a so ch ho) 0 = a 0 from fi_e (by omega) (by omega)]; exact (pc_cong (fun j hj => fi_e (by omega) (by omega)) (fun _ _ _ => rfl) (fun _ _ _ => rfl)).symm)) (fl_new (fi_v a so ch ho) (fun j hj q hq => fi_e (by omega) (by omega))) ⟨fun j hj => hpt.1 j (by rw [fi_e (by omega) (by omega)] at hj; exact hj), fun j hj => hpt.2.1 j (by rw [fi_e (by omega) (by omega)] at hj; exact hj), fun j hj => by rw [fi_3] at hj; by_cases q : j = a 3; rw [q, va_up_s, fadU_s]; rfl; rw [va_up_n q, fadU_n q]; exact hpt.2.2.1 j (by omega), hpt.2.2.2⟩ ⟨cP hct.1 opl b0 (fi_e (by omega) (by omega)) (fun k _ _ => fi_e (by omega) (by omega)), cS hct.2.1 b2 (fi_e (by omega) (by omega)) (fun k _ _ => fi_e (by omega) (by omega)), fun i hi k hk j hj => by rw [fi_3] at hi; by_cases q : i = a 3; rw [q, (fi_v a so ch ho).2.2.2.2] at hk; omega; rw [fi_e (by omega) (by omega)] at hk; have := (ofd i (by omega)).2.2.2.2.1; rw [lfU_n q, fi_e (by omega) (by omega)]; exact hct.2.2.1 i (by omega) k hk j hj, cT_ hct.2.2.2.1 (fun k _ _ => fi_e (by omega) (by omega)), fun i => by simp only [upN]; split; omega; exact hct.2.2.2.2 i⟩ hax hsh (hhs.push (ok_fi hhs.ok g q1 ⟨q2, q3⟩ ⟨q4, q5⟩) (.inr (.inr (.inr (.inr (.inr (.inr (.inl ⟨rfl, g, so, ch, ho, rfl⟩))))))) (fun i hi _ => upN_n (by omega)) (fun i hi hd => ⟨by rw [fi_3]; omega, by rw [fi_e (by omega) (by omega)]; exact hd⟩) (fun q => absurd q (by decide)))
set_option maxHeartbeats 4000000 in
set_option maxRecDepth 100000 in
theorem ik_look (l : Launch) (D : va_G) {cy : Nat → ClassId} {d0 : Nat} {a kp bt sz : Nat → Nat} {sheets : Nat → Int32} {ke km : Nat} {w : va_W} (hI : IvD cy d0 a kp bt sz sheets ke km w) (p0 : Int32) (p1 : Int32) (p2 : Int32) (p3 : Nat) (hz3 : p3 ≤ 1) : kq_l l D (cT cy) yX11_look wsX11_look 2 0 0 49 [.ref d0, .int p0, .int p1, .int p2, .int (nI p3)] w (fun r w1 => MP_look a kp bt sz sheets ke km p0 p1 p2 (nI p3) r (fun a kp bt sz sheets ke km => IvD cy d0 a kp bt sz sheets ke km w1)) := by
  obtain ⟨x, PA, MA, FQ, HA, SQ, gt, gn, bs, bh, fnd, bg, GG, GB, GC, SG, RO, UP, LO, HO, V0, GA, ha, za, sa, ra, AC, WH, ka, fo, RW, NU, pad, fad, PF, LF, gb, hw, hpt, hct, hax, hsh, hhs⟩ := hI
  obtain ⟨⟨b0, b1, b2, b3⟩, opl, omk, osg, ofd, osh, oz⟩ := id hhs.ok
  have hpc : pcR PF a (a 0) := fun i hi => ⟨opl i hi, hct.1 i hi⟩
  have hma : maR a (a 0) (a 1) := omk
  have h20 := hhs.1
  have hk20 := hhs.2.1
  have hs20 := hpt.2.2.2.2 ke h20
  by_cases hx : ix (a 3) p0
  · obtain ⟨i, hi, rfl⟩ := ix_of8 hx (by omega)
    refine nk_l (qX11_look_y l D cy  d0 (x 1) (a 0) (x 2) (a 1) (x 3) (x 7) (x 10) (a 3) (x 11) (x 14) (x 17) (x 18) fnd FQ (fad 0 i) (a (334 + 5 * i)) (a (334 + 5 * i + 1)) (a (334 + 5 * i + 2)) (fad 1 i) (fad 2 i) (fad 3 i) (a (334 + 5 * i + 4)) (a (334 + 5 * i + 3)) (fo i) (LF 0 i) (LF 1 i) (LF 2 i) (x 19) ke km SQ (sa ke) (AC ke) (WH ke) (ra ke) (RW ke) i p1 p2 p3 hi b3 (hpt.2.2.1 i hi) h20 hk20 hs20 (ofd i hi).2.2.2.1 (ofd i hi).2.2.2.2.1 hz3) (hw.trans (pm_b0Fb1T bp_0x10_18x19 (st_get (i := ke) h20) (fl_get (i := i) hi))) (Nat.le_of_ble_eq_true rfl) (Nat.le_of_ble_eq_true rfl) (Nat.le_of_ble_eq_true rfl) (Nat.le_of_ble_eq_true rfl) (fun r w1 h => ⟨_, List.Perm.refl _, ?_⟩)
    rcases h with ⟨g, e, rfl⟩ | ⟨cr, dr, ⟨rfl, rfl, q1, q2⟩, ⟨g, e, rfl⟩ | ⟨g, g2, e, rfl⟩ | ⟨g, g2, e, rfl⟩⟩
    · exact .inl ⟨fun h => g h.2, e, ⟨x, PA, MA, FQ, HA, SQ, gt, gn, bs, bh, _, bg, GG, GB, GC, SG, RO, UP, LO, HO, V0, GA, ha, za, sa, ra, AC, WH, ka, fo, RW, NU, pad, fad, PF, LF, gb, (pm_b0Fb1T bp_0x10_18x19 (st_get (i := ke) h20) (fl_get (i := i) hi)).symm, hpt, hct, hax, hsh, hhs⟩⟩
    · exact .inr ⟨i, cr, dr, ⟨rfl, rfl, rfl, hi, q1, q2⟩, .inl ⟨g, e, ⟨x, PA, MA, FQ, HA, SQ, gt, gn, bs, bh, _, bg, GG, GB, GC, SG, RO, UP, LO, HO, V0, GA, ha, za, sa, ra, AC, WH, ka, fo, RW, NU, pad, fad, PF, LF, gb, (pm_b0Fb1T bp_0x10_18x19 (st_get (i := ke) h20) (fl_get (i := i) hi)).symm, hpt, hct, hax, hsh, hhs⟩⟩⟩
    · exact .inr ⟨i, cr, dr, ⟨rfl, rfl, rfl, hi, q1, q2⟩, .inr (.inl ⟨g, g2, e, ⟨x, PA, MA, FQ, HA, SQ, gt, gn, bs, bh, _, bg, GG, GB, GC, SG, RO, UP, LO, HO, V0, GA, ha, za, sa, ra, AC, WH, ka, fo, RW, NU, pad, fad, PF, LF, gb, (pm_b0Fb1T bp_0x10_18x19 (st_get (i := ke) h20) (fl_get (i := i) hi)).symm, hpt, hct, hax, hsh, hhs⟩⟩)⟩
    · refine .inr ⟨i, cr, dr, ⟨rfl, rfl, rfl, hi, q1, q2⟩, .inr (.inr ⟨g, g2, e, ?_⟩)⟩
      rw [zN_nI hz3]
      exact IvD_mk cy d0 (a 0) (a 1) (a 3) (a 2) ((ke + 1) % 20) (min (km + 1) 20) x PA MA FQ HA SQ gt gn bs bh fnd bg GG GB GC SG RO UP LO HO V0 GA ha za sa ra (upN AC ke 7) (upN WH ke i) ka fo (upR RW ke ((RW ke))) NU pad fad PF (lfU LF i (upN (LF 0 i) (a (334 + 5 * i + 4)) cr) (upN (LF 1 i) (a (334 + 5 * i + 4)) dr) (upN (LF 2 i) (a (334 + 5 * i + 4)) p3)) gb (pm_b0Fb1T bp_0x10_18x19 (st_put h20 7 i ((RW ke))) (fl_put (a' := (loA a i cr dr p3)) (fo' := fo) (LF' := lfU LF i (upN (LF 0 i) (a (334 + 5 * i + 4)) cr) (upN (LF 1 i) (a (334 + 5 * i + 4)) dr) (upN (LF 2 i) (a (334 + 5 * i + 4)) p3)) hi (lo_4 ..) (lo_e (by omega) (by omega)) rfl (lfU_s ..) (lfU_s ..) (lfU_s ..) (fun q hq => lo_e (by omega) (by omega)) (fun j hj hn q hq => lo_e (by omega) (by omega)) (fun _ _ _ => rfl) (fun j hj hn q => lfU_n hn))).symm ((lo_e (by omega) (by omega)).symm) ((lo_e (by omega) (by omega)).symm) ((lo_e (by omega) (by omega)).symm) ((lo_e (by omega) (by omega)).symm) rfl (kmU_min hk20) (pEq (by rw [show (loA a i cr dr p3) 1 = a 1 from lo_e (by omega) (by omega)]; exact (mk_cong (fun j hj q hq => lo_e (by omega) (by omega)) (fun _ _ => rfl) (fun _ _ => rfl)).symm)) (pEq (by rw [show (loA a i cr dr p3) 0 = a 0 from lo_e (by omega) (by omega)]; exact (pc_cong (fun j hj => lo_e (by omega) (by omega)) (fun _ _ _ => rfl) (fun _ _ _ => rfl)).symm)) (pEq (by rw [show (loA a i cr dr p3) 3 = a 3 from lo_e (by omega) (by omega)])) (hpt.cg (Nat.le_of_eq (lo_e (by omega) (by omega))) (Nat.le_of_eq (lo_e (by omega) (by omega))) (Nat.le_of_eq (lo_e (by omega) (by omega)))) ⟨cP hct.1 opl b0 (lo_e (by omega) (by omega)) (fun k _ _ => lo_e (by omega) (by omega)), cS hct.2.1 b2 (lo_e (by omega) (by omega)) (fun k _ _ => lo_e (by omega) (by omega)), ct_lo hct.2.2.1 ofd b3 hi g2, cT_ hct.2.2.2.1 (fun k _ _ => lo_e (by omega) (by omega)), hct.2.2.2.2⟩ hax hsh (hhs.push (ok_lo hhs.ok hi g2 q1 q2 hz3) (.inr (.inr (.inr (.inr (.inr (.inr (.inr (.inl ⟨rfl, hi, g2, cr, dr, p3, rfl⟩)))))))) (fun _ _ _ => rfl) (fun i hi hd => ⟨by rw [lo_e (by omega) (by omega)]; exact hi, by rw [lo_e (by omega) (by omega)]; exact hd⟩) (fun q => absurd q (by decide)))
  · refine nk_l (qX11_look_n l D cy  d0 (x 1) (a 0) (x 2) (a 1) (x 3) (x 7) (x 10) (a 3) (x 11) (x 14) (x 17) (x 18) fnd FQ p0 p1 p2 (nI p3) hx) (hw.trans (pm_b0 bp_0x10)) (Nat.le_of_ble_eq_true rfl) (Nat.le_of_ble_eq_true rfl) (Nat.le_of_ble_eq_true rfl) (Nat.le_of_ble_eq_true rfl) (fun r w1 h => ⟨_, List.Perm.refl _, ?_⟩)
    rcases h with ⟨e, rfl⟩
    · exact .inl ⟨fun h => hx h.1, e, ⟨x, PA, MA, FQ, HA, SQ, gt, gn, bs, bh, _, bg, GG, GB, GC, SG, RO, UP, LO, HO, V0, GA, ha, za, sa, ra, AC, WH, ka, fo, RW, NU, pad, fad, PF, LF, gb, (pm_b0 bp_0x10).symm, hpt, hct, hax, hsh, hhs⟩⟩
theorem cF2 {a a' : Nat → Nat} {LF : Nat → Nat → Nat → Nat} (h : ∀ i, i < a 3 → ∀ k, k < a (334 + 5 * i + 4) → ∀ j, j < 3 → LF j i k = a (374 + 12 * i + 3 * k + j)) (hf : ∀ i, i < a 3 → fdOk a i) (h8 : a 3 ≤ 8) (e3 : a' 3 = a 3) (e4 : ∀ i, i < a 3 → a' (334 + 5 * i + 4) = a (334 + 5 * i + 4)) (e : ∀ k, 374 ≤ k → k < 470 → a' k = a k) : ∀ i, i < a' 3 → ∀ k, k < a' (334 + 5 * i + 4) → ∀ j, j < 3 → LF j i k = a' (374 + 12 * i + 3 * k + j) := fun i hi k hk j hj => by
  rw [e3] at hi
  rw [e4 i hi] at hk
  have := (hf i hi).2.2.2.2.1
  rw [e _ (by omega) (by omega)]
  exact h i hi k hk j hj
set_option maxHeartbeats 4000000 in
set_option maxRecDepth 100000 in
theorem ik_dig (l : Launch) (D : va_G) {cy : Nat → ClassId} {d0 : Nat} {a kp bt sz : Nat → Nat} {sheets : Nat → Int32} {ke km : Nat} {w : va_W} (hI : IvD cy d0 a kp bt sz sheets ke km w) (p0 : Int32) (p1 : Nat) (hz1 : p1 ≤ 1) : kq_l l D (cT cy) yX11_dig wsX11_dig 5 0 0 109 [.ref d0, .int p0, .int (nI p1)] w (fun r w1 => MP_dig a kp bt sz sheets ke km p0 (nI p1) r (fun a kp bt sz sheets ke km => IvD cy d0 a kp bt sz sheets ke km w1)) := by
  obtain ⟨x, PA, MA, FQ, HA, SQ, gt, gn, bs, bh, fnd, bg, GG, GB, GC, SG, RO, UP, LO, HO, V0, GA, ha, za, sa, ra, AC, WH, ka, fo, RW, NU, pad, fad, PF, LF, gb, hw, hpt, hct, hax, hsh, hhs⟩ := hI
  obtain ⟨⟨b0, b1, b2, b3⟩, opl, omk, osg, ofd, osh, oz⟩ := id hhs.ok
  have hpc : pcR PF a (a 0) := fun i hi => ⟨opl i hi, hct.1 i hi⟩
  have hma : maR a (a 0) (a 1) := omk
  have h20 := hhs.1
  have hk20 := hhs.2.1
  have hs20 := hpt.2.2.2.2 ke h20
  by_cases hx : ix (a 3) p0
  · obtain ⟨i, hi, rfl⟩ := ix_of8 hx (by omega)
    refine nk_l (qX11_dig_y l D cy  d0 (x 1) (a 0) (x 2) (a 1) (x 3) (x 7) (x 10) (a 3) (x 11) (x 14) (x 17) (x 18) fnd FQ (fad 0 i) (a (334 + 5 * i)) (a (334 + 5 * i + 1)) (a (334 + 5 * i + 2)) (fad 1 i) (fad 2 i) (fad 3 i) (a (334 + 5 * i + 4)) (a (334 + 5 * i + 3)) (fo i) (LF 0 i) (LF 1 i) (LF 2 i) (x 12) (x 13) UP LO (x 19) ke km SQ (sa ke) (AC ke) (WH ke) (ra ke) (RW ke) i p1 hi b3 (hpt.2.2.1 i hi) h20 hk20 hs20 (ofd i hi).2.2.2.2.1 (lk_ok (ofd i hi) (hct.2.2.1 i hi)) (ofd i hi).1 (ofd i hi).2.2.2.1 hz1) (hw.trans (pm_b0Fb1T bp_0x10_11x12x13x18x19 (st_get (i := ke) h20) (fl_get (i := i) hi))) (Nat.le_of_ble_eq_true rfl) (Nat.le_of_ble_eq_true rfl) (Nat.le_of_ble_eq_true rfl) (Nat.le_of_ble_eq_true rfl) (fun r w1 h => ⟨_, List.Perm.refl _, ?_⟩)
    rcases h with ⟨g, e, rfl⟩ | ⟨g, e, rfl⟩
    · exact .inr ⟨i, ⟨rfl, hi⟩, .inl ⟨g, e, ⟨x, PA, MA, FQ, HA, SQ, gt, gn, bs, bh, _, bg, GG, GB, GC, SG, RO, UP, LO, HO, V0, GA, ha, za, sa, ra, AC, WH, ka, fo, RW, NU, pad, fad, PF, LF, gb, (pm_b0Fb1T bp_0x10_11x12x13x18x19 (st_get (i := ke) h20) (fl_get (i := i) hi)).symm, hpt, hct, hax, hsh, hhs⟩⟩⟩
    · refine .inr ⟨i, ⟨rfl, hi⟩, .inr ⟨g, (if p1 = 0 then 0 else a (334 + 5 * i + 4)), ?_, e, ?_⟩⟩
      · by_cases q : p1 = 0
        · exact .inl ⟨(nI_z hz1).mpr q, if_pos q⟩
        · exact .inr ⟨fun z => q ((nI_z hz1).mp z), if_neg q⟩
      · exact IvD_mk cy d0 (a 0) (a 1) (a 3) (a 2) ((ke + 1) % 20) (min (km + 1) 20) x PA MA FQ HA SQ gt gn bs bh fnd bg GG GB GC SG RO (if p1 = 0 then UP else fcU (a (334 + 5 * i)) (LF 0 i) (LF 1 i) (LF 2 i) UP (a (334 + 5 * i + 4))) (if p1 = 0 then LO else fcL (a (334 + 5 * i)) (LF 0 i) (LF 1 i) LO (a (334 + 5 * i + 4))) HO V0 GA ha za sa ra (upN AC ke 8) (upN WH ke i) ka (upN fo i p1) (upR RW ke ((RW ke))) NU pad fad PF LF gb (pm_b0Fb1T bp_0x10_11x12x13x18x19 (st_put h20 8 i ((RW ke))) (fl_put (a' := (dgA a i (if p1 = 0 then 0 else a (334 + 5 * i + 4)))) (fo' := upN fo i p1) (LF' := LF) hi (dgA_lo (by omega) (by omega) _) (dg_f (by omega) _) upN_s rfl rfl rfl (fun q hq => dgA_lo (by omega) (by omega) _) (fun j hj hn q hq => dgA_lo (by omega) (by omega) _) (fun j hj hn => upN_n hn) (fun _ _ _ _ => rfl))).symm ((dgA_lo (by omega) (by omega) _).symm) ((dgA_lo (by omega) (by omega) _).symm) ((dgA_lo (by omega) (by omega) _).symm) ((dgA_lo (by omega) (by omega) _).symm) rfl (kmU_min hk20) (pEq (by rw [show (dgA a i (if p1 = 0 then 0 else a (334 + 5 * i + 4))) 1 = a 1 from dgA_lo (by omega) (by omega) _]; exact (mk_cong (fun j hj q hq => dgA_lo (by omega) (by omega) _) (fun _ _ => rfl) (fun _ _ => rfl)).symm)) (pEq (by rw [show (dgA a i (if p1 = 0 then 0 else a (334 + 5 * i + 4))) 0 = a 0 from dgA_lo (by omega) (by omega) _]; exact (pc_cong (fun j hj => dgA_lo (by omega) (by omega) _) (fun _ _ _ => rfl) (fun _ _ _ => rfl)).symm)) (pEq (by rw [show (dgA a i (if p1 = 0 then 0 else a (334 + 5 * i + 4))) 3 = a 3 from dgA_lo (by omega) (by omega) _])) (hpt.cg (Nat.le_of_eq (dgA_lo (by omega) (by omega) _)) (Nat.le_of_eq (dgA_lo (by omega) (by omega) _)) (Nat.le_of_eq (dgA_lo (by omega) (by omega) _))) ⟨cP hct.1 opl b0 (dgA_lo (by omega) (by omega) _) (fun k _ _ => dgA_lo (by omega) (by omega) _), cS hct.2.1 b2 (dgA_lo (by omega) (by omega) _) (fun k _ _ => dgA_lo (by omega) (by omega) _), cF2 hct.2.2.1 ofd b3 (dgA_lo (by omega) (by omega) _) (fun j hj => dgA_lo (by omega) (by omega) _) (fun k _ _ => dgA_lo (by omega) (by omega) _), fun c hc => by obtain ⟨v1, v2⟩ := dg_v (a := a) (f := i) (by omega) (if p1 = 0 then 0 else a (334 + 5 * i + 4)) c; rw [v1, v2]; obtain ⟨t1, t2⟩ := hct.2.2.2.1 c hc; by_cases q : p1 = 0; rw [if_pos q, if_pos q, if_pos q]; exact ⟨t1, t2⟩; rw [if_neg q, if_neg q, if_neg q]; obtain ⟨f1, f2⟩ := fc_v (hct.2.2.1 i hi) UP LO _ (Nat.le_refl _) c; rw [f1, f2, t1, t2]; exact ⟨rfl, rfl⟩, fun j => by simp only [upN]; split; exact hz1; exact hct.2.2.2.2 j⟩ hax hsh (hhs.push (ok_dg hhs.ok hi g (by split; omega; exact Nat.le_refl _)) (.inr (.inr (.inr (.inr (.inr (.inr (.inr (.inr ⟨rfl, hi, g, by rw [upN_s]⟩)))))))) (fun j hj hd => upN_n (fun q => by rw [q, g] at hd; exact absurd hd (by decide))) (fun j hj hd => ⟨by rw [dgA_lo (by omega) (by omega)]; exact hj, by by_cases q : j = i; rw [q]; exact dg_f (by omega) _; rw [dgA_lo (by omega) (by omega)]; exact hd⟩) (fun _ => ⟨by rw [dgA_lo (by omega) (by omega)]; exact hi, dg_f (by omega) _⟩))
  · refine nk_l (qX11_dig_n l D cy  d0 (x 1) (a 0) (x 2) (a 1) (x 3) (x 7) (x 10) (a 3) (x 11) (x 14) (x 17) (x 18) fnd FQ p0 (nI p1) hx) (hw.trans (pm_b0 bp_0x10)) (Nat.le_of_ble_eq_true rfl) (Nat.le_of_ble_eq_true rfl) (Nat.le_of_ble_eq_true rfl) (Nat.le_of_ble_eq_true rfl) (fun r w1 h => ⟨_, List.Perm.refl _, ?_⟩)
    rcases h with ⟨e, rfl⟩
    · exact .inl ⟨hx, e, ⟨x, PA, MA, FQ, HA, SQ, gt, gn, bs, bh, _, bg, GG, GB, GC, SG, RO, UP, LO, HO, V0, GA, ha, za, sa, ra, AC, WH, ka, fo, RW, NU, pad, fad, PF, LF, gb, (pm_b0 bp_0x10).symm, hpt, hct, hax, hsh, hhs⟩⟩
set_option maxHeartbeats 4000000 in
set_option maxRecDepth 100000 in
theorem ik_sheet (l : Launch) (D : va_G) {cy : Nat → ClassId} {d0 : Nat} {a kp bt sz : Nat → Nat} {sheets : Nat → Int32} {ke km : Nat} {w : va_W} (hI : IvD cy d0 a kp bt sz sheets ke km w) (p0 : Int32) (p1 : Int32) (p2 : Int32) : kq_l l D (cT cy) yX11_sheet wsX11_sheet 2 0 0 45 [.ref d0, .int p0, .int p1, .int p2] w (fun r w1 => MP_sheet a kp bt sz sheets ke km p0 p1 p2 r (fun a kp bt sz sheets ke km => IvD cy d0 a kp bt sz sheets ke km w1)) := by
  obtain ⟨x, PA, MA, FQ, HA, SQ, gt, gn, bs, bh, fnd, bg, GG, GB, GC, SG, RO, UP, LO, HO, V0, GA, ha, za, sa, ra, AC, WH, ka, fo, RW, NU, pad, fad, PF, LF, gb, hw, hpt, hct, hax, hsh, hhs⟩ := hI
  obtain ⟨⟨b0, b1, b2, b3⟩, opl, omk, osg, ofd, osh, oz⟩ := id hhs.ok
  have hpc : pcR PF a (a 0) := fun i hi => ⟨opl i hi, hct.1 i hi⟩
  have hma : maR a (a 0) (a 1) := omk
  by_cases hx : ix 4 p0
  · obtain ⟨i, hi, rfl⟩ := ix_of8 hx (by decide)
    refine nk_l (qX11_sheet_y l D cy  d0 (x 1) (a 0) (x 2) (a 1) (x 3) (x 7) (x 10) (a 3) (x 11) (x 14) (x 17) (x 18) fnd HA (ha i) (za i) (bt i) (sz i) (NU i) i p1 p2 hi (hpt.2.2.2.1 i hi)) (hw.trans (pm_b0S bp_0x17 (sh_get (i := i) hi))) (Nat.le_of_ble_eq_true rfl) (Nat.le_of_ble_eq_true rfl) (Nat.le_of_ble_eq_true rfl) (Nat.le_of_ble_eq_true rfl) (fun r w1 h => ⟨_, List.Perm.refl _, ?_⟩)
    rcases h with ⟨g, e, rfl⟩ | ⟨b, ⟨rfl, hb⟩, ⟨g, e, rfl⟩ | ⟨g, g2, e, rfl⟩ | ⟨n, rfl, hn, e, rfl⟩⟩
    · exact .inl ⟨fun ⟨_, b, ⟨_, q2⟩, _, hb⟩ => g (by rw [q2]; rcases hb with rfl | rfl | rfl | rfl; exact .inl rfl; exact .inr (.inl rfl); exact .inr (.inr (.inl rfl)); exact .inr (.inr (.inr rfl))), e, ⟨x, PA, MA, FQ, HA, SQ, gt, gn, bs, bh, _, bg, GG, GB, GC, SG, RO, UP, LO, HO, V0, GA, ha, za, sa, ra, AC, WH, ka, fo, RW, NU, pad, fad, PF, LF, gb, (pm_b0S bp_0x17 (sh_get (i := i) hi)).symm, hpt, hct, hax, hsh, hhs⟩⟩
    · exact .inr ⟨i, b, ⟨rfl, rfl⟩, ⟨by omega, hb⟩, .inl ⟨g, e, ⟨x, PA, MA, FQ, HA, SQ, gt, gn, bs, bh, _, bg, GG, GB, GC, SG, RO, UP, LO, HO, V0, GA, ha, za, sa, ra, AC, WH, ka, fo, RW, NU, pad, fad, PF, LF, gb, (pm_b0S bp_0x17 (sh_get (i := i) hi)).symm, hpt, hct, hax, hsh, hhs⟩⟩⟩
    · exact .inr ⟨i, b, ⟨rfl, rfl⟩, ⟨by omega, hb⟩, .inr (.inl ⟨g, g2, e, ⟨x, PA, MA, FQ, HA, SQ, gt, gn, bs, bh, _, bg, GG, GB, GC, SG, RO, UP, LO, HO, V0, GA, ha, za, sa, ra, AC, WH, ka, fo, RW, NU, pad, fad, PF, LF, gb, (pm_b0S bp_0x17 (sh_get (i := i) hi)).symm, hpt, hct, hax, hsh, hhs⟩⟩)⟩
    · exact .inr ⟨i, b, ⟨rfl, rfl⟩, ⟨by omega, hb⟩, .inr (.inr ⟨n, rfl, hn, e, ⟨x, PA, MA, FQ, HA, SQ, gt, gn, bs, bh, fnd, bg, GG, GB, GC, SG, RO, UP, LO, HO, V0, GA, ha, za, sa, ra, AC, WH, ka, fo, RW, _, pad, fad, PF, LF, gb, (pm_b0S bp_0x17 (sh_put hi b (if b = 0 then 0 else n) _)).symm, hpt, hct, hax, hsh.new hb hn, hhs⟩⟩)⟩
  · refine nk_l (qX11_sheet_n l D cy  d0 (x 1) (a 0) (x 2) (a 1) (x 3) (x 7) (x 10) (a 3) (x 11) (x 14) (x 17) (x 18) fnd HA p0 p1 p2 hx) (hw.trans (pm_b0 bp_0x17)) (Nat.le_of_ble_eq_true rfl) (Nat.le_of_ble_eq_true rfl) (Nat.le_of_ble_eq_true rfl) (Nat.le_of_ble_eq_true rfl) (fun r w1 h => ⟨_, List.Perm.refl _, ?_⟩)
    rcases h with ⟨e, rfl⟩
    · exact .inl ⟨fun ⟨s1, _, ⟨q1, _⟩, g1, _⟩ => hx (by rw [q1]; exact ix_nI (by omega) (by decide)), e, ⟨x, PA, MA, FQ, HA, SQ, gt, gn, bs, bh, _, bg, GG, GB, GC, SG, RO, UP, LO, HO, V0, GA, ha, za, sa, ra, AC, WH, ka, fo, RW, NU, pad, fad, PF, LF, gb, (pm_b0 bp_0x17).symm, hpt, hct, hax, hsh, hhs⟩⟩
set_option maxHeartbeats 4000000 in
set_option maxRecDepth 100000 in
theorem ik_put (l : Launch) (D : va_G) {cy : Nat → ClassId} {d0 : Nat} {a kp bt sz : Nat → Nat} {sheets : Nat → Int32} {ke km : Nat} {w : va_W} (hI : IvD cy d0 a kp bt sz sheets ke km w) (p0 : Int32) (p1 : Int32) (p2 : Int32) : kq_l l D (cT cy) yX11_put wsX11_put 1 0 0 22 [.ref d0, .int p0, .int p1, .int p2] w (fun r w1 => MP_put a kp bt sz sheets ke km p0 p1 p2 r (fun a kp bt sz sheets ke km => IvD cy d0 a kp bt sz sheets ke km w1)) := by
  obtain ⟨x, PA, MA, FQ, HA, SQ, gt, gn, bs, bh, fnd, bg, GG, GB, GC, SG, RO, UP, LO, HO, V0, GA, ha, za, sa, ra, AC, WH, ka, fo, RW, NU, pad, fad, PF, LF, gb, hw, hpt, hct, hax, hsh, hhs⟩ := hI
  obtain ⟨⟨b0, b1, b2, b3⟩, opl, omk, osg, ofd, osh, oz⟩ := id hhs.ok
  have hpc : pcR PF a (a 0) := fun i hi => ⟨opl i hi, hct.1 i hi⟩
  have hma : maR a (a 0) (a 1) := omk
  by_cases hx : ix 4 p0
  · obtain ⟨i, hi, rfl⟩ := ix_of8 hx (by decide)
    refine nk_l (qX11_put_y l D cy  d0 (x 1) (a 0) (x 2) (a 1) (x 3) (x 7) (x 10) (a 3) (x 11) (x 14) (x 17) (x 18) fnd HA (ha i) (za i) (bt i) (sz i) (NU i) i p1 p2 hi (hpt.2.2.2.1 i hi) (hsh i hi).1.1 (by have := (hsh i hi).1.2; omega)) (hw.trans (pm_b0S bp_0x17 (sh_get (i := i) hi))) (Nat.le_of_ble_eq_true rfl) (Nat.le_of_ble_eq_true rfl) (Nat.le_of_ble_eq_true rfl) (Nat.le_of_ble_eq_true rfl) (fun r w1 h => ⟨_, List.Perm.refl _, ?_⟩)
    rcases h with ⟨g, e, rfl⟩ | ⟨g, g2, e, rfl⟩ | ⟨g, j, rfl, g2, e, rfl⟩
    · exact .inr ⟨i, ⟨rfl, by omega⟩, .inl ⟨g, e, ⟨x, PA, MA, FQ, HA, SQ, gt, gn, bs, bh, _, bg, GG, GB, GC, SG, RO, UP, LO, HO, V0, GA, ha, za, sa, ra, AC, WH, ka, fo, RW, NU, pad, fad, PF, LF, gb, (pm_b0S bp_0x17 (sh_get (i := i) hi)).symm, hpt, hct, hax, hsh, hhs⟩⟩⟩
    · exact .inr ⟨i, ⟨rfl, by omega⟩, .inr (.inl ⟨g, g2, e, ⟨x, PA, MA, FQ, HA, SQ, gt, gn, bs, bh, _, bg, GG, GB, GC, SG, RO, UP, LO, HO, V0, GA, ha, za, sa, ra, AC, WH, ka, fo, RW, NU, pad, fad, PF, LF, gb, (pm_b0S bp_0x17 (sh_get (i := i) hi)).symm, hpt, hct, hax, hsh, hhs⟩⟩)⟩
    · exact .inr ⟨i, ⟨rfl, by omega⟩, .inr (.inr ⟨g, j, rfl, g2, e, ⟨x, PA, MA, FQ, HA, SQ, gt, gn, bs, bh, fnd, bg, GG, GB, GC, SG, RO, UP, LO, HO, V0, GA, ha, za, sa, ra, AC, WH, ka, fo, RW, _, pad, fad, PF, LF, gb, (pm_b0S bp_0x17 (sh_put1 hi _)).symm, hpt, hct, hax, hsh.put (by have := (hsh i hi).1.1; omega) p2, hhs⟩⟩)⟩
  · refine nk_l (qX11_put_n l D cy  d0 (x 1) (a 0) (x 2) (a 1) (x 3) (x 7) (x 10) (a 3) (x 11) (x 14) (x 17) (x 18) fnd HA p0 p1 p2 hx) (hw.trans (pm_b0 bp_0x17)) (Nat.le_of_ble_eq_true rfl) (Nat.le_of_ble_eq_true rfl) (Nat.le_of_ble_eq_true rfl) (Nat.le_of_ble_eq_true rfl) (fun r w1 h => ⟨_, List.Perm.refl _, ?_⟩)
    rcases h with ⟨e, rfl⟩
    · exact .inl ⟨fun h => hx (ix4.mpr h), e, ⟨x, PA, MA, FQ, HA, SQ, gt, gn, bs, bh, _, bg, GG, GB, GC, SG, RO, UP, LO, HO, V0, GA, ha, za, sa, ra, AC, WH, ka, fo, RW, NU, pad, fad, PF, LF, gb, (pm_b0 bp_0x17).symm, hpt, hct, hax, hsh, hhs⟩⟩
theorem sh_get2 {cy : Nat → ClassId} {ha za bt sz : Nat → Nat} {NU : Nat → Nat → Int32} {i j : Nat} (h : i < 4) (h2 : j < 4) (hn : i ≠ j) : (hsP cy ha za bt sz NU).Perm (hsL cy ha za i (bt i) (sz i) (NU i) ++ (hsL cy ha za j (bt j) (sz j) (NU j) ++ (((List.range 4).erase i).erase j).flatMap (hsC cy ha za bt sz NU))) := pool_out2 h h2 hn
theorem sh_put2 {cy : Nat → ClassId} {ha za bt sz : Nat → Nat} {NU : Nat → Nat → Int32} {i j : Nat} (h : i < 4) (h2 : j < 4) (hn : i ≠ j) (nu : Nat → Int32) : (hsP cy ha za bt sz (upI NU i nu)).Perm (hsL cy ha za i (bt i) (sz i) nu ++ (hsL cy ha za j (bt j) (sz j) (NU j) ++ (((List.range 4).erase i).erase j).flatMap (hsC cy ha za bt sz NU))) :=
  (sh_put1 h nu).trans (List.Perm.append_left _ ((List.perm_cons_erase (show j ∈ (List.range 4).erase i from (List.nodup_range).mem_erase_iff.mpr ⟨fun q => hn q.symm, List.mem_range.mpr h2⟩)).flatMap_right (hsC cy ha za bt sz NU)))
set_option maxHeartbeats 4000000 in
set_option maxRecDepth 100000 in
theorem ik_copy (l : Launch) (D : va_G) {cy : Nat → ClassId} {d0 : Nat} {a kp bt sz : Nat → Nat} {sheets : Nat → Int32} {ke km : Nat} {w : va_W} (hI : IvD cy d0 a kp bt sz sheets ke km w) (p0 : Int32) (p1 : Int32) (p2 : Int32) (p3 : Int32) (p4 : Int32) : kq_l l D (cT cy) yX11_copy wsX11_copy 2 0 0 54 [.ref d0, .int p0, .int p1, .int p2, .int p3, .int p4] w (fun r w1 => MP_copy a kp bt sz sheets ke km p0 p1 p2 p3 p4 r (fun a kp bt sz sheets ke km => IvD cy d0 a kp bt sz sheets ke km w1)) := by
  obtain ⟨x, PA, MA, FQ, HA, SQ, gt, gn, bs, bh, fnd, bg, GG, GB, GC, SG, RO, UP, LO, HO, V0, GA, ha, za, sa, ra, AC, WH, ka, fo, RW, NU, pad, fad, PF, LF, gb, hw, hpt, hct, hax, hsh, hhs⟩ := hI
  obtain ⟨⟨b0, b1, b2, b3⟩, opl, omk, osg, ofd, osh, oz⟩ := id hhs.ok
  have hpc : pcR PF a (a 0) := fun i hi => ⟨opl i hi, hct.1 i hi⟩
  have hma : maR a (a 0) (a 1) := omk
  by_cases hx : ix 4 p0
  · obtain ⟨i, hi, rfl⟩ := ix_of8 hx (by decide)
    by_cases hy : ix 4 p2
    · obtain ⟨t, ht, rfl⟩ := ix_of8 hy (by decide)
      obtain ⟨z1, z2⟩ := (hsh i hi).1
      obtain ⟨z3, z4⟩ := (hsh t ht).1
      by_cases hst : t = i
      · obtain rfl := hst.symm
        refine nk_l (qX11_copy_1 l D cy  d0 (x 1) (a 0) (x 2) (a 1) (x 3) (x 7) (x 10) (a 3) (x 11) (x 14) (x 17) (x 18) fnd HA (ha i) (za i) (bt i) (sz i) (NU i) i p1 i p3 p4 hi (hpt.2.2.2.1 i hi) rfl z1 (by omega)) (hw.trans (pm_b0S bp_0x17 (sh_get (i := i) hi))) (Nat.le_of_ble_eq_true rfl) (Nat.le_of_ble_eq_true rfl) (Nat.le_of_ble_eq_true rfl) (Nat.le_of_ble_eq_true rfl) (fun r w1 h => ⟨_, List.Perm.refl _, ?_⟩)
        rcases h with ⟨g, e, rfl⟩ | ⟨g, g2, e, rfl⟩ | ⟨g, f, w, j, ⟨rfl, rfl, rfl⟩, g2, g3, e, rfl⟩
        · exact .inr ⟨i, i, ⟨rfl, rfl, by omega, by omega⟩, .inl ⟨.inl g, e, ⟨x, PA, MA, FQ, HA, SQ, gt, gn, bs, bh, _, bg, GG, GB, GC, SG, RO, UP, LO, HO, V0, GA, ha, za, sa, ra, AC, WH, ka, fo, RW, NU, pad, fad, PF, LF, gb, (pm_b0S bp_0x17 (sh_get (i := i) hi)).symm, hpt, hct, hax, hsh, hhs⟩⟩⟩
        · exact .inr ⟨i, i, ⟨rfl, rfl, by omega, by omega⟩, .inr (.inr (.inl ⟨g, rfl, g2, e, ⟨x, PA, MA, FQ, HA, SQ, gt, gn, bs, bh, _, bg, GG, GB, GC, SG, RO, UP, LO, HO, V0, GA, ha, za, sa, ra, AC, WH, ka, fo, RW, NU, pad, fad, PF, LF, gb, (pm_b0S bp_0x17 (sh_get (i := i) hi)).symm, hpt, hct, hax, hsh, hhs⟩⟩))⟩
        · exact .inr ⟨i, i, ⟨rfl, rfl, by omega, by omega⟩, .inr (.inr (.inr ⟨g, rfl, f, w, j, ⟨rfl, rfl, rfl⟩, g2, g3, e, ⟨x, PA, MA, FQ, HA, SQ, gt, gn, bs, bh, fnd, bg, GG, GB, GC, SG, RO, UP, LO, HO, V0, GA, ha, za, sa, ra, AC, WH, ka, fo, RW, _, pad, fad, PF, LF, gb, (pm_b0S bp_0x17 (sh_put1 hi _)).symm, hpt, hct, hax, hsh.copy hi hi rfl (by omega) (by omega), hhs⟩⟩))⟩
      · refine nk_l (qX11_copy_2 l D cy  d0 (x 1) (a 0) (x 2) (a 1) (x 3) (x 7) (x 10) (a 3) (x 11) (x 14) (x 17) (x 18) fnd HA (ha t) (za t) (bt t) (sz t) (NU t) (ha i) (za i) (bt i) (sz i) (NU i) i p1 t p3 p4 hi (hpt.2.2.2.1 i hi) ht (hpt.2.2.2.1 t ht) z3 (by omega) z1 (by omega)) (hw.trans (pm_b0S1S2 bp_0x17 (sh_get2 ht hi hst))) (Nat.le_of_ble_eq_true rfl) (Nat.le_of_ble_eq_true rfl) (Nat.le_of_ble_eq_true rfl) (Nat.le_of_ble_eq_true rfl) (fun r w1 h => ⟨_, List.Perm.refl _, ?_⟩)
        rcases h with ⟨g, e, rfl⟩ | ⟨g, g2, g3, e, rfl⟩ | ⟨g, g2, g3, e, rfl⟩ | ⟨g, g2, f, w, j, ⟨rfl, rfl, rfl⟩, g3, g4, e, rfl⟩
        · exact .inr ⟨i, t, ⟨rfl, rfl, by omega, by omega⟩, .inl ⟨g, e, ⟨x, PA, MA, FQ, HA, SQ, gt, gn, bs, bh, _, bg, GG, GB, GC, SG, RO, UP, LO, HO, V0, GA, ha, za, sa, ra, AC, WH, ka, fo, RW, NU, pad, fad, PF, LF, gb, (pm_b0S1S2 bp_0x17 (sh_get2 ht hi hst)).symm, hpt, hct, hax, hsh, hhs⟩⟩⟩
        · exact .inr ⟨i, t, ⟨rfl, rfl, by omega, by omega⟩, .inr (.inl ⟨g, g2, g3, e, ⟨x, PA, MA, FQ, HA, SQ, gt, gn, bs, bh, _, bg, GG, GB, GC, SG, RO, UP, LO, HO, V0, GA, ha, za, sa, ra, AC, WH, ka, fo, RW, NU, pad, fad, PF, LF, gb, (pm_b0S1S2 bp_0x17 (sh_get2 ht hi hst)).symm, hpt, hct, hax, hsh, hhs⟩⟩)⟩
        · exact .inr ⟨i, t, ⟨rfl, rfl, by omega, by omega⟩, .inr (.inr (.inl ⟨g, g2, g3, e, ⟨x, PA, MA, FQ, HA, SQ, gt, gn, bs, bh, _, bg, GG, GB, GC, SG, RO, UP, LO, HO, V0, GA, ha, za, sa, ra, AC, WH, ka, fo, RW, NU, pad, fad, PF, LF, gb, (pm_b0S1S2 bp_0x17 (sh_get2 ht hi hst)).symm, hpt, hct, hax, hsh, hhs⟩⟩))⟩
        · exact .inr ⟨i, t, ⟨rfl, rfl, by omega, by omega⟩, .inr (.inr (.inr ⟨g, g2, f, w, j, ⟨rfl, rfl, rfl⟩, g3, g4, e, ⟨x, PA, MA, FQ, HA, SQ, gt, gn, bs, bh, fnd, bg, GG, GB, GC, SG, RO, UP, LO, HO, V0, GA, ha, za, sa, ra, AC, WH, ka, fo, RW, _, pad, fad, PF, LF, gb, (pm_b0S1S2 bp_0x17 (sh_put2 ht hi hst _)).symm, hpt, hct, hax, hsh.copy hi ht g2 (by omega) (by omega), hhs⟩⟩))⟩
    · refine nk_l (qX11_copy_yn l D cy  d0 (x 1) (a 0) (x 2) (a 1) (x 3) (x 7) (x 10) (a 3) (x 11) (x 14) (x 17) (x 18) fnd HA i p1 p2 p3 p4 (ha i) hi (hpt.2.2.2.1 i hi) hy) (hw.trans (pm_b0 bp_0x17)) (Nat.le_of_ble_eq_true rfl) (Nat.le_of_ble_eq_true rfl) (Nat.le_of_ble_eq_true rfl) (Nat.le_of_ble_eq_true rfl) (fun r w1 h => ⟨_, List.Perm.refl _, ?_⟩)
      rcases h with ⟨e, rfl⟩
      · exact .inl ⟨fun h => hy (ix4.mpr h.2), e, ⟨x, PA, MA, FQ, HA, SQ, gt, gn, bs, bh, _, bg, GG, GB, GC, SG, RO, UP, LO, HO, V0, GA, ha, za, sa, ra, AC, WH, ka, fo, RW, NU, pad, fad, PF, LF, gb, (pm_b0 bp_0x17).symm, hpt, hct, hax, hsh, hhs⟩⟩
  · by_cases hy : ix 4 p2
    · obtain ⟨t, ht, rfl⟩ := ix_of8 hy (by decide)
      refine nk_l (qX11_copy_ny l D cy  d0 (x 1) (a 0) (x 2) (a 1) (x 3) (x 7) (x 10) (a 3) (x 11) (x 14) (x 17) (x 18) fnd HA p0 p1 t p3 p4 hx (ha t) ht (hpt.2.2.2.1 t ht)) (hw.trans (pm_b0 bp_0x17)) (Nat.le_of_ble_eq_true rfl) (Nat.le_of_ble_eq_true rfl) (Nat.le_of_ble_eq_true rfl) (Nat.le_of_ble_eq_true rfl) (fun r w1 h => ⟨_, List.Perm.refl _, ?_⟩)
      rcases h with ⟨e, rfl⟩
      · exact .inl ⟨fun h => hx (ix4.mpr h.1), e, ⟨x, PA, MA, FQ, HA, SQ, gt, gn, bs, bh, _, bg, GG, GB, GC, SG, RO, UP, LO, HO, V0, GA, ha, za, sa, ra, AC, WH, ka, fo, RW, NU, pad, fad, PF, LF, gb, (pm_b0 bp_0x17).symm, hpt, hct, hax, hsh, hhs⟩⟩
    · refine nk_l (qX11_copy_nn l D cy  d0 (x 1) (a 0) (x 2) (a 1) (x 3) (x 7) (x 10) (a 3) (x 11) (x 14) (x 17) (x 18) fnd HA p0 p1 p2 p3 p4 hx hy) (hw.trans (pm_b0 bp_0x17)) (Nat.le_of_ble_eq_true rfl) (Nat.le_of_ble_eq_true rfl) (Nat.le_of_ble_eq_true rfl) (Nat.le_of_ble_eq_true rfl) (fun r w1 h => ⟨_, List.Perm.refl _, ?_⟩)
      rcases h with ⟨e, rfl⟩
      · exact .inl ⟨fun h => hx (ix4.mpr h.1), e, ⟨x, PA, MA, FQ, HA, SQ, gt, gn, bs, bh, _, bg, GG, GB, GC, SG, RO, UP, LO, HO, V0, GA, ha, za, sa, ra, AC, WH, ka, fo, RW, NU, pad, fad, PF, LF, gb, (pm_b0 bp_0x17).symm, hpt, hct, hax, hsh, hhs⟩⟩
