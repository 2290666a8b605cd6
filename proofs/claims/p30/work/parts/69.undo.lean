theorem cP2 {a a' : Nat → Nat} {PF : Nat → Nat → Nat → Nat} (h : ∀ i, i < a 0 → ∀ k, k < a (4 + i) → ∀ j, j < 4 → PF j i k = a (10 + 32 * i + 4 * k + j)) (e0 : a' 0 ≤ a 0) (e4 : ∀ i, i < a' 0 → a' (4 + i) ≤ a (4 + i)) (e : ∀ i, i < a' 0 → ∀ k, k < a' (4 + i) → ∀ j, j < 4 → a' (10 + 32 * i + 4 * k + j) = a (10 + 32 * i + 4 * k + j)) : ∀ i, i < a' 0 → ∀ k, k < a' (4 + i) → ∀ j, j < 4 → PF j i k = a' (10 + 32 * i + 4 * k + j) := fun i hi k hk j hj => by
  rw [e i hi k hk j hj]
  have := e4 i hi
  exact h i (by omega) k (by omega) j hj
theorem cS2 {a a' SG : Nat → Nat} (h : ∀ k, k < a 2 → SG k = a (322 + k)) (e0 : a' 2 ≤ a 2) (e : ∀ k, k < a' 2 → a' (322 + k) = a (322 + k)) : ∀ k, k < a' 2 → SG k = a' (322 + k) := fun k hk => by
  rw [e k hk]
  exact h k (by omega)
theorem cF3 {a a' : Nat → Nat} {LF : Nat → Nat → Nat → Nat} (h : ∀ i, i < a 3 → ∀ k, k < a (334 + 5 * i + 4) → ∀ j, j < 3 → LF j i k = a (374 + 12 * i + 3 * k + j)) (e0 : a' 3 ≤ a 3) (e4 : ∀ i, i < a' 3 → a' (334 + 5 * i + 4) ≤ a (334 + 5 * i + 4)) (e : ∀ i, i < a' 3 → ∀ k, k < a' (334 + 5 * i + 4) → ∀ j, j < 3 → a' (374 + 12 * i + 3 * k + j) = a (374 + 12 * i + 3 * k + j)) : ∀ i, i < a' 3 → ∀ k, k < a' (334 + 5 * i + 4) → ∀ j, j < 3 → LF j i k = a' (374 + 12 * i + 3 * k + j) := fun i hi k hk j hj => by
  rw [e i hi k hk j hj]
  have := e4 i hi
  exact h i (by omega) k (by omega) j hj
theorem drop_P {α : Type} {B S T M P P' n F X : List α} (h : P = P' ++ n) : (B ++ (S ++ (T ++ (M ++ (P ++ (F ++ X)))))).Perm (B ++ (S ++ (T ++ (M ++ (P' ++ (F ++ (n ++ X))))))) := by
  subst h
  classical
  rw [List.perm_iff_count]
  intro q9
  simp only [List.count_append]
  omega
theorem drop_M {α : Type} {B S T M M' n P F X : List α} (h : M = M' ++ n) : (B ++ (S ++ (T ++ (M ++ (P ++ (F ++ X)))))).Perm (B ++ (S ++ (T ++ (M' ++ (P ++ (F ++ (n ++ X))))))) := by
  subst h
  classical
  rw [List.perm_iff_count]
  intro q9
  simp only [List.count_append]
  omega
theorem drop_F {α : Type} {B S T M P F F' n X : List α} (h : F = F' ++ n) : (B ++ (S ++ (T ++ (M ++ (P ++ (F ++ X)))))).Perm (B ++ (S ++ (T ++ (M ++ (P ++ (F' ++ (n ++ X))))))) := by
  subst h
  classical
  rw [List.perm_iff_count]
  intro q9
  simp only [List.count_append]
  omega
theorem st_get9 {cy : Nat → ClassId} {sa ra AC WH : Nat → Nat} {RW : Nat → Nat → Nat} {i ac : Nat} (h : i < 20) (e : AC i = ac) : (stP cy sa ra AC WH RW 20).Perm (stL cy sa ra i ac (WH i) (RW i) ++ ((List.range 20).erase i).flatMap (stC cy sa ra AC WH RW)) := by
  rw [← e]
  exact st_get h
set_option maxHeartbeats 4000000 in
set_option maxRecDepth 100000 in
theorem ud_0 (l : Launch) (D : va_G) {cy : Nat → ClassId} {d0 : Nat} {a kp bt sz : Nat → Nat} {sheets : Nat → Int32} {ke km : Nat} {w : va_W} (x : Nat → Nat) (PA MA FQ HA SQ : Nat → Option Nat) (gt gn bs bh : Nat) (fnd bg : Int64) (GG GB GC SG RO UP LO HO V0 : Nat → Nat) (GA : Nat → Int64) (ha za sa ra AC WH ka fo : Nat → Nat) (RW : Nat → Nat → Nat) (NU : Nat → Nat → Int32) (pad fad : Nat → Nat → Nat) (PF LF : Nat → Nat → Nat → Nat) (gb : va_W) (hw : w.Perm (dB cy d0 x PA MA FQ HA SQ (a 0) (a 1) (a 3) (a 2) ke km gt gn bs bh fnd bg GG GB GC SG RO UP LO HO GA ++ (hsP cy ha za bt sz NU ++ (stP cy sa ra AC WH RW 20 ++ (mkPl pad ka a (a 1) ++ (pcPl cy pad PF a (a 0) ++ (flPa cy fad fo LF a (a 3) ++ gb))))))) (hpt : Ptr a PA MA FQ HA SQ pad fad ka ha sa) (hct : Cnt a PF LF SG UP LO fo) (hax : Axs GA V0 HO RO GC) (hsh : Shs bt sz sheets NU) (hhs : His a kp ke km fo AC WH RW) (hkp : 0 < km) {s : Nat → Nat} (hs : s = cur a kp ke 1) (hok1 : okA s) {q : Nat} (hq20 : q < 20) (hq2 : (ke + 20 - 1) % 20 = q) (hac : AC q = 0) (hb : s 0 < 6 ∧ a = piA s) : kq_l l D (cT cy) yX11_undo wsX11_undo 7 0 0 151 [.ref d0] w (fun r w1 => r = (nI (km - 1)).toInt64 ∧ IvD cy d0 s kp bt sz sheets ((ke + 20 - 1) % 20) (km - 1) w1) := by
  obtain ⟨⟨b0, b1, b2, b3⟩, opl, omk, osg, ofd, osh, oz⟩ := id hhs.ok
  have hpc : pcR PF a (a 0) := fun i hi => ⟨opl i hi, hct.1 i hi⟩
  have hma : maR a (a 0) (a 1) := omk
  obtain ⟨⟨k0, k1, k2, k3⟩, opl1, omk1, osg1, ofd1, osh1, oz1⟩ := id hok1
  have h20 := hhs.1
  have hk20 := hhs.2.1
  obtain ⟨g, hc⟩ := hb
  have ee : ∀ k, k ≠ 0 → k ≠ 4 + s 0 → a k = s k := fun k h1 h2 => by rw [hc]; exact pi_e h1 h2
  have ea0 : a 0 = s 0 + 1 := by rw [hc]; rfl
  have hPe : pcPl cy pad PF a (a 0) = pcPl cy pad PF a (s 0) ++ pcC cy pad PF a (s 0) := by rw [ea0, pcPl, pcPl, pool_push]
  refine nk_l (qX11_undo_0 l D cy  d0 (x 1) (a 0) (x 2) (a 1) (x 3) (x 7) (x 10) (a 3) (x 11) (x 14) (x 17) (x 18) fnd (sa q) (WH q) (ra q) (RW q) (x 19) ke km SQ  hkp h20 hk20 (by rw [hq2]; exact hpt.2.2.2.2 q hq20) (by omega)) (hw.trans (pm_b0Tb1 bp_0_18x19 (st_get9 hq20 hac))) (Nat.le_of_ble_eq_true rfl) (Nat.le_of_ble_eq_true rfl) (Nat.le_of_ble_eq_true rfl) (Nat.le_of_ble_eq_true rfl) (fun r w1 h => ⟨_, List.Perm.refl _, ?_⟩)
  obtain ⟨e, rfl⟩ := h
  refine ⟨e, ?_⟩
  exact IvD_mk cy d0 (a 0 - 1) (a 1) (a 3) (a 2) ((ke + 20 - 1) % 20) (km - 1) x PA MA FQ HA SQ gt gn bs bh fnd bg GG GB GC SG RO UP LO HO V0 GA ha za sa ra AC WH ka fo RW NU pad fad PF LF (pcC cy pad PF a (s 0) ++ gb) ((pm_b0Tb1 bp_0_18x19 (st_get9 hq20 hac)).symm.trans (drop_P hPe)) (by omega) (ee _ (by omega) (by omega)) (ee _ (by omega) (by omega)) (ee _ (by omega) (by omega)) rfl rfl (pEq (by rw [show a 1 = s 1 from ee _ (by omega) (by omega)]; exact mk_cong (fun j hj z hz => ee _ (by omega) (by omega)) (fun _ _ => rfl) (fun _ _ => rfl))) (pEq (pc_cong (fun j hj => ee _ (by omega) (by omega)) (fun _ _ _ => rfl) (fun _ _ _ => rfl))) (pEq (by rw [show a 3 = s 3 from ee _ (by omega) (by omega)]; exact fl_cong (fun j hj z hz => ee _ (by omega) (by omega)) (fun _ _ => rfl) (fun _ _ _ => rfl) (fun _ _ _ => rfl))) (hpt.cg (by omega) (Nat.le_of_eq (ee _ (by omega) (by omega)).symm) (Nat.le_of_eq (ee _ (by omega) (by omega)).symm)) ⟨cP2 hct.1 (by omega) (fun i hi => Nat.le_of_eq (ee _ (by omega) (by omega)).symm) (fun i hi k hk j hj => by have := (opl1 i hi).1; exact (ee _ (by omega) (by omega)).symm), cS hct.2.1 b2 (ee _ (by omega) (by omega)).symm (fun k _ _ => (ee _ (by omega) (by omega)).symm), cF hct.2.2.1 ofd b3 (ee _ (by omega) (by omega)).symm (fun k _ _ => (ee _ (by omega) (by omega)).symm), cT_ hct.2.2.2.1 (fun k _ _ => (ee _ (by omega) (by omega)).symm), hct.2.2.2.2⟩ hax hsh (by have hh := hhs.pop (fo' := fo) hkp (fun _ _ _ => rfl); rw [← hs] at hh; exact hh)
set_option maxHeartbeats 4000000 in
set_option maxRecDepth 100000 in
theorem ud_1 (l : Launch) (D : va_G) {cy : Nat → ClassId} {d0 : Nat} {a kp bt sz : Nat → Nat} {sheets : Nat → Int32} {ke km : Nat} {w : va_W} (x : Nat → Nat) (PA MA FQ HA SQ : Nat → Option Nat) (gt gn bs bh : Nat) (fnd bg : Int64) (GG GB GC SG RO UP LO HO V0 : Nat → Nat) (GA : Nat → Int64) (ha za sa ra AC WH ka fo : Nat → Nat) (RW : Nat → Nat → Nat) (NU : Nat → Nat → Int32) (pad fad : Nat → Nat → Nat) (PF LF : Nat → Nat → Nat → Nat) (gb : va_W) (hw : w.Perm (dB cy d0 x PA MA FQ HA SQ (a 0) (a 1) (a 3) (a 2) ke km gt gn bs bh fnd bg GG GB GC SG RO UP LO HO GA ++ (hsP cy ha za bt sz NU ++ (stP cy sa ra AC WH RW 20 ++ (mkPl pad ka a (a 1) ++ (pcPl cy pad PF a (a 0) ++ (flPa cy fad fo LF a (a 3) ++ gb))))))) (hpt : Ptr a PA MA FQ HA SQ pad fad ka ha sa) (hct : Cnt a PF LF SG UP LO fo) (hax : Axs GA V0 HO RO GC) (hsh : Shs bt sz sheets NU) (hhs : His a kp ke km fo AC WH RW) (hkp : 0 < km) {s : Nat → Nat} (hs : s = cur a kp ke 1) (hok1 : okA s) {q : Nat} (hq20 : q < 20) (hq2 : (ke + 20 - 1) % 20 = q) (hac : AC q = 1) (hb : WH q < s 0 ∧ s (4 + WH q) < 8 ∧ ∃ u v x y : Nat, a = plA s (WH q) u v x y) : kq_l l D (cT cy) yX11_undo wsX11_undo 7 0 0 168 [.ref d0] w (fun r w1 => r = (nI (km - 1)).toInt64 ∧ IvD cy d0 s kp bt sz sheets ((ke + 20 - 1) % 20) (km - 1) w1) := by
  obtain ⟨⟨b0, b1, b2, b3⟩, opl, omk, osg, ofd, osh, oz⟩ := id hhs.ok
  have hpc : pcR PF a (a 0) := fun i hi => ⟨opl i hi, hct.1 i hi⟩
  have hma : maR a (a 0) (a 1) := omk
  obtain ⟨⟨k0, k1, k2, k3⟩, opl1, omk1, osg1, ofd1, osh1, oz1⟩ := id hok1
  have h20 := hhs.1
  have hk20 := hhs.2.1
  obtain ⟨hi, g, u9, v9, x9, y9, hc⟩ := hb
  have ee : ∀ k, k ≠ 4 + WH q → ¬ (10 + 32 * WH q + 4 * s (4 + WH q) ≤ k ∧ k < 10 + 32 * WH q + 4 * s (4 + WH q) + 4) → a k = s k := fun k h1 h2 => by rw [hc]; exact pl_e h1 h2
  have ea4 : a (4 + WH q) = s (4 + WH q) + 1 := by rw [hc]; exact pl_4 ..
  have ea0 : a 0 = s 0 := ee _ (by omega) (by omega)
  have hia : WH q < a 0 := by omega
  refine nk_l (qX11_undo_1 l D cy  d0 (x 1) (a 0) (x 2) (a 1) (x 3) (x 7) (x 10) (a 3) (x 11) (x 14) (x 17) (x 18) fnd (sa q) (WH q) (ra q) (RW q) PA (pad 0 ((WH q))) (((WH q))) (pad 1 ((WH q))) (pad 4 ((WH q))) (pad 2 ((WH q))) (pad 3 ((WH q))) (a (4 + ((WH q)))) (PF 0 ((WH q))) (PF 2 ((WH q))) (pad 5 ((WH q))) (pad 6 ((WH q))) (PF 1 ((WH q))) (PF 3 ((WH q))) (x 19) ke km SQ  hkp h20 hk20 (by rw [hq2]; exact hpt.2.2.2.2 q hq20) hia b0 (hpt.1 _ hia) (opl ((WH q)) hia).1 (pcR_9 (j := 0) hpc hia (by decide)) (pcR_9 (j := 2) hpc hia (by decide)) (pcR_9 (j := 1) hpc hia (by decide)) (pcR_9 (j := 3) hpc hia (by decide)) (by omega)) (hw.trans (pm_b0Tb1Pb2 bp_0_1_18x19 (st_get9 hq20 hac) (pc_get (i := WH q) hia))) (Nat.le_of_ble_eq_true rfl) (Nat.le_of_ble_eq_true rfl) (Nat.le_of_ble_eq_true rfl) (Nat.le_of_ble_eq_true rfl) (fun r w1 h => ⟨_, List.Perm.refl _, ?_⟩)
  obtain ⟨e, rfl⟩ := h
  refine ⟨e, ?_⟩
  exact IvD_mk cy d0 (a 0) (a 1) (a 3) (a 2) ((ke + 20 - 1) % 20) (km - 1) x PA MA FQ HA SQ gt gn bs bh fnd bg GG GB GC SG RO UP LO HO V0 GA ha za sa ra AC WH ka fo RW NU pad fad PF LF gb (pm_b0Tb1Pb2 bp_0_1_18x19 (st_get9 hq20 hac) (pc_put (a' := s) (PF' := PF) (n := a (4 + WH q) - 1) hia (by omega) rfl rfl rfl rfl (fun j hj hn => (ee _ (by omega) (by omega)).symm) (fun _ _ _ _ => rfl))).symm (ee _ (by omega) (by omega)) (ee _ (by omega) (by omega)) (ee _ (by omega) (by omega)) (ee _ (by omega) (by omega)) rfl rfl (pEq (by rw [show a 1 = s 1 from ee _ (by omega) (by omega)]; exact mk_cong (fun j hj z hz => ee _ (by omega) (by omega)) (fun _ _ => rfl) (fun _ _ => rfl))) (pEq (by rw [ea0])) (pEq (by rw [show a 3 = s 3 from ee _ (by omega) (by omega)]; exact fl_cong (fun j hj z hz => ee _ (by omega) (by omega)) (fun _ _ => rfl) (fun _ _ _ => rfl) (fun _ _ _ => rfl))) (hpt.cg (Nat.le_of_eq (ee _ (by omega) (by omega)).symm) (Nat.le_of_eq (ee _ (by omega) (by omega)).symm) (Nat.le_of_eq (ee _ (by omega) (by omega)).symm)) ⟨cP2 hct.1 (by omega) (fun i hi => by by_cases z : i = WH q; rw [z, ea4]; omega; exact Nat.le_of_eq (ee _ (by omega) (by omega)).symm) (fun i hi k hk j hj => by have := (opl1 i hi).1; by_cases z : i = WH q; rw [z] at hk ⊢; exact (ee _ (by omega) (by omega)).symm; exact (ee _ (by omega) (by omega)).symm), cS hct.2.1 b2 (ee _ (by omega) (by omega)).symm (fun k _ _ => (ee _ (by omega) (by omega)).symm), cF hct.2.2.1 ofd b3 (ee _ (by omega) (by omega)).symm (fun k _ _ => (ee _ (by omega) (by omega)).symm), cT_ hct.2.2.2.1 (fun k _ _ => (ee _ (by omega) (by omega)).symm), hct.2.2.2.2⟩ hax hsh (by have hh := hhs.pop (fo' := fo) hkp (fun _ _ _ => rfl); rw [← hs] at hh; exact hh)
theorem ct_u2 {a s : Nat → Nat} {PF : Nat → Nat → Nat → Nat} {i : Nat} {r : Nat → Nat} (h : ∀ i, i < a 0 → ∀ k, k < a (4 + i) → ∀ j, j < 4 → PF j i k = a (10 + 32 * i + 4 * k + j)) (b0 : s 0 ≤ 6) (hi : i < s 0) (g : 0 < s (4 + i)) (ee : ∀ k, k ≠ 4 + i → a k = s k) (ea4 : a (4 + i) = s (4 + i) - 1) (hr : ∀ j, j < 4 → r j = s (10 + 32 * i + 4 * (s (4 + i) - 1) + j)) : ∀ i', i' < s 0 → ∀ k, k < s (4 + i') → ∀ j, j < 4 → pfU PF i (upN (PF 0 i) (a (4 + i)) (r 0)) (upN (PF 1 i) (a (4 + i)) (r 1)) (upN (PF 2 i) (a (4 + i)) (r 2)) (upN (PF 3 i) (a (4 + i)) (r 3)) j i' k = s (10 + 32 * i' + 4 * k + j) := fun i' hi' k hk j hj => by
  have ea0 : a 0 = s 0 := ee 0 (by omega)
  by_cases q : i' = i
  · subst q
    rw [pfU_s]
    by_cases q2 : k = a (4 + i')
    · have hk2 : k = s (4 + i') - 1 := by omega
      have e := hr j hj
      rw [← hk2] at e
      rw [← e, q2]
      rcases (show j = 0 ∨ j = 1 ∨ j = 2 ∨ j = 3 by omega) with rfl | rfl | rfl | rfl
      · exact upN_s
      · exact upN_s
      · exact upN_s
      · exact upN_s
    · have e := h i' (by omega) k (by omega) j hj
      rw [← ee _ (by omega), ← e]
      rcases (show j = 0 ∨ j = 1 ∨ j = 2 ∨ j = 3 by omega) with rfl | rfl | rfl | rfl
      · exact upN_n q2
      · exact upN_n q2
      · exact upN_n q2
      · exact upN_n q2
  · rw [pfU_n q, ← ee _ (by omega)]
    rw [← ee _ (by omega)] at hk
    exact h i' (by omega) k hk j hj
set_option maxHeartbeats 4000000 in
set_option maxRecDepth 100000 in
theorem ud_2 (l : Launch) (D : va_G) {cy : Nat → ClassId} {d0 : Nat} {a kp bt sz : Nat → Nat} {sheets : Nat → Int32} {ke km : Nat} {w : va_W} (x : Nat → Nat) (PA MA FQ HA SQ : Nat → Option Nat) (gt gn bs bh : Nat) (fnd bg : Int64) (GG GB GC SG RO UP LO HO V0 : Nat → Nat) (GA : Nat → Int64) (ha za sa ra AC WH ka fo : Nat → Nat) (RW : Nat → Nat → Nat) (NU : Nat → Nat → Int32) (pad fad : Nat → Nat → Nat) (PF LF : Nat → Nat → Nat → Nat) (gb : va_W) (hw : w.Perm (dB cy d0 x PA MA FQ HA SQ (a 0) (a 1) (a 3) (a 2) ke km gt gn bs bh fnd bg GG GB GC SG RO UP LO HO GA ++ (hsP cy ha za bt sz NU ++ (stP cy sa ra AC WH RW 20 ++ (mkPl pad ka a (a 1) ++ (pcPl cy pad PF a (a 0) ++ (flPa cy fad fo LF a (a 3) ++ gb))))))) (hpt : Ptr a PA MA FQ HA SQ pad fad ka ha sa) (hct : Cnt a PF LF SG UP LO fo) (hax : Axs GA V0 HO RO GC) (hsh : Shs bt sz sheets NU) (hhs : His a kp ke km fo AC WH RW) (hkp : 0 < km) {s : Nat → Nat} (hs : s = cur a kp ke 1) (hok1 : okA s) {q : Nat} (hq20 : q < 20) (hq2 : (ke + 20 - 1) % 20 = q) (hac : AC q = 2) (hb : WH q < s 0 ∧ 0 < s (4 + WH q) ∧ a = upN s (4 + WH q) (s (4 + WH q) - 1) ∧ ∀ j, j < 4 → RW q j = s (10 + 32 * WH q + 4 * (s (4 + WH q) - 1) + j)) : kq_l l D (cT cy) yX11_undo wsX11_undo 7 0 0 168 [.ref d0] w (fun r w1 => r = (nI (km - 1)).toInt64 ∧ IvD cy d0 s kp bt sz sheets ((ke + 20 - 1) % 20) (km - 1) w1) := by
  obtain ⟨⟨b0, b1, b2, b3⟩, opl, omk, osg, ofd, osh, oz⟩ := id hhs.ok
  have hpc : pcR PF a (a 0) := fun i hi => ⟨opl i hi, hct.1 i hi⟩
  have hma : maR a (a 0) (a 1) := omk
  obtain ⟨⟨k0, k1, k2, k3⟩, opl1, omk1, osg1, ofd1, osh1, oz1⟩ := id hok1
  have h20 := hhs.1
  have hk20 := hhs.2.1
  obtain ⟨hi, g, hc, hr⟩ := hb
  have ee : ∀ k, k ≠ 4 + WH q → a k = s k := fun k h1 => by rw [hc]; exact upN_n h1
  have ea4 : a (4 + WH q) = s (4 + WH q) - 1 := by rw [hc]; exact upN_s
  have ea0 : a 0 = s 0 := ee _ (by omega)
  have hia : WH q < a 0 := by omega
  have hp8 := (opl1 _ hi).1
  have hr9 : ∀ j, j < 4 → RW q j ≤ 999 := fun j hj => by rw [hr j hj]; exact (opl1 _ hi).2 _ j (by omega) hj
  refine nk_l (qX11_undo_2 l D cy  d0 (x 1) (a 0) (x 2) (a 1) (x 3) (x 7) (x 10) (a 3) (x 11) (x 14) (x 17) (x 18) fnd (sa q) (WH q) (ra q) (RW q) PA (pad 0 ((WH q))) (((WH q))) (pad 1 ((WH q))) (pad 4 ((WH q))) (pad 2 ((WH q))) (pad 3 ((WH q))) (a (4 + ((WH q)))) (PF 0 ((WH q))) (PF 2 ((WH q))) (pad 5 ((WH q))) (pad 6 ((WH q))) (PF 1 ((WH q))) (PF 3 ((WH q))) (x 19) ke km SQ  hkp h20 hk20 (by rw [hq2]; exact hpt.2.2.2.2 q hq20) hia b0 (hpt.1 _ hia) (by omega) (pcR_9 (j := 0) hpc hia (by decide)) (pcR_9 (j := 2) hpc hia (by decide)) (pcR_9 (j := 1) hpc hia (by decide)) (pcR_9 (j := 3) hpc hia (by decide)) (hr9 0 (by decide)) (hr9 1 (by decide)) (hr9 2 (by decide)) (hr9 3 (by decide))) (hw.trans (pm_b0Tb1Pb2 bp_0_1_18x19 (st_get9 hq20 hac) (pc_get (i := WH q) hia))) (Nat.le_of_ble_eq_true rfl) (Nat.le_of_ble_eq_true rfl) (Nat.le_of_ble_eq_true rfl) (Nat.le_of_ble_eq_true rfl) (fun r w1 h => ⟨_, List.Perm.refl _, ?_⟩)
  obtain ⟨e, rfl⟩ := h
  refine ⟨e, ?_⟩
  exact IvD_mk cy d0 (a 0) (a 1) (a 3) (a 2) ((ke + 20 - 1) % 20) (km - 1) x PA MA FQ HA SQ gt gn bs bh fnd bg GG GB GC SG RO UP LO HO V0 GA ha za sa ra AC WH ka fo RW NU pad fad (pfU PF (WH q) (upN (PF 0 (WH q)) (a (4 + WH q)) (RW q 0)) (upN (PF 1 (WH q)) (a (4 + WH q)) (RW q 1)) (upN (PF 2 (WH q)) (a (4 + WH q)) (RW q 2)) (upN (PF 3 (WH q)) (a (4 + WH q)) (RW q 3))) LF gb (pm_b0Tb1Pb2 bp_0_1_18x19 (st_get9 hq20 hac) (pc_put (a' := s) (PF' := pfU PF (WH q) (upN (PF 0 (WH q)) (a (4 + WH q)) (RW q 0)) (upN (PF 1 (WH q)) (a (4 + WH q)) (RW q 1)) (upN (PF 2 (WH q)) (a (4 + WH q)) (RW q 2)) (upN (PF 3 (WH q)) (a (4 + WH q)) (RW q 3))) (n := a (4 + WH q) + 1) hia (by omega) (pfU_s ..) (pfU_s ..) (pfU_s ..) (pfU_s ..) (fun j hj hn => (ee _ (by omega)).symm) (fun j hj hn z => pfU_n hn))).symm (ee _ (by omega)) (ee _ (by omega)) (ee _ (by omega)) (ee _ (by omega)) rfl rfl (pEq (by rw [show a 1 = s 1 from ee _ (by omega)]; exact mk_cong (fun j hj z hz => ee _ (by omega)) (fun _ _ => rfl) (fun _ _ => rfl))) (pEq (by rw [ea0])) (pEq (by rw [show a 3 = s 3 from ee _ (by omega)]; exact fl_cong (fun j hj z hz => ee _ (by omega)) (fun _ _ => rfl) (fun _ _ _ => rfl) (fun _ _ _ => rfl))) (hpt.cg (Nat.le_of_eq (ee _ (by omega)).symm) (Nat.le_of_eq (ee _ (by omega)).symm) (Nat.le_of_eq (ee _ (by omega)).symm)) ⟨ct_u2 hct.1 k0 hi g ee ea4 hr, cS hct.2.1 b2 (ee _ (by omega)).symm (fun k _ _ => (ee _ (by omega)).symm), cF hct.2.2.1 ofd b3 (ee _ (by omega)).symm (fun k _ _ => (ee _ (by omega)).symm), cT_ hct.2.2.2.1 (fun k _ _ => (ee _ (by omega)).symm), hct.2.2.2.2⟩ hax hsh (by have hh := hhs.pop (fo' := fo) hkp (fun _ _ _ => rfl); rw [← hs] at hh; exact hh)
set_option maxHeartbeats 4000000 in
set_option maxRecDepth 100000 in
theorem ud_3 (l : Launch) (D : va_G) {cy : Nat → ClassId} {d0 : Nat} {a kp bt sz : Nat → Nat} {sheets : Nat → Int32} {ke km : Nat} {w : va_W} (x : Nat → Nat) (PA MA FQ HA SQ : Nat → Option Nat) (gt gn bs bh : Nat) (fnd bg : Int64) (GG GB GC SG RO UP LO HO V0 : Nat → Nat) (GA : Nat → Int64) (ha za sa ra AC WH ka fo : Nat → Nat) (RW : Nat → Nat → Nat) (NU : Nat → Nat → Int32) (pad fad : Nat → Nat → Nat) (PF LF : Nat → Nat → Nat → Nat) (gb : va_W) (hw : w.Perm (dB cy d0 x PA MA FQ HA SQ (a 0) (a 1) (a 3) (a 2) ke km gt gn bs bh fnd bg GG GB GC SG RO UP LO HO GA ++ (hsP cy ha za bt sz NU ++ (stP cy sa ra AC WH RW 20 ++ (mkPl pad ka a (a 1) ++ (pcPl cy pad PF a (a 0) ++ (flPa cy fad fo LF a (a 3) ++ gb))))))) (hpt : Ptr a PA MA FQ HA SQ pad fad ka ha sa) (hct : Cnt a PF LF SG UP LO fo) (hax : Axs GA V0 HO RO GC) (hsh : Shs bt sz sheets NU) (hhs : His a kp ke km fo AC WH RW) (hkp : 0 < km) {s : Nat → Nat} (hs : s = cur a kp ke 1) (hok1 : okA s) {q : Nat} (hq20 : q < 20) (hq2 : (ke + 20 - 1) % 20 = q) (hac : AC q = 3) (hb : s 1 < 20 ∧ ∃ i k u v z g : Nat, a = mrA s i k u v z g) : kq_l l D (cT cy) yX11_undo wsX11_undo 7 0 0 151 [.ref d0] w (fun r w1 => r = (nI (km - 1)).toInt64 ∧ IvD cy d0 s kp bt sz sheets ((ke + 20 - 1) % 20) (km - 1) w1) := by
  obtain ⟨⟨b0, b1, b2, b3⟩, opl, omk, osg, ofd, osh, oz⟩ := id hhs.ok
  have hpc : pcR PF a (a 0) := fun i hi => ⟨opl i hi, hct.1 i hi⟩
  have hma : maR a (a 0) (a 1) := omk
  obtain ⟨⟨k0, k1, k2, k3⟩, opl1, omk1, osg1, ofd1, osh1, oz1⟩ := id hok1
  have h20 := hhs.1
  have hk20 := hhs.2.1
  obtain ⟨g, i, k, u, v, z, g9, hc⟩ := hb
  have ee : ∀ k, k ≠ 1 → ¬ (202 + 6 * s 1 ≤ k ∧ k < 202 + 6 * s 1 + 6) → a k = s k := fun k h1 h2 => by rw [hc]; exact mr_e h1 h2
  have ea1 : a 1 = s 1 + 1 := by rw [hc]; rfl
  have hMe : mkPl pad ka a (a 1) = mkPl pad ka a (s 1) ++ mkC pad ka a (s 1) := by rw [ea1, mkPl, mkPl, pool_push]
  refine nk_l (qX11_undo_3 l D cy  d0 (x 1) (a 0) (x 2) (a 1) (x 3) (x 7) (x 10) (a 3) (x 11) (x 14) (x 17) (x 18) fnd (sa q) (WH q) (ra q) (RW q) (x 19) ke km SQ  hkp h20 hk20 (by rw [hq2]; exact hpt.2.2.2.2 q hq20) (by omega)) (hw.trans (pm_b0Tb1 bp_0_18x19 (st_get9 hq20 hac))) (Nat.le_of_ble_eq_true rfl) (Nat.le_of_ble_eq_true rfl) (Nat.le_of_ble_eq_true rfl) (Nat.le_of_ble_eq_true rfl) (fun r w1 h => ⟨_, List.Perm.refl _, ?_⟩)
  obtain ⟨e, rfl⟩ := h
  refine ⟨e, ?_⟩
  exact IvD_mk cy d0 (a 0) (a 1 - 1) (a 3) (a 2) ((ke + 20 - 1) % 20) (km - 1) x PA MA FQ HA SQ gt gn bs bh fnd bg GG GB GC SG RO UP LO HO V0 GA ha za sa ra AC WH ka fo RW NU pad fad PF LF (mkC pad ka a (s 1) ++ gb) ((pm_b0Tb1 bp_0_18x19 (st_get9 hq20 hac)).symm.trans (drop_M hMe)) (ee _ (by omega) (by omega)) (by omega) (ee _ (by omega) (by omega)) (ee _ (by omega) (by omega)) rfl rfl (pEq (mk_cong (fun j hj z hz => ee _ (by omega) (by omega)) (fun _ _ => rfl) (fun _ _ => rfl))) (pEq (by rw [show a 0 = s 0 from ee _ (by omega) (by omega)]; exact pc_cong (fun j hj => ee _ (by omega) (by omega)) (fun _ _ _ => rfl) (fun _ _ _ => rfl))) (pEq (by rw [show a 3 = s 3 from ee _ (by omega) (by omega)]; exact fl_cong (fun j hj z hz => ee _ (by omega) (by omega)) (fun _ _ => rfl) (fun _ _ _ => rfl) (fun _ _ _ => rfl))) (hpt.cg (Nat.le_of_eq (ee _ (by omega) (by omega)).symm) (by omega) (Nat.le_of_eq (ee _ (by omega) (by omega)).symm)) ⟨cP hct.1 opl b0 (ee _ (by omega) (by omega)).symm (fun k _ _ => (ee _ (by omega) (by omega)).symm), cS hct.2.1 b2 (ee _ (by omega) (by omega)).symm (fun k _ _ => (ee _ (by omega) (by omega)).symm), cF hct.2.2.1 ofd b3 (ee _ (by omega) (by omega)).symm (fun k _ _ => (ee _ (by omega) (by omega)).symm), cT_ hct.2.2.2.1 (fun k _ _ => (ee _ (by omega) (by omega)).symm), hct.2.2.2.2⟩ hax hsh (by have hh := hhs.pop (fo' := fo) hkp (fun _ _ _ => rfl); rw [← hs] at hh; exact hh)
set_option maxHeartbeats 4000000 in
set_option maxRecDepth 100000 in
theorem ud_4 (l : Launch) (D : va_G) {cy : Nat → ClassId} {d0 : Nat} {a kp bt sz : Nat → Nat} {sheets : Nat → Int32} {ke km : Nat} {w : va_W} (x : Nat → Nat) (PA MA FQ HA SQ : Nat → Option Nat) (gt gn bs bh : Nat) (fnd bg : Int64) (GG GB GC SG RO UP LO HO V0 : Nat → Nat) (GA : Nat → Int64) (ha za sa ra AC WH ka fo : Nat → Nat) (RW : Nat → Nat → Nat) (NU : Nat → Nat → Int32) (pad fad : Nat → Nat → Nat) (PF LF : Nat → Nat → Nat → Nat) (gb : va_W) (hw : w.Perm (dB cy d0 x PA MA FQ HA SQ (a 0) (a 1) (a 3) (a 2) ke km gt gn bs bh fnd bg GG GB GC SG RO UP LO HO GA ++ (hsP cy ha za bt sz NU ++ (stP cy sa ra AC WH RW 20 ++ (mkPl pad ka a (a 1) ++ (pcPl cy pad PF a (a 0) ++ (flPa cy fad fo LF a (a 3) ++ gb))))))) (hpt : Ptr a PA MA FQ HA SQ pad fad ka ha sa) (hct : Cnt a PF LF SG UP LO fo) (hax : Axs GA V0 HO RO GC) (hsh : Shs bt sz sheets NU) (hhs : His a kp ke km fo AC WH RW) (hkp : 0 < km) {s : Nat → Nat} (hs : s = cur a kp ke 1) (hok1 : okA s) {q : Nat} (hq20 : q < 20) (hq2 : (ke + 20 - 1) % 20 = q) (hac : AC q = 4) (hb : s 2 < 12 ∧ ∃ v : Nat, a = siA s v) : kq_l l D (cT cy) yX11_undo wsX11_undo 7 0 0 151 [.ref d0] w (fun r w1 => r = (nI (km - 1)).toInt64 ∧ IvD cy d0 s kp bt sz sheets ((ke + 20 - 1) % 20) (km - 1) w1) := by
  obtain ⟨⟨b0, b1, b2, b3⟩, opl, omk, osg, ofd, osh, oz⟩ := id hhs.ok
  have hpc : pcR PF a (a 0) := fun i hi => ⟨opl i hi, hct.1 i hi⟩
  have hma : maR a (a 0) (a 1) := omk
  obtain ⟨⟨k0, k1, k2, k3⟩, opl1, omk1, osg1, ofd1, osh1, oz1⟩ := id hok1
  have h20 := hhs.1
  have hk20 := hhs.2.1
  obtain ⟨g, v, hc⟩ := hb
  have ee : ∀ k, k ≠ 2 → k ≠ 322 + s 2 → a k = s k := fun k h1 h2 => by rw [hc]; exact si_e h1 h2
  have ea2 : a 2 = s 2 + 1 := by rw [hc]; rfl
  refine nk_l (qX11_undo_4 l D cy  d0 (x 1) (a 0) (x 2) (a 1) (x 3) (x 7) (x 10) (a 3) (x 11) (x 14) (x 17) (x 18) fnd (sa q) (WH q) (ra q) (RW q) (x 8) (a 2) (x 9) SG RO (x 19) ke km SQ  hkp h20 hk20 (by rw [hq2]; exact hpt.2.2.2.2 q hq20) b2 (by omega)) (hw.trans (pm_b0Tb1 bp_0_7x8x9x18x19 (st_get9 hq20 hac))) (Nat.le_of_ble_eq_true rfl) (Nat.le_of_ble_eq_true rfl) (Nat.le_of_ble_eq_true rfl) (Nat.le_of_ble_eq_true rfl) (fun r w1 h => ⟨_, List.Perm.refl _, ?_⟩)
  obtain ⟨e, rfl⟩ := h
  refine ⟨e, ?_⟩
  exact IvD_mk cy d0 (a 0) (a 1) (a 3) (a 2 - 1) ((ke + 20 - 1) % 20) (km - 1) x PA MA FQ HA SQ gt gn bs bh fnd bg GG GB GC SG RO UP LO HO V0 GA ha za sa ra AC WH ka fo RW NU pad fad PF LF gb (pm_b0Tb1 bp_0_7x8x9x18x19 (st_get9 hq20 hac)).symm (ee _ (by omega) (by omega)) (ee _ (by omega) (by omega)) (ee _ (by omega) (by omega)) (by omega) rfl rfl (pEq (by rw [show a 1 = s 1 from ee _ (by omega) (by omega)]; exact mk_cong (fun j hj z hz => ee _ (by omega) (by omega)) (fun _ _ => rfl) (fun _ _ => rfl))) (pEq (by rw [show a 0 = s 0 from ee _ (by omega) (by omega)]; exact pc_cong (fun j hj => ee _ (by omega) (by omega)) (fun _ _ _ => rfl) (fun _ _ _ => rfl))) (pEq (by rw [show a 3 = s 3 from ee _ (by omega) (by omega)]; exact fl_cong (fun j hj z hz => ee _ (by omega) (by omega)) (fun _ _ => rfl) (fun _ _ _ => rfl) (fun _ _ _ => rfl))) (hpt.cg (Nat.le_of_eq (ee _ (by omega) (by omega)).symm) (Nat.le_of_eq (ee _ (by omega) (by omega)).symm) (Nat.le_of_eq (ee _ (by omega) (by omega)).symm)) ⟨cP hct.1 opl b0 (ee _ (by omega) (by omega)).symm (fun k _ _ => (ee _ (by omega) (by omega)).symm), cS2 hct.2.1 (by omega) (fun k hk => (ee _ (by omega) (by omega)).symm), cF hct.2.2.1 ofd b3 (ee _ (by omega) (by omega)).symm (fun k _ _ => (ee _ (by omega) (by omega)).symm), cT_ hct.2.2.2.1 (fun k _ _ => (ee _ (by omega) (by omega)).symm), hct.2.2.2.2⟩ hax hsh (by have hh := hhs.pop (fo' := fo) hkp (fun _ _ _ => rfl); rw [← hs] at hh; exact hh)
set_option maxHeartbeats 4000000 in
set_option maxRecDepth 100000 in
theorem ud_5 (l : Launch) (D : va_G) {cy : Nat → ClassId} {d0 : Nat} {a kp bt sz : Nat → Nat} {sheets : Nat → Int32} {ke km : Nat} {w : va_W} (x : Nat → Nat) (PA MA FQ HA SQ : Nat → Option Nat) (gt gn bs bh : Nat) (fnd bg : Int64) (GG GB GC SG RO UP LO HO V0 : Nat → Nat) (GA : Nat → Int64) (ha za sa ra AC WH ka fo : Nat → Nat) (RW : Nat → Nat → Nat) (NU : Nat → Nat → Int32) (pad fad : Nat → Nat → Nat) (PF LF : Nat → Nat → Nat → Nat) (gb : va_W) (hw : w.Perm (dB cy d0 x PA MA FQ HA SQ (a 0) (a 1) (a 3) (a 2) ke km gt gn bs bh fnd bg GG GB GC SG RO UP LO HO GA ++ (hsP cy ha za bt sz NU ++ (stP cy sa ra AC WH RW 20 ++ (mkPl pad ka a (a 1) ++ (pcPl cy pad PF a (a 0) ++ (flPa cy fad fo LF a (a 3) ++ gb))))))) (hpt : Ptr a PA MA FQ HA SQ pad fad ka ha sa) (hct : Cnt a PF LF SG UP LO fo) (hax : Axs GA V0 HO RO GC) (hsh : Shs bt sz sheets NU) (hhs : His a kp ke km fo AC WH RW) (hkp : 0 < km) {s : Nat → Nat} (hs : s = cur a kp ke 1) (hok1 : okA s) {q : Nat} (hq20 : q < 20) (hq2 : (ke + 20 - 1) % 20 = q) (hac : AC q = 5) (hb : WH q = s 2 ∧ (∀ k, k < s 2 → RW q k = s (322 + k)) ∧ ∀ k, k ≠ 2 → ¬ (322 ≤ k ∧ k < 334) → a k = s k) : kq_l l D (cT cy) yX11_undo wsX11_undo 7 0 0 151 [.ref d0] w (fun r w1 => r = (nI (km - 1)).toInt64 ∧ IvD cy d0 s kp bt sz sheets ((ke + 20 - 1) % 20) (km - 1) w1) := by
  obtain ⟨⟨b0, b1, b2, b3⟩, opl, omk, osg, ofd, osh, oz⟩ := id hhs.ok
  have hpc : pcR PF a (a 0) := fun i hi => ⟨opl i hi, hct.1 i hi⟩
  have hma : maR a (a 0) (a 1) := omk
  obtain ⟨⟨k0, k1, k2, k3⟩, opl1, omk1, osg1, ofd1, osh1, oz1⟩ := id hok1
  have h20 := hhs.1
  have hk20 := hhs.2.1
  obtain ⟨hwh, hr, hee⟩ := hb
  have ee : ∀ k, k ≠ 2 → ¬ (322 ≤ k ∧ k < 334) → a k = s k := hee
  refine nk_l (qX11_undo_5 l D cy  d0 (x 1) (a 0) (x 2) (a 1) (x 3) (x 7) (x 10) (a 3) (x 11) (x 14) (x 17) (x 18) fnd (sa q) (WH q) (ra q) (RW q) (x 8) (a 2) (x 9) SG RO (x 19) ke km SQ  hkp h20 hk20 (by rw [hq2]; exact hpt.2.2.2.2 q hq20) (by omega)) (hw.trans (pm_b0Tb1 bp_0_7x8x9x18x19 (st_get9 hq20 hac))) (Nat.le_of_ble_eq_true rfl) (Nat.le_of_ble_eq_true rfl) (Nat.le_of_ble_eq_true rfl) (Nat.le_of_ble_eq_true rfl) (fun r w1 h => ⟨_, List.Perm.refl _, ?_⟩)
  obtain ⟨e, rfl⟩ := h
  refine ⟨e, ?_⟩
  exact IvD_mk cy d0 (a 0) (a 1) (a 3) (WH q) ((ke + 20 - 1) % 20) (km - 1) x PA MA FQ HA SQ gt gn bs bh fnd bg GG GB GC (va_cpy (RW q) SG 0 0 (WH q)) RO UP LO HO V0 GA ha za sa ra AC WH ka fo RW NU pad fad PF LF gb (pm_b0Tb1 bp_0_7x8x9x18x19 (st_get9 hq20 hac)).symm (ee _ (by omega) (by omega)) (ee _ (by omega) (by omega)) (ee _ (by omega) (by omega)) hwh rfl rfl (pEq (by rw [show a 1 = s 1 from ee _ (by omega) (by omega)]; exact mk_cong (fun j hj z hz => ee _ (by omega) (by omega)) (fun _ _ => rfl) (fun _ _ => rfl))) (pEq (by rw [show a 0 = s 0 from ee _ (by omega) (by omega)]; exact pc_cong (fun j hj => ee _ (by omega) (by omega)) (fun _ _ _ => rfl) (fun _ _ _ => rfl))) (pEq (by rw [show a 3 = s 3 from ee _ (by omega) (by omega)]; exact fl_cong (fun j hj z hz => ee _ (by omega) (by omega)) (fun _ _ => rfl) (fun _ _ _ => rfl) (fun _ _ _ => rfl))) (hpt.cg (Nat.le_of_eq (ee _ (by omega) (by omega)).symm) (Nat.le_of_eq (ee _ (by omega) (by omega)).symm) (Nat.le_of_eq (ee _ (by omega) (by omega)).symm)) ⟨cP hct.1 opl b0 (ee _ (by omega) (by omega)).symm (fun k _ _ => (ee _ (by omega) (by omega)).symm), fun k hk => by rw [cpy0 (by omega)]; exact hr k hk, cF hct.2.2.1 ofd b3 (ee _ (by omega) (by omega)).symm (fun k _ _ => (ee _ (by omega) (by omega)).symm), cT_ hct.2.2.2.1 (fun k _ _ => (ee _ (by omega) (by omega)).symm), hct.2.2.2.2⟩ hax hsh (by have hh := hhs.pop (fo' := fo) hkp (fun _ _ _ => rfl); rw [← hs] at hh; exact hh)
set_option maxHeartbeats 4000000 in
set_option maxRecDepth 100000 in
theorem ud_6 (l : Launch) (D : va_G) {cy : Nat → ClassId} {d0 : Nat} {a kp bt sz : Nat → Nat} {sheets : Nat → Int32} {ke km : Nat} {w : va_W} (x : Nat → Nat) (PA MA FQ HA SQ : Nat → Option Nat) (gt gn bs bh : Nat) (fnd bg : Int64) (GG GB GC SG RO UP LO HO V0 : Nat → Nat) (GA : Nat → Int64) (ha za sa ra AC WH ka fo : Nat → Nat) (RW : Nat → Nat → Nat) (NU : Nat → Nat → Int32) (pad fad : Nat → Nat → Nat) (PF LF : Nat → Nat → Nat → Nat) (gb : va_W) (hw : w.Perm (dB cy d0 x PA MA FQ HA SQ (a 0) (a 1) (a 3) (a 2) ke km gt gn bs bh fnd bg GG GB GC SG RO UP LO HO GA ++ (hsP cy ha za bt sz NU ++ (stP cy sa ra AC WH RW 20 ++ (mkPl pad ka a (a 1) ++ (pcPl cy pad PF a (a 0) ++ (flPa cy fad fo LF a (a 3) ++ gb))))))) (hpt : Ptr a PA MA FQ HA SQ pad fad ka ha sa) (hct : Cnt a PF LF SG UP LO fo) (hax : Axs GA V0 HO RO GC) (hsh : Shs bt sz sheets NU) (hhs : His a kp ke km fo AC WH RW) (hkp : 0 < km) {s : Nat → Nat} (hs : s = cur a kp ke 1) (hok1 : okA s) {q : Nat} (hq20 : q < 20) (hq2 : (ke + 20 - 1) % 20 = q) (hac : AC q = 6) (hb : s 3 < 8 ∧ ∃ so ch ho : Nat, a = fiA s so ch ho) : kq_l l D (cT cy) yX11_undo wsX11_undo 7 0 0 151 [.ref d0] w (fun r w1 => r = (nI (km - 1)).toInt64 ∧ IvD cy d0 s kp bt sz sheets ((ke + 20 - 1) % 20) (km - 1) w1) := by
  obtain ⟨⟨b0, b1, b2, b3⟩, opl, omk, osg, ofd, osh, oz⟩ := id hhs.ok
  have hpc : pcR PF a (a 0) := fun i hi => ⟨opl i hi, hct.1 i hi⟩
  have hma : maR a (a 0) (a 1) := omk
  obtain ⟨⟨k0, k1, k2, k3⟩, opl1, omk1, osg1, ofd1, osh1, oz1⟩ := id hok1
  have h20 := hhs.1
  have hk20 := hhs.2.1
  obtain ⟨g, so, ch, ho, hc⟩ := hb
  have ee : ∀ k, k ≠ 3 → ¬ (334 + 5 * s 3 ≤ k ∧ k < 334 + 5 * s 3 + 5) → a k = s k := fun k h1 h2 => by rw [hc]; exact fi_e h1 h2
  have ea3 : a 3 = s 3 + 1 := by rw [hc]; rfl
  have hFe : flPa cy fad fo LF a (a 3) = flPa cy fad fo LF a (s 3) ++ flF cy fad fo LF a (s 3) := by rw [ea3, flPa, flPa, flP, flP, pool_push]
  refine nk_l (qX11_undo_6 l D cy  d0 (x 1) (a 0) (x 2) (a 1) (x 3) (x 7) (x 10) (a 3) (x 11) (x 14) (x 17) (x 18) fnd (sa q) (WH q) (ra q) (RW q) (x 19) ke km SQ  hkp h20 hk20 (by rw [hq2]; exact hpt.2.2.2.2 q hq20) (by omega)) (hw.trans (pm_b0Tb1 bp_0_18x19 (st_get9 hq20 hac))) (Nat.le_of_ble_eq_true rfl) (Nat.le_of_ble_eq_true rfl) (Nat.le_of_ble_eq_true rfl) (Nat.le_of_ble_eq_true rfl) (fun r w1 h => ⟨_, List.Perm.refl _, ?_⟩)
  obtain ⟨e, rfl⟩ := h
  refine ⟨e, ?_⟩
  exact IvD_mk cy d0 (a 0) (a 1) (a 3 - 1) (a 2) ((ke + 20 - 1) % 20) (km - 1) x PA MA FQ HA SQ gt gn bs bh fnd bg GG GB GC SG RO UP LO HO V0 GA ha za sa ra AC WH ka fo RW NU pad fad PF LF (flF cy fad fo LF a (s 3) ++ gb) ((pm_b0Tb1 bp_0_18x19 (st_get9 hq20 hac)).symm.trans (drop_F hFe)) (ee _ (by omega) (by omega)) (ee _ (by omega) (by omega)) (by omega) (ee _ (by omega) (by omega)) rfl rfl (pEq (by rw [show a 1 = s 1 from ee _ (by omega) (by omega)]; exact mk_cong (fun j hj z hz => ee _ (by omega) (by omega)) (fun _ _ => rfl) (fun _ _ => rfl))) (pEq (by rw [show a 0 = s 0 from ee _ (by omega) (by omega)]; exact pc_cong (fun j hj => ee _ (by omega) (by omega)) (fun _ _ _ => rfl) (fun _ _ _ => rfl))) (pEq (fl_cong (fun j hj z hz => ee _ (by omega) (by omega)) (fun _ _ => rfl) (fun _ _ _ => rfl) (fun _ _ _ => rfl))) (hpt.cg (Nat.le_of_eq (ee _ (by omega) (by omega)).symm) (Nat.le_of_eq (ee _ (by omega) (by omega)).symm) (by omega)) ⟨cP hct.1 opl b0 (ee _ (by omega) (by omega)).symm (fun k _ _ => (ee _ (by omega) (by omega)).symm), cS hct.2.1 b2 (ee _ (by omega) (by omega)).symm (fun k _ _ => (ee _ (by omega) (by omega)).symm), cF3 hct.2.2.1 (by omega) (fun i hi => Nat.le_of_eq (ee _ (by omega) (by omega)).symm) (fun i hi k hk j hj => by have := (ofd1 i hi).2.2.2.2.1; exact (ee _ (by omega) (by omega)).symm), cT_ hct.2.2.2.1 (fun k _ _ => (ee _ (by omega) (by omega)).symm), hct.2.2.2.2⟩ hax hsh (by have hh := hhs.pop (fo' := fo) hkp (fun _ _ _ => rfl); rw [← hs] at hh; exact hh)
set_option maxHeartbeats 4000000 in
set_option maxRecDepth 100000 in
theorem ud_7 (l : Launch) (D : va_G) {cy : Nat → ClassId} {d0 : Nat} {a kp bt sz : Nat → Nat} {sheets : Nat → Int32} {ke km : Nat} {w : va_W} (x : Nat → Nat) (PA MA FQ HA SQ : Nat → Option Nat) (gt gn bs bh : Nat) (fnd bg : Int64) (GG GB GC SG RO UP LO HO V0 : Nat → Nat) (GA : Nat → Int64) (ha za sa ra AC WH ka fo : Nat → Nat) (RW : Nat → Nat → Nat) (NU : Nat → Nat → Int32) (pad fad : Nat → Nat → Nat) (PF LF : Nat → Nat → Nat → Nat) (gb : va_W) (hw : w.Perm (dB cy d0 x PA MA FQ HA SQ (a 0) (a 1) (a 3) (a 2) ke km gt gn bs bh fnd bg GG GB GC SG RO UP LO HO GA ++ (hsP cy ha za bt sz NU ++ (stP cy sa ra AC WH RW 20 ++ (mkPl pad ka a (a 1) ++ (pcPl cy pad PF a (a 0) ++ (flPa cy fad fo LF a (a 3) ++ gb))))))) (hpt : Ptr a PA MA FQ HA SQ pad fad ka ha sa) (hct : Cnt a PF LF SG UP LO fo) (hax : Axs GA V0 HO RO GC) (hsh : Shs bt sz sheets NU) (hhs : His a kp ke km fo AC WH RW) (hkp : 0 < km) {s : Nat → Nat} (hs : s = cur a kp ke 1) (hok1 : okA s) {q : Nat} (hq20 : q < 20) (hq2 : (ke + 20 - 1) % 20 = q) (hac : AC q = 7) (hb : WH q < s 3 ∧ s (334 + 5 * WH q + 4) < 4 ∧ ∃ cr dr z : Nat, a = loA s (WH q) cr dr z) : kq_l l D (cT cy) yX11_undo wsX11_undo 7 0 0 151 [.ref d0] w (fun r w1 => r = (nI (km - 1)).toInt64 ∧ IvD cy d0 s kp bt sz sheets ((ke + 20 - 1) % 20) (km - 1) w1) := by
  obtain ⟨⟨b0, b1, b2, b3⟩, opl, omk, osg, ofd, osh, oz⟩ := id hhs.ok
  have hpc : pcR PF a (a 0) := fun i hi => ⟨opl i hi, hct.1 i hi⟩
  have hma : maR a (a 0) (a 1) := omk
  obtain ⟨⟨k0, k1, k2, k3⟩, opl1, omk1, osg1, ofd1, osh1, oz1⟩ := id hok1
  have h20 := hhs.1
  have hk20 := hhs.2.1
  obtain ⟨hi, g, cr, dr, z, hc⟩ := hb
  have ee : ∀ k, k ≠ 334 + 5 * WH q + 4 → ¬ (374 + 12 * WH q + 3 * s (334 + 5 * WH q + 4) ≤ k ∧ k < 374 + 12 * WH q + 3 * s (334 + 5 * WH q + 4) + 3) → a k = s k := fun k h1 h2 => by rw [hc]; exact lo_e h1 h2
  have ea4 : a (334 + 5 * WH q + 4) = s (334 + 5 * WH q + 4) + 1 := by rw [hc]; exact lo_4 ..
  have ea3 : a 3 = s 3 := ee _ (by omega) (by omega)
  have hia : WH q < a 3 := by omega
  refine nk_l (qX11_undo_7 l D cy  d0 (x 1) (a 0) (x 2) (a 1) (x 3) (x 7) (x 10) (a 3) (x 11) (x 14) (x 17) (x 18) fnd (sa q) (WH q) (ra q) (RW q) FQ (fad 0 ((WH q))) (a (334 + 5 * ((WH q)))) (a (334 + 5 * ((WH q)) + 1)) (a (334 + 5 * ((WH q)) + 2)) (fad 1 ((WH q))) (fad 2 ((WH q))) (fad 3 ((WH q))) (a (334 + 5 * ((WH q)) + 4)) (a (334 + 5 * ((WH q)) + 3)) (fo ((WH q))) (LF 0 ((WH q))) (LF 1 ((WH q))) (LF 2 ((WH q))) (x 19) ke km SQ  hkp h20 hk20 (by rw [hq2]; exact hpt.2.2.2.2 q hq20) hia b3 (hpt.2.2.1 _ hia) (ofd _ hia).2.2.2.2.1 (by omega)) (hw.trans (pm_b0Tb1Fb2 bp_0_10_18x19 (st_get9 hq20 hac) (fl_get (i := WH q) hia))) (Nat.le_of_ble_eq_true rfl) (Nat.le_of_ble_eq_true rfl) (Nat.le_of_ble_eq_true rfl) (Nat.le_of_ble_eq_true rfl) (fun r w1 h => ⟨_, List.Perm.refl _, ?_⟩)
  obtain ⟨e, rfl⟩ := h
  refine ⟨e, ?_⟩
  exact IvD_mk cy d0 (a 0) (a 1) (a 3) (a 2) ((ke + 20 - 1) % 20) (km - 1) x PA MA FQ HA SQ gt gn bs bh fnd bg GG GB GC SG RO UP LO HO V0 GA ha za sa ra AC WH ka fo RW NU pad fad PF LF gb (pm_b0Tb1Fb2 bp_0_10_18x19 (st_get9 hq20 hac) (fl_put (a' := s) (fo' := fo) (LF' := LF) (lk := a (334 + 5 * WH q + 4) - 1) hia (by omega) (ee _ (by omega) (by omega)).symm rfl rfl rfl rfl (fun z hz => (ee _ (by omega) (by omega)).symm) (fun j hj hn z hz => (ee _ (by omega) (by omega)).symm) (fun _ _ _ => rfl) (fun _ _ _ _ => rfl))).symm (ee _ (by omega) (by omega)) (ee _ (by omega) (by omega)) (ee _ (by omega) (by omega)) (ee _ (by omega) (by omega)) rfl rfl (pEq (by rw [show a 1 = s 1 from ee _ (by omega) (by omega)]; exact mk_cong (fun j hj z hz => ee _ (by omega) (by omega)) (fun _ _ => rfl) (fun _ _ => rfl))) (pEq (by rw [show a 0 = s 0 from ee _ (by omega) (by omega)]; exact pc_cong (fun j hj => ee _ (by omega) (by omega)) (fun _ _ _ => rfl) (fun _ _ _ => rfl))) (pEq (by rw [ea3])) (hpt.cg (Nat.le_of_eq (ee _ (by omega) (by omega)).symm) (Nat.le_of_eq (ee _ (by omega) (by omega)).symm) (Nat.le_of_eq (ee _ (by omega) (by omega)).symm)) ⟨cP hct.1 opl b0 (ee _ (by omega) (by omega)).symm (fun k _ _ => (ee _ (by omega) (by omega)).symm), cS hct.2.1 b2 (ee _ (by omega) (by omega)).symm (fun k _ _ => (ee _ (by omega) (by omega)).symm), cF3 hct.2.2.1 (by omega) (fun i hi => by by_cases y : i = WH q; rw [y, ea4]; omega; exact Nat.le_of_eq (ee _ (by omega) (by omega)).symm) (fun i hi k hk j hj => by have := (ofd1 i hi).2.2.2.2.1; by_cases y : i = WH q; rw [y] at hk ⊢; exact (ee _ (by omega) (by omega)).symm; exact (ee _ (by omega) (by omega)).symm), cT_ hct.2.2.2.1 (fun k _ _ => (ee _ (by omega) (by omega)).symm), hct.2.2.2.2⟩ hax hsh (by have hh := hhs.pop (fo' := fo) hkp (fun _ _ _ => rfl); rw [← hs] at hh; exact hh)
set_option maxHeartbeats 4000000 in
set_option maxRecDepth 100000 in
theorem ud_8 (l : Launch) (D : va_G) {cy : Nat → ClassId} {d0 : Nat} {a kp bt sz : Nat → Nat} {sheets : Nat → Int32} {ke km : Nat} {w : va_W} (x : Nat → Nat) (PA MA FQ HA SQ : Nat → Option Nat) (gt gn bs bh : Nat) (fnd bg : Int64) (GG GB GC SG RO UP LO HO V0 : Nat → Nat) (GA : Nat → Int64) (ha za sa ra AC WH ka fo : Nat → Nat) (RW : Nat → Nat → Nat) (NU : Nat → Nat → Int32) (pad fad : Nat → Nat → Nat) (PF LF : Nat → Nat → Nat → Nat) (gb : va_W) (hw : w.Perm (dB cy d0 x PA MA FQ HA SQ (a 0) (a 1) (a 3) (a 2) ke km gt gn bs bh fnd bg GG GB GC SG RO UP LO HO GA ++ (hsP cy ha za bt sz NU ++ (stP cy sa ra AC WH RW 20 ++ (mkPl pad ka a (a 1) ++ (pcPl cy pad PF a (a 0) ++ (flPa cy fad fo LF a (a 3) ++ gb))))))) (hpt : Ptr a PA MA FQ HA SQ pad fad ka ha sa) (hct : Cnt a PF LF SG UP LO fo) (hax : Axs GA V0 HO RO GC) (hsh : Shs bt sz sheets NU) (hhs : His a kp ke km fo AC WH RW) (hkp : 0 < km) {s : Nat → Nat} (hs : s = cur a kp ke 1) (hok1 : okA s) {q : Nat} (hq20 : q < 20) (hq2 : (ke + 20 - 1) % 20 = q) (hac : AC q = 8) (hb : WH q < s 3 ∧ s (334 + 5 * WH q + 3) = 0 ∧ a = dgA s (WH q) (if fo (WH q) = 0 then 0 else s (334 + 5 * WH q + 4))) : kq_l l D (cT cy) yX11_undo wsX11_undo 7 0 0 151 [.ref d0] w (fun r w1 => r = (nI (km - 1)).toInt64 ∧ IvD cy d0 s kp bt sz sheets ((ke + 20 - 1) % 20) (km - 1) w1) := by
  obtain ⟨⟨b0, b1, b2, b3⟩, opl, omk, osg, ofd, osh, oz⟩ := id hhs.ok
  have hpc : pcR PF a (a 0) := fun i hi => ⟨opl i hi, hct.1 i hi⟩
  have hma : maR a (a 0) (a 1) := omk
  obtain ⟨⟨k0, k1, k2, k3⟩, opl1, omk1, osg1, ofd1, osh1, oz1⟩ := id hok1
  have h20 := hhs.1
  have hk20 := hhs.2.1
  obtain ⟨hi, g, hc⟩ := hb
  have ee : ∀ k, k < 470 → k ≠ 334 + 5 * WH q + 3 → a k = s k := fun k h1 h2 => by rw [hc]; exact dgA_lo h1 h2 _
  have ea3 : a 3 = s 3 := ee _ (by omega) (by omega)
  have hia : WH q < a 3 := by omega
  have ea4 : a (334 + 5 * WH q + 4) = s (334 + 5 * WH q + 4) := ee _ (by omega) (by omega)
  have hsl := (ofd1 _ hi).2.2.2.2.1
  have hdu : ∀ k, k ≤ a (334 + 5 * WH q + 4) → ∀ c, dU a (WH q) k c = dU s (WH q) k c ∧ dL a (WH q) k c = dL s (WH q) k c := fun k hk c => dU_cg (ee _ (by omega) (by omega)) (fun z hz j hj => ee _ (by omega) (by omega))
  have hv : fo (WH q) ≠ 0 → ∀ c, c < 64 → UP c = s (470 + 2 * c) + dU a (WH q) (a (334 + 5 * WH q + 4)) c ∧ LO c = s (470 + 2 * c + 1) + dL a (WH q) (a (334 + 5 * WH q + 4)) c := fun hf c hc9 => by
    obtain ⟨t1, t2⟩ := hct.2.2.2.1 c hc9
    obtain ⟨v1, v2⟩ := dg_v (a := s) (f := WH q) (by omega) (s (334 + 5 * WH q + 4)) c
    obtain ⟨d1, d2⟩ := hdu _ (Nat.le_refl _) c
    rw [t1, t2, d1, d2, ea4, ← v1, ← v2, hc, if_neg hf]
    exact ⟨rfl, rfl⟩
  have hcc : ∀ k, k < a (334 + 5 * WH q + 4) → fcC (a (334 + 5 * WH q)) (LF 0 (WH q)) (LF 1 (WH q)) k = ccA a (WH q) k := fun k hk => by
    show (a (334 + 5 * WH q) * 4 + LF 0 (WH q) k) * 4 + LF 1 (WH q) k = _
    have g0 : LF 0 (WH q) k = a (374 + 12 * WH q + 3 * k) := hct.2.2.1 _ hia k hk 0 (by decide)
    rw [g0, hct.2.2.1 _ hia k hk 1 (by decide)]
    unfold ccA
    omega
  have hpo : fo (WH q) ≠ 0 → ∀ k, k < a (334 + 5 * WH q + 4) → LF 2 (WH q) k ≤ fdU (a (334 + 5 * WH q)) (LF 0 (WH q)) (LF 1 (WH q)) (LF 2 (WH q)) UP k (fcC (a (334 + 5 * WH q)) (LF 0 (WH q)) (LF 1 (WH q)) k) ∧ 1 ≤ fdL (a (334 + 5 * WH q)) (LF 0 (WH q)) (LF 1 (WH q)) LO k (fcC (a (334 + 5 * WH q)) (LF 0 (WH q)) (LF 1 (WH q)) k) := fun hf k hk => by
    have hl := cc_lt (ofd _ hia) hk
    obtain ⟨x1, x2⟩ := hv hf _ hl
    obtain ⟨y1, y2⟩ := fd_v (hct.2.2.1 _ hia) UP LO k (by omega) (ccA a (WH q) k)
    obtain ⟨m1, m2⟩ := dU_mono (a := a) (f := WH q) (c := ccA a (WH q) k) (k := k + 1) (n := a (334 + 5 * WH q + 4)) (by omega)
    have e2 := hct.2.2.1 _ hia k hk 2 (by decide)
    rw [dU, if_pos rfl] at m1
    rw [dL, if_pos rfl] at m2
    rw [hcc k hk, y1, y2, x1, x2, e2]
    omega
  refine nk_l (qX11_undo_8 l D cy  d0 (x 1) (a 0) (x 2) (a 1) (x 3) (x 7) (x 10) (a 3) (x 11) (x 14) (x 17) (x 18) fnd (sa q) (WH q) (ra q) (RW q) FQ (fad 0 ((WH q))) (a (334 + 5 * ((WH q)))) (a (334 + 5 * ((WH q)) + 1)) (a (334 + 5 * ((WH q)) + 2)) (fad 1 ((WH q))) (fad 2 ((WH q))) (fad 3 ((WH q))) (a (334 + 5 * ((WH q)) + 4)) (a (334 + 5 * ((WH q)) + 3)) (fo ((WH q))) (LF 0 ((WH q))) (LF 1 ((WH q))) (LF 2 ((WH q))) (x 12) (x 13) UP LO (x 19) ke km SQ  hkp h20 hk20 (by rw [hq2]; exact hpt.2.2.2.2 q hq20) hia b3 (hpt.2.2.1 _ hia) (ofd _ hia).2.2.2.2.1 (lk_ok (ofd _ hia) (hct.2.2.1 _ hia)) (ofd _ hia).1 (hct.2.2.2.2 _) hpo) (hw.trans (pm_b0Tb1Fb2 bp_0_10_11x12x13x18x19 (st_get9 hq20 hac) (fl_get (i := WH q) hia))) (Nat.le_of_ble_eq_true rfl) (Nat.le_of_ble_eq_true rfl) (Nat.le_of_ble_eq_true rfl) (Nat.le_of_ble_eq_true rfl) (fun r w1 h => ⟨_, List.Perm.refl _, ?_⟩)
  obtain ⟨e, rfl⟩ := h
  refine ⟨e, ?_⟩
  exact IvD_mk cy d0 (a 0) (a 1) (a 3) (a 2) ((ke + 20 - 1) % 20) (km - 1) x PA MA FQ HA SQ gt gn bs bh fnd bg GG GB GC SG RO (if fo (WH q) = 0 then UP else fdU (a (334 + 5 * WH q)) (LF 0 (WH q)) (LF 1 (WH q)) (LF 2 (WH q)) UP (a (334 + 5 * WH q + 4))) (if fo (WH q) = 0 then LO else fdL (a (334 + 5 * WH q)) (LF 0 (WH q)) (LF 1 (WH q)) LO (a (334 + 5 * WH q + 4))) HO V0 GA ha za sa ra AC WH ka (upN fo (WH q) 0) RW NU pad fad PF LF gb (pm_b0Tb1Fb2 bp_0_10_11x12x13x18x19 (st_get9 hq20 hac) (fl_put (a' := s) (fo' := upN fo (WH q) 0) (LF' := LF) hia (ee _ (by omega) (by omega)).symm g upN_s rfl rfl rfl (fun z hz => (ee _ (by omega) (by omega)).symm) (fun j hj hn z hz => (ee _ (by omega) (by omega)).symm) (fun j hj hn => upN_n hn) (fun _ _ _ _ => rfl))).symm (ee _ (by omega) (by omega)) (ee _ (by omega) (by omega)) (ee _ (by omega) (by omega)) (ee _ (by omega) (by omega)) rfl rfl (pEq (by rw [show a 1 = s 1 from ee _ (by omega) (by omega)]; exact mk_cong (fun j hj z hz => ee _ (by omega) (by omega)) (fun _ _ => rfl) (fun _ _ => rfl))) (pEq (by rw [show a 0 = s 0 from ee _ (by omega) (by omega)]; exact pc_cong (fun j hj => ee _ (by omega) (by omega)) (fun _ _ _ => rfl) (fun _ _ _ => rfl))) (pEq (by rw [ea3])) (hpt.cg (Nat.le_of_eq (ee _ (by omega) (by omega)).symm) (Nat.le_of_eq (ee _ (by omega) (by omega)).symm) (Nat.le_of_eq (ee _ (by omega) (by omega)).symm)) ⟨cP hct.1 opl b0 (ee _ (by omega) (by omega)).symm (fun k _ _ => (ee _ (by omega) (by omega)).symm), cS hct.2.1 b2 (ee _ (by omega) (by omega)).symm (fun k _ _ => (ee _ (by omega) (by omega)).symm), cF3 hct.2.2.1 (by omega) (fun i hi => Nat.le_of_eq (ee _ (by omega) (by omega)).symm) (fun i hi k hk j hj => by have := (ofd1 i hi).2.2.2.2.1; exact (ee _ (by omega) (by omega)).symm), fun c hc9 => by by_cases y : fo (WH q) = 0; rw [if_pos y, if_pos y]; obtain ⟨t1, t2⟩ := hct.2.2.2.1 c hc9; rw [t1, t2, hc, if_pos y]; obtain ⟨v1, v2⟩ := dg_v (a := s) (f := WH q) (by omega) 0 c; exact ⟨v1, v2⟩; rw [if_neg y, if_neg y]; obtain ⟨y1, y2⟩ := fd_v (hct.2.2.1 _ hia) UP LO _ (Nat.le_refl _) c; obtain ⟨x1, x2⟩ := hv y c hc9; rw [y1, y2, x1, x2, Nat.add_sub_cancel, Nat.add_sub_cancel]; exact ⟨rfl, rfl⟩, fun j => by simp only [upN]; split; omega; exact hct.2.2.2.2 j⟩ hax hsh (by have hh := hhs.pop (fo' := upN fo (WH q) 0) hkp (fun i hi9 hd => upN_n (fun z => by rw [← hs, z, g] at hd; exact absurd hd (by decide))); rw [← hs] at hh; exact hh)
theorem kk_same {l : Launch} {D : va_G} {tys : List (ClassId × FieldType)} {y : MethodName} {ws : List Cond} {fr mc ms lo fr' lo' : Nat} {av : List Value} {w : va_W} {post post' : Int64 → va_W → Prop} (h : kq_l l D tys y ws fr mc ms lo av w post) (h1 : fr ≤ fr') (h4 : lo ≤ lo') (hq : ∀ r w1, post r w1 → post' r w1) : kq_l l D tys y ws fr' mc ms lo' av w post' := kk_l (wr := []) h (by rw [List.append_nil]) h1 (Nat.le_refl _) (Nat.le_refl _) h4 (fun r w1 g => ⟨w1, by rw [List.append_nil], hq r w1 g⟩)
set_option maxHeartbeats 4000000 in
set_option maxRecDepth 100000 in
theorem ik_undo (l : Launch) (D : va_G) {cy : Nat → ClassId} {d0 : Nat} {a kp bt sz : Nat → Nat} {sheets : Nat → Int32} {ke km : Nat} {w : va_W} (hI : IvD cy d0 a kp bt sz sheets ke km w)  : kq_l l D (cT cy) yX11_undo wsX11_undo 7 0 0 168 [.ref d0] w (fun r w1 => MP_undo a kp bt sz sheets ke km  r (fun a kp bt sz sheets ke km => IvD cy d0 a kp bt sz sheets ke km w1)) := by
  obtain ⟨x, PA, MA, FQ, HA, SQ, gt, gn, bs, bh, fnd, bg, GG, GB, GC, SG, RO, UP, LO, HO, V0, GA, ha, za, sa, ra, AC, WH, ka, fo, RW, NU, pad, fad, PF, LF, gb, hw, hpt, hct, hax, hsh, hhs⟩ := hI
  obtain ⟨⟨b0, b1, b2, b3⟩, opl, omk, osg, ofd, osh, oz⟩ := id hhs.ok
  have hpc : pcR PF a (a 0) := fun i hi => ⟨opl i hi, hct.1 i hi⟩
  have hma : maR a (a 0) (a 1) := omk
  by_cases h0 : km = 0
  · refine nk_l (qX11_undo0 l D cy  d0 (x 1) (a 0) (x 2) (a 1) (x 3) (x 7) (x 10) (a 3) (x 11) (x 14) (x 17) (x 18) fnd (x 19) ke km SQ  h0) (hw.trans (pm_b0 bp_0x18x19)) (Nat.le_of_ble_eq_true rfl) (Nat.le_of_ble_eq_true rfl) (Nat.le_of_ble_eq_true rfl) (Nat.le_of_ble_eq_true rfl) (fun r w1 h => ⟨_, List.Perm.refl _, ?_⟩)
    rcases h with ⟨e, rfl⟩
    · exact .inl ⟨h0, e, ⟨x, PA, MA, FQ, HA, SQ, gt, gn, bs, bh, _, bg, GG, GB, GC, SG, RO, UP, LO, HO, V0, GA, ha, za, sa, ra, AC, WH, ka, fo, RW, NU, pad, fad, PF, LF, gb, (pm_b0 bp_0x18x19).symm, hpt, hct, hax, hsh, hhs⟩⟩
  · have hkp : 0 < km := by omega
    have hb := hhs.2.2.2.1 0 hkp
    have hok1 := hhs.2.2.1 1 (by omega)
    have hq20 : slt ke 0 < 20 := Nat.mod_lt _ (by decide)
    have hq2 : (ke + 20 - 1) % 20 = slt ke 0 := rfl
    have hgo : ∀ r w1, (r = (nI (km - 1)).toInt64 ∧ IvD cy d0 (cur a kp ke 1) kp bt sz sheets ((ke + 20 - 1) % 20) (km - 1) w1) → MP_undo a kp bt sz sheets ke km  r (fun a kp bt sz sheets ke km => IvD cy d0 a kp bt sz sheets ke km w1) := fun r w1 h => by
      refine .inr ⟨hkp, h.1, ?_⟩
      rw [cur_1 oz]
      exact h.2
    rcases hb with ⟨hac, hb⟩ | ⟨hac, hb⟩ | ⟨hac, hb⟩ | ⟨hac, hb⟩ | ⟨hac, hb⟩ | ⟨hac, hb⟩ | ⟨hac, hb⟩ | ⟨hac, hb⟩ | ⟨hac, hb⟩
    · exact kk_same (ud_0 l D x PA MA FQ HA SQ gt gn bs bh fnd bg GG GB GC SG RO UP LO HO V0 GA ha za sa ra AC WH ka fo RW NU pad fad PF LF gb hw hpt hct hax hsh hhs hkp rfl hok1 hq20 hq2 hac hb) (Nat.le_of_ble_eq_true rfl) (Nat.le_of_ble_eq_true rfl) hgo
    · exact kk_same (ud_1 l D x PA MA FQ HA SQ gt gn bs bh fnd bg GG GB GC SG RO UP LO HO V0 GA ha za sa ra AC WH ka fo RW NU pad fad PF LF gb hw hpt hct hax hsh hhs hkp rfl hok1 hq20 hq2 hac hb) (Nat.le_of_ble_eq_true rfl) (Nat.le_of_ble_eq_true rfl) hgo
    · exact kk_same (ud_2 l D x PA MA FQ HA SQ gt gn bs bh fnd bg GG GB GC SG RO UP LO HO V0 GA ha za sa ra AC WH ka fo RW NU pad fad PF LF gb hw hpt hct hax hsh hhs hkp rfl hok1 hq20 hq2 hac hb) (Nat.le_of_ble_eq_true rfl) (Nat.le_of_ble_eq_true rfl) hgo
    · exact kk_same (ud_3 l D x PA MA FQ HA SQ gt gn bs bh fnd bg GG GB GC SG RO UP LO HO V0 GA ha za sa ra AC WH ka fo RW NU pad fad PF LF gb hw hpt hct hax hsh hhs hkp rfl hok1 hq20 hq2 hac hb) (Nat.le_of_ble_eq_true rfl) (Nat.le_of_ble_eq_true rfl) hgo
    · exact kk_same (ud_4 l D x PA MA FQ HA SQ gt gn bs bh fnd bg GG GB GC SG RO UP LO HO V0 GA ha za sa ra AC WH ka fo RW NU pad fad PF LF gb hw hpt hct hax hsh hhs hkp rfl hok1 hq20 hq2 hac hb) (Nat.le_of_ble_eq_true rfl) (Nat.le_of_ble_eq_true rfl) hgo
    · exact kk_same (ud_5 l D x PA MA FQ HA SQ gt gn bs bh fnd bg GG GB GC SG RO UP LO HO V0 GA ha za sa ra AC WH ka fo RW NU pad fad PF LF gb hw hpt hct hax hsh hhs hkp rfl hok1 hq20 hq2 hac hb) (Nat.le_of_ble_eq_true rfl) (Nat.le_of_ble_eq_true rfl) hgo
    · exact kk_same (ud_6 l D x PA MA FQ HA SQ gt gn bs bh fnd bg GG GB GC SG RO UP LO HO V0 GA ha za sa ra AC WH ka fo RW NU pad fad PF LF gb hw hpt hct hax hsh hhs hkp rfl hok1 hq20 hq2 hac hb) (Nat.le_of_ble_eq_true rfl) (Nat.le_of_ble_eq_true rfl) hgo
    · exact kk_same (ud_7 l D x PA MA FQ HA SQ gt gn bs bh fnd bg GG GB GC SG RO UP LO HO V0 GA ha za sa ra AC WH ka fo RW NU pad fad PF LF gb hw hpt hct hax hsh hhs hkp rfl hok1 hq20 hq2 hac hb) (Nat.le_of_ble_eq_true rfl) (Nat.le_of_ble_eq_true rfl) hgo
    · exact kk_same (ud_8 l D x PA MA FQ HA SQ gt gn bs bh fnd bg GG GB GC SG RO UP LO HO V0 GA ha za sa ra AC WH ka fo RW NU pad fad PF LF gb hw hpt hct hax hsh hhs hkp rfl hok1 hq20 hq2 hac hb) (Nat.le_of_ble_eq_true rfl) (Nat.le_of_ble_eq_true rfl) hgo
