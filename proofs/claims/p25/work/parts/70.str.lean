/-! ===== the answers of calls that only ask, on both sides ===== -/
theorem pcI_sc {n : Nat} {U : Int} {S : Nat} (hn : 0 < n) (hS : 0 < S) (zf : Int32) : pcI ((n : Int) * U) (n * S) zf = pcI U S zf := by
  have hg : Nat.gcd ((n : Int) * U).natAbs (n * S) = n * Nat.gcd U.natAbs S := by rw [Int.natAbs_mul, Int.natAbs_natCast, Nat.gcd_mul_left]
  unfold pcI
  rw [hg]
  split
  · rw [Int.natCast_mul, Int.mul_tdiv_mul_of_pos _ _ (by omega)]
  · rw [Nat.mul_div_mul_left _ _ hn]
section AN
variable {a : Nat → Nat} {PF : Nat → Nat → Nat → Nat} {i : Nat}
theorem led_z (hp : plOk a i) (h : ∀ k, k < a (4 + i) → ∀ j, j < 4 → PF j i k = a (10 + 32 * i + 4 * k + j)) {w : Nat} (hw : w < 2) (h0 : 0 < zSp a i w (a (4 + i))) (u : Int) (zf : Int32) : pcI (vUp (PF w i) (PF (2 + w) i) (a (4 + i)) u) ((vSp (PF w i) (a (4 + i))).toNat) zf = pcI (zAb a i w (a (4 + i)) u) (zUn a i w (a (4 + i))) zf := by
  have hs := sp_z h hw
  rw [vUp_z (pF h hw) (pT h hw), un_z hp h hw h0, pcI_sc (zn_pos hp hw h0) (by omega)]
theorem miss_z (h : ∀ k, k < a (4 + i) → ∀ j, j < 4 → PF j i k = a (10 + 32 * i + 4 * k + j)) {w : Nat} (hw : w < 2) (zf : Int32) : pcI (vMs (PF w i) (PF (2 + w) i) (a (4 + i))) ((vSp (PF w i) (a (4 + i)) * ((a (4 + i) : Nat) : Int)).toNat) zf = pcI (zMs a i w (a (4 + i))) (zUn a i w (a (4 + i))) zf := by
  rw [vMs_z (pF h hw) (pT h hw), sp_z h hw, Int.mul_comm]
  rfl
theorem doubt_z (hp : plOk a i) (h : ∀ k, k < a (4 + i) → ∀ j, j < 4 → PF j i k = a (10 + 32 * i + 4 * k + j)) (h0 : 0 < zSp a i 0 (a (4 + i)) ∧ 0 < zSp a i 1 (a (4 + i))) : lN (max (vWo (PF 0 i) (PF 2 i) (a (4 + i))) (vWo (PF 1 i) (PF 3 i) (a (4 + i))) + 1) = lZ (dbZ a i) ∧ 0 ≤ dbZ a i := by
  rw [db_z hp h h0]
  exact ⟨lZ_N _, by omega⟩
theorem doubt_n (h0 : ¬ (0 < zSp a i 0 (a (4 + i)) ∧ 0 < zSp a i 1 (a (4 + i)))) : ¬ 0 ≤ dbZ a i := by
  unfold dbZ
  rw [if_neg h0]
  decide
end AN
theorem wr_cong {f g : Nat → Nat} {N : Nat} (h : ∀ j, j < N → f j = g j) : ∀ (i k d : Nat), k + i ≤ N → wrGo f N i k d = wrGo g N i k d
  | 0, _, _, _ => rfl
  | i + 1, k, d, hk => by
    rw [wrGo, wrGo, h k (by omega), wr_cong h i (k + 1) _ (by omega)]
section FA
variable {a UP LO : Nat → Nat} {LF : Nat → Nat → Nat → Nat} {i : Nat}
theorem fcC_z (h : ∀ k, k < a (334 + 5 * i + 4) → ∀ j, j < 3 → LF j i k = a (374 + 12 * i + 3 * k + j)) {k : Nat} (hk : k < a (334 + 5 * i + 4)) : fcC (a (334 + 5 * i)) (LF 0 i) (LF 1 i) k = ccA a i k := by
  show (a (334 + 5 * i) * 4 + LF 0 i k) * 4 + LF 1 i k = _
  have g0 : LF 0 i k = a (374 + 12 * i + 3 * k) := h k hk 0 (by decide)
  rw [g0, h k hk 1 (by decide)]
  unfold ccA
  omega
theorem bu_z (hf : fdOk a i) (h : ∀ k, k < a (334 + 5 * i + 4) → ∀ j, j < 3 → LF j i k = a (374 + 12 * i + 3 * k + j)) (ht : ∀ c, c < 64 → UP c = a (470 + 2 * c) ∧ LO c = a (470 + 2 * c + 1)) : ∀ k, k ≤ a (334 + 5 * i + 4) → buU (a (334 + 5 * i + 1)) (a (334 + 5 * i)) (LF 0 i) (LF 1 i) UP LO k = blU a i k ∧ buN (a (334 + 5 * i + 1)) (a (334 + 5 * i)) (LF 0 i) (LF 1 i) LO k = blN a i k
  | 0, _ => ⟨rfl, rfl⟩
  | k + 1, hk => by
    obtain ⟨h1, h2⟩ := bu_z hf h ht k (by omega)
    have hc := cc_lt hf (show k < a (334 + 5 * i + 4) by omega)
    rw [buU, buN, blU, blN, h1, h2, fcC_z h (by omega), (ht _ hc).1, (ht _ hc).2, shL_cc]
    exact ⟨rfl, rfl⟩
theorem fs_z (hf : fdOk a i) (h : ∀ k, k < a (334 + 5 * i + 4) → ∀ j, j < 3 → LF j i k = a (374 + 12 * i + 3 * k + j)) : ∀ k, k ≤ a (334 + 5 * i + 4) → fsB (LF 2 i) k = snB a i k
  | 0, _ => rfl
  | k + 1, hk => by
    have e := h k (by omega) 2 (by decide)
    have hb := (hf.2.2.2.2.2 k (by omega)).2.2
    rw [fsB, snB, fs_z hf h k (by omega)]
    congr 1
    rw [decide_eq_decide]
    omega
theorem fg_z (hf : fdOk a i) (h : ∀ k, k < a (334 + 5 * i + 4) → ∀ j, j < 3 → LF j i k = a (374 + 12 * i + 3 * k + j)) (ht : ∀ c, c < 64 → UP c = a (470 + 2 * c) ∧ LO c = a (470 + 2 * c + 1)) {cr dr : Nat} (hc : cr ≤ 3) (hd : dr ≤ 3) : fgV (fun i => a (334 + 5 * i)) (fun i => a (334 + 5 * i + 1)) (fun i => a (334 + 5 * i + 4)) (fun i => a (334 + 5 * i + 3)) (LF 2) UP LO cr dr i = brv a i cr dr := by
  have e := fs_z hf h _ (Nat.le_refl _)
  have hs := hf.1
  have hi : (a (334 + 5 * i) * 4 + cr) * 4 + dr < 64 := by omega
  have e2 : 470 + 2 * ((a (334 + 5 * i) * 4 + cr) * 4 + dr) = shC a i cr dr := by
    show _ = 470 + 2 * (16 * a (334 + 5 * i) + 4 * cr + dr)
    omega
  show (if a (334 + 5 * i + 3) = 1 ∨ fsB (LF 2 i) (a (334 + 5 * i + 4)) = true then 0 else 100 * a (334 + 5 * i + 1) * UP ((a (334 + 5 * i) * 4 + cr) * 4 + dr) / LO ((a (334 + 5 * i) * 4 + cr) * 4 + dr)) = _
  rw [(ht _ hi).1, (ht _ hi).2, e, e2]
  rfl
end FA
theorem plB_b {S K : Nat → Nat} {hr B : Nat} : ∀ {n : Nat}, (∀ k, k < n → S k ≤ B) → (plB S K hr n).2.1 ≤ B ∧ True
  | 0, _ => ⟨Nat.zero_le _, trivial⟩
  | n + 1, h => by
    have h1 := (plB_b (S := S) (K := K) (hr := hr) (n := n) (fun k hk => h k (by omega))).1
    have h2 := h n (by omega)
    rw [plB]
    refine ⟨?_, trivial⟩
    split
    · exact h2
    · exact h1
theorem rvC_s (a G : Nat → Nat) (k n : Nat) : ∀ m, m ≤ n → rvC a G k (n + 1) m = rvC a G k n m + rvI a G k n m
  | 0, _ => rfl
  | m + 1, h => by
    rw [rvC, rvC, rvC_s a G k n m (by omega), rvJ, rvI]
    by_cases q : G m = k + 1 ∧ G n = k + 1 ∧ a (202 + 6 * m) = a (202 + 6 * n)
    · rw [if_pos ⟨by omega, q⟩, if_pos ⟨q.2.1, q.1, q.2.2.symm⟩]
      omega
    · rw [if_neg (fun z => q z.2), if_neg (fun z => q ⟨z.2.1, z.1, z.2.2.symm⟩)]
      omega
theorem rvC_N (a G : Nat → Nat) (k : Nat) : ∀ n, rvC a G k n n = rvN a G k n
  | 0 => rfl
  | n + 1 => by
    rw [rvC, rvC_s a G k n n (Nat.le_refl _), rvC_N a G k n, rvJ_0 (n + 1) (Nat.le_refl _), rvN]
    omega
theorem rvI_cg {a G G' : Nat → Nat} {k i N : Nat} (h : ∀ j, j < N → G j = G' j) (hi : i < N) : ∀ j, j ≤ N → rvI a G k i j = rvI a G' k i j
  | 0, _ => rfl
  | j + 1, hj => by rw [rvI, rvI, rvI_cg h hi j (by omega), h i hi, h j (by omega)]
theorem rvN_cg {a G G' : Nat → Nat} {k N : Nat} (h : ∀ j, j < N → G j = G' j) : ∀ j, j ≤ N → rvN a G k j = rvN a G' k j
  | 0, _ => rfl
  | j + 1, hj => by rw [rvN, rvN, rvN_cg h j (by omega), rvI_cg h (by omega) j (by omega)]
theorem td_cg {a G G' : Nat → Nat} {k N : Nat} (h : ∀ j, j < N → G j = G' j) : ∀ j, j ≤ N → tdM G k j = tdM G' k j ∧ tdS a G k j = tdS a G' k j ∧ tdG a G k j = tdG a G' k j ∧ tdK a G k j = tdK a G' k j
  | 0, _ => ⟨rfl, rfl, rfl, rfl⟩
  | j + 1, hj => by
    obtain ⟨h1, h2, h3, h4⟩ := td_cg (a := a) (k := k) h j (by omega)
    simp only [tdM, tdS, tdG, tdK, h1, h2, h3, h4, h j (by omega), and_self]
theorem bc_sd (x : Nat) : bcN x = sdN x := by
  unfold bcN sdN
  simp
theorem fcE_V (a G Z : Nat → Nat) (k v : Nat) (hv : 1 ≤ v ∧ v ≤ 4) : fcE a G Z k (a 1) (v - 1) = tdV a G k v := by
  rcases (show v = 1 ∨ v = 2 ∨ v = 3 ∨ v = 4 by omega) with rfl | rfl | rfl | rfl
  · rfl
  · rfl
  · show bcN (tdG a G k (a 1)) = sdN (tdG a G k (a 1))
    exact bc_sd _
  · rfl
theorem exS_cg {fc fc' g g' ro : Nat → Nat} : ∀ {n : Nat}, (∀ k, k < n → g k = g' k) → (∀ k, k < n → g k < 10 → fc (g k) = fc' (g k)) → exS fc g ro n = exS fc' g' ro n
  | 0, _, _ => rfl
  | n + 1, h, hf => by
    rw [exS, exS, exS_cg (fun k hk => h k (by omega)) (fun k hk => hf k (by omega)), h n (by omega)]
    have e : ∀ x y, rdV fc (g' n) x y = rdV fc' (g' n) x y := fun x y => by
      unfold rdV
      split
      · rename_i q
        rw [← h n (by omega)] at q ⊢
        exact hf n (by omega) q
      · rfl
    rw [e]
theorem rdV_22 {fc : Nat → Nat} {v x y : Nat} (h : v = 22) : rdV fc v x y = if x = 0 then 1 else 0 := by
  subst h
  rfl
/-- what a right text leaves does not hang on what lay in the row before -/
theorem exS_in {fc g ro ro' : Nat → Nat} {N : Nat} : ∀ (i k d : Nat), k + i = N → wrGo g N i k d = -1 → N < 2 ^ 31 → ∀ rr rr', exS fc g ro k = (rr, d) → exS fc g ro' k = (rr', d) → (∀ j, j < d → rr j = rr' j) → ∃ r1 r2, exS fc g ro N = (r1, 1) ∧ exS fc g ro' N = (r2, 1) ∧ r1 0 = r2 0
  | 0, k, d, hk, hw, hN, rr, rr', h1, h2, h => by
    have hd : d = 1 := by
      rw [wrGo_0] at hw
      split at hw
      · assumption
      · exact absurd hw (nI_m1 hN)
    subst hd
    have : k = N := by omega
    subst this
    exact ⟨rr, rr', h1, h2, h 0 (by decide)⟩
  | i + 1, k, d, hk, hw, hN, rr, rr', h1, h2, h => by
    by_cases q : tk (g k) ≤ d ∧ d - tk (g k) < 6
    · rw [wrGo_y q] at hw
      refine exS_in i (k + 1) _ (by omega) hw hN _ _ (exS_s h1 rfl) (exS_s h2 rfl) (fun j hj => ?_)
      simp only [upN]
      split
      · rename_i e
        by_cases v20 : g k < 20
        · unfold rdV
          split
          · rfl
          · rfl
        · have ht : tk (g k) = 1 ∨ tk (g k) = 2 := by
            unfold tk
            rw [if_neg v20]
            split
            · exact Or.inl rfl
            · exact Or.inr rfl
          have e1 := h (d - tk (g k)) (by omega)
          by_cases v22 : g k = 22
          · rw [rdV_22 v22, rdV_22 v22, e1]
          · have ht2 : tk (g k) = 2 := by
              unfold tk
              rw [if_neg v20, if_neg v22]
            have e2 := h (d - tk (g k) + 1) (by omega)
            rw [e1, e2]
      · exact h j (by omega)
    · rw [wrGo_n q] at hw
      exact absurd hw (nI_m1 (by omega))
