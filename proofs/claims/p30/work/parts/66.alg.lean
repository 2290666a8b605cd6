/-! ===== the class's lines and the reference's sums ===== -/
theorem ab_id (n u SU SX UU UX : Int) : SX * (n * UU - SU * SU) + (n * UX - SU * SX) * (n * u - SU) = n * ((SX * UU - SU * UX) + (n * UX - SU * SX) * u) := by
  simp only [Int.mul_add, Int.add_mul, Int.mul_sub, Int.sub_mul, Int.mul_comm, Int.mul_left_comm, Int.mul_assoc]
  omega
section LN1
variable {a F T : Nat → Nat} {pi w n : Nat}
theorem vS_z (h : ∀ k, k < n → F k = a (10 + 32 * pi + 4 * k + w)) : vS F n = zSU a pi w n := zs_cong (fun k hk => by show ((F k : Nat) : Int) = _; rw [h k hk]; rfl)
theorem vX_z (h : ∀ k, k < n → T k = a (10 + 32 * pi + 4 * k + 2 + w)) : vS T n = zSX a pi w n := zs_cong (fun k hk => by show ((T k : Nat) : Int) = _; rw [h k hk]; rfl)
theorem vUU_z (h : ∀ k, k < n → F k = a (10 + 32 * pi + 4 * k + w)) : vQ F F n = zUU a pi w n := zs_cong (fun k hk => by show ((F k : Nat) : Int) * (F k : Nat) = _; rw [h k hk]; rfl)
theorem vUX_z (h : ∀ k, k < n → F k = a (10 + 32 * pi + 4 * k + w)) (h2 : ∀ k, k < n → T k = a (10 + 32 * pi + 4 * k + 2 + w)) : vQ F T n = zUX a pi w n := zs_cong (fun k hk => by show ((F k : Nat) : Int) * (T k : Nat) = _; rw [h k hk, h2 k hk]; rfl)
theorem vXX_z (h2 : ∀ k, k < n → T k = a (10 + 32 * pi + 4 * k + 2 + w)) : vQ T T n = zXX a pi w n := zs_cong (fun k hk => by show ((T k : Nat) : Int) * (T k : Nat) = _; rw [h2 k hk]; rfl)
theorem vSp_z (h : ∀ k, k < n → F k = a (10 + 32 * pi + 4 * k + w)) : vSp F n = zSp a pi w n := by
  unfold vSp zSp
  rw [vS_z h, vUU_z h]
theorem vSl_z (h : ∀ k, k < n → F k = a (10 + 32 * pi + 4 * k + w)) (h2 : ∀ k, k < n → T k = a (10 + 32 * pi + 4 * k + 2 + w)) : vSl F T n = zSl a pi w n := by
  unfold vSl zSl
  rw [vS_z h, vX_z h2, vUX_z h h2]
theorem vUp_z (h : ∀ k, k < n → F k = a (10 + 32 * pi + 4 * k + w)) (h2 : ∀ k, k < n → T k = a (10 + 32 * pi + 4 * k + 2 + w)) (u : Int) : zAb a pi w n u = n * vUp F T n u := by
  unfold zAb zSp zSl vUp vBs vSl
  rw [vS_z h, vX_z h2, vUX_z h h2, vUU_z h]
  exact ab_id _ _ _ _ _ _
theorem vMs_z (h : ∀ k, k < n → F k = a (10 + 32 * pi + 4 * k + w)) (h2 : ∀ k, k < n → T k = a (10 + 32 * pi + 4 * k + 2 + w)) : zMs a pi w n = vMs F T n := by
  unfold zMs vMs
  rw [← vSl_z h h2, ← vSp_z h, Int.mul_comm]
  unfold vSp
  rw [vXX_z h2, vX_z h2]
end LN1
theorem cl_sc {n x U : Nat} (hn : 0 < n) (hU : 0 < U) : cl (n * x) (n * U) = cl x U := by
  unfold cl
  have hnU : 0 < n * U := Nat.mul_pos hn hU
  have h1 := Nat.div_mul_le_self (x + U - 1) U
  have h2 := Nat.lt_div_mul_add (a := x + U - 1) hU
  generalize (x + U - 1) / U = q at h1 h2 ⊢
  have h3 : q * (n * U) = n * (q * U) := by rw [Nat.mul_left_comm]
  have h4 : n * (q * U) ≤ n * (x + U - 1) := Nat.mul_le_mul_left n h1
  have h5 : n * (x + U - 1) + n = n * x + n * U := by
    rw [← Nat.mul_add, ← Nat.mul_add_one]
    congr 1
    omega
  have h6 : n * (x + U) ≤ n * (q * U + U) := Nat.mul_le_mul_left n (by omega)
  rw [Nat.mul_add, Nat.mul_add] at h6
  have h7 : (q + 1) * (n * U) = n * (q * U) + n * U := by rw [Nat.add_mul, Nat.one_mul, h3]
  exact Nat.div_eq_of_lt_le (by omega) (by omega)
theorem mxG_max (f : Nat → Nat) (m : Nat) : ∀ n, mxG f m n = max m (mxG f 0 n)
  | 0 => by simp [mxG]
  | n + 1 => by
    rw [mxG, mxG, mxG_max f m n]
    omega
theorem mxG_cong {f g : Nat → Nat} {m : Nat} : ∀ {n : Nat}, (∀ k, k < n → f k = g k) → mxG f m n = mxG g m n
  | 0, _ => rfl
  | n + 1, h => by rw [mxG, mxG, mxG_cong (fun k hk => h k (by omega)), h n (by omega)]
section LN2
variable {a : Nat → Nat} {PF : Nat → Nat → Nat → Nat} {i : Nat}
theorem pF (h : ∀ k, k < a (4 + i) → ∀ j, j < 4 → PF j i k = a (10 + 32 * i + 4 * k + j)) {w : Nat} (hw : w < 2) : ∀ k, k < a (4 + i) → PF w i k = a (10 + 32 * i + 4 * k + w) := fun k hk => h k hk w (by omega)
theorem pT (h : ∀ k, k < a (4 + i) → ∀ j, j < 4 → PF j i k = a (10 + 32 * i + 4 * k + j)) {w : Nat} (hw : w < 2) : ∀ k, k < a (4 + i) → PF (2 + w) i k = a (10 + 32 * i + 4 * k + 2 + w) := fun k hk => by rw [h k hk (2 + w) (by omega), Nat.add_assoc (10 + 32 * i + 4 * k)]
theorem sp_z (h : ∀ k, k < a (4 + i) → ∀ j, j < 4 → PF j i k = a (10 + 32 * i + 4 * k + j)) {w : Nat} (hw : w < 2) : vSp (PF w i) (a (4 + i)) = zSp a i w (a (4 + i)) := vSp_z (pF h hw)
theorem pt_z (hp : plOk a i) (h : ∀ k, k < a (4 + i) → ∀ j, j < 4 → PF j i k = a (10 + 32 * i + 4 * k + j)) {w : Nat} (hw : w < 2) (h0 : 0 < zSp a i w (a (4 + i))) (u : Nat) : vPt (PF w i) (PF (2 + w) i) (a (4 + i)) u = zPt a i w u := by
  have hn := zn_pos hp hw h0
  unfold vPt zPt
  rw [vUp_z (pF h hw) (pT h hw), zUn_z hp hw h0, sp_z h hw, Int.toNat_of_nonneg (by omega), Int.mul_ediv_mul_of_pos _ _ (by omega)]
theorem un_z (hp : plOk a i) (h : ∀ k, k < a (4 + i) → ∀ j, j < 4 → PF j i k = a (10 + 32 * i + 4 * k + j)) {w : Nat} (hw : w < 2) (h0 : 0 < zSp a i w (a (4 + i))) : zUn a i w (a (4 + i)) = a (4 + i) * (vSp (PF w i) (a (4 + i))).toNat := by
  have := zUn_z hp hw h0
  have hs := sp_z h hw
  have h9 : ((a (4 + i) * (vSp (PF w i) (a (4 + i))).toNat : Nat) : Int) = (a (4 + i) : Nat) * zSp a i w (a (4 + i)) := by
    rw [Int.natCast_mul, Int.toNat_of_nonneg (by omega), hs]
  omega
theorem wf_z (hp : plOk a i) (h : ∀ k, k < a (4 + i) → ∀ j, j < 4 → PF j i k = a (10 + 32 * i + 4 * k + j)) {w : Nat} (hw : w < 2) (h0 : 0 < zSp a i w (a (4 + i))) : ∀ k, k < a (4 + i) → vWF (PF w i) (PF (2 + w) i) (a (4 + i)) k = dbF a i w k := fun k hk => by
  have hn := zn_pos hp hw h0
  unfold vWF dbF
  have e1 : zLf a i w k = (a (4 + i) : Nat) * vLf (PF w i) (PF (2 + w) i) (a (4 + i)) k := by
    unfold zLf vLf
    rw [zUn_z hp hw h0, vUp_z (pF h hw) (pT h hw), ← sp_z h hw, Int.mul_sub]
    have e2 : zX a i w k = ((PF (2 + w) i k : Nat) : Int) := by rw [pT h hw k hk]; rfl
    have e3 : zU a i w k = ((PF w i k : Nat) : Int) := by rw [pF h hw k hk]; rfl
    rw [e2, e3, Int.mul_left_comm]
  have e4 := un_z hp h hw h0
  rw [e1, e4, Int.natAbs_mul, Int.natAbs_natCast, cl_sc hn (by have := sp_z h hw; omega)]
theorem db_z (hp : plOk a i) (h : ∀ k, k < a (4 + i) → ∀ j, j < 4 → PF j i k = a (10 + 32 * i + 4 * k + j)) (h0 : 0 < zSp a i 0 (a (4 + i)) ∧ 0 < zSp a i 1 (a (4 + i))) : dbZ a i = ((vDb (PF 0 i) (PF 2 i) (PF 1 i) (PF 3 i) (a (4 + i)) : Nat) : Int) := by
  unfold dbZ vDb vWo
  rw [if_pos h0, if_pos (by rw [sp_z h (w := 0) (by decide)]; exact h0.1), if_pos (by rw [sp_z h (w := 1) (by decide)]; exact h0.2), mxG_max (dbF a i 1), mxG_cong (wf_z hp h (w := 0) (by decide) h0.1), mxG_cong (wf_z hp h (w := 1) (by decide) h0.2)]
end LN2
/-- the class joins marks as the reference does -/
theorem ag_z {a : Nat → Nat} {PF : Nat → Nat → Nat → Nat} {i j : Nat} (hpc : pcR PF a (a 0)) (hi : a (202 + 6 * i) < a 0) (hj : a (202 + 6 * j) < a 0) : agM PF a i j ↔ agr a i j := by
  obtain ⟨hp, h⟩ := hpc _ hi
  obtain ⟨hp2, h2⟩ := hpc _ hj
  have t1 : 0 ≤ dbZ a (a (202 + 6 * i)) ↔ (0 < zSp a (a (202 + 6 * i)) 0 (a (4 + a (202 + 6 * i))) ∧ 0 < zSp a (a (202 + 6 * i)) 1 (a (4 + a (202 + 6 * i)))) := by
    unfold dbZ
    split
    · exact ⟨fun _ => by assumption, fun _ => by omega⟩
    · exact ⟨fun q => absurd q (by decide), fun q => absurd q (by assumption)⟩
  have t2 : 0 ≤ dbZ a (a (202 + 6 * j)) ↔ (0 < zSp a (a (202 + 6 * j)) 0 (a (4 + a (202 + 6 * j))) ∧ 0 < zSp a (a (202 + 6 * j)) 1 (a (4 + a (202 + 6 * j)))) := by
    unfold dbZ
    split
    · exact ⟨fun _ => by assumption, fun _ => by omega⟩
    · exact ⟨fun q => absurd q (by decide), fun q => absurd q (by assumption)⟩
  have s1 := sp_z h (w := 0) (by decide)
  have s2 := sp_z h (w := 1) (by decide)
  have s3 := sp_z h2 (w := 0) (by decide)
  have s4 := sp_z h2 (w := 1) (by decide)
  constructor
  · rintro ⟨g1, g2, ⟨g3, g4⟩, ⟨g5, g6⟩, g7, g8⟩
    have z1 : 0 < zSp a (a (202 + 6 * i)) 0 (a (4 + a (202 + 6 * i))) ∧ 0 < zSp a (a (202 + 6 * i)) 1 (a (4 + a (202 + 6 * i))) := ⟨by omega, by omega⟩
    have z2 : 0 < zSp a (a (202 + 6 * j)) 0 (a (4 + a (202 + 6 * j))) ∧ 0 < zSp a (a (202 + 6 * j)) 1 (a (4 + a (202 + 6 * j))) := ⟨by omega, by omega⟩
    refine ⟨g1, g2, t1.mpr z1, t2.mpr z2, ?_, ?_⟩
    · rw [db_z hp h z1, db_z hp2 h2 z2]
      unfold ptX
      rw [← pt_z hp h (w := 0) (by decide) z1.1, ← pt_z hp2 h2 (w := 0) (by decide) z2.1]
      have : ((_ : Nat) : Int) ≤ ((_ : Nat) : Int) := Int.ofNat_le.mpr g7
      rw [Int.natCast_add] at this
      exact this
    · rw [db_z hp h z1, db_z hp2 h2 z2]
      unfold ptY
      rw [← pt_z hp h (w := 1) (by decide) z1.2, ← pt_z hp2 h2 (w := 1) (by decide) z2.2]
      have : ((_ : Nat) : Int) ≤ ((_ : Nat) : Int) := Int.ofNat_le.mpr g8
      rw [Int.natCast_add] at this
      exact this
  · rintro ⟨g1, g2, g3, g4, g5, g6⟩
    have z1 := t1.mp g3
    have z2 := t2.mp g4
    refine ⟨g1, g2, ⟨by rw [s1]; exact z1.1, by rw [s2]; exact z1.2⟩, ⟨by rw [s3]; exact z2.1, by rw [s4]; exact z2.2⟩, ?_, ?_⟩
    · rw [db_z hp h z1, db_z hp2 h2 z2] at g5
      unfold ptX at g5
      rw [← pt_z hp h (w := 0) (by decide) z1.1, ← pt_z hp2 h2 (w := 0) (by decide) z2.1, ← Int.natCast_add] at g5
      exact Int.ofNat_le.mp g5
    · rw [db_z hp h z1, db_z hp2 h2 z2] at g6
      unfold ptY at g6
      rw [← pt_z hp h (w := 1) (by decide) z1.2, ← pt_z hp2 h2 (w := 1) (by decide) z2.2, ← Int.natCast_add] at g6
      exact Int.ofNat_le.mp g6
