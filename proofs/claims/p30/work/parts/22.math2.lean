/-! ===== lines as whole numbers ===== -/
theorem na_mul {x y : Int} {A B : Nat} (hx : x.natAbs ≤ A) (hy : y.natAbs ≤ B) : (x * y).natAbs ≤ A * B := by
  rw [Int.natAbs_mul]
  exact Nat.mul_le_mul hx hy
theorem na_sub {x y : Int} {A B : Nat} (hx : x.natAbs ≤ A) (hy : y.natAbs ≤ B) : (x - y).natAbs ≤ A + B := by omega
theorem na_add {x y : Int} {A B : Nat} (hx : x.natAbs ≤ A) (hy : y.natAbs ≤ B) : (x + y).natAbs ≤ A + B := by omega
def zU (a : Nat → Nat) (pi w k : Nat) : Int := (a (10 + 32 * pi + 4 * k + w) : Int)
def zX (a : Nat → Nat) (pi w k : Nat) : Int := (a (10 + 32 * pi + 4 * k + 2 + w) : Int)
def zSU (a : Nat → Nat) (pi w n : Nat) : Int := zs (zU a pi w) n
def zSX (a : Nat → Nat) (pi w n : Nat) : Int := zs (zX a pi w) n
def zUU (a : Nat → Nat) (pi w n : Nat) : Int := zs (fun k => zU a pi w k * zU a pi w k) n
def zUX (a : Nat → Nat) (pi w n : Nat) : Int := zs (fun k => zU a pi w k * zX a pi w k) n
def zXX (a : Nat → Nat) (pi w n : Nat) : Int := zs (fun k => zX a pi w k * zX a pi w k) n
def zSp (a : Nat → Nat) (pi w n : Nat) : Int := n * zUU a pi w n - zSU a pi w n * zSU a pi w n
def zSl (a : Nat → Nat) (pi w n : Nat) : Int := n * zUX a pi w n - zSU a pi w n * zSX a pi w n
def zAb (a : Nat → Nat) (pi w n : Nat) (u : Int) : Int := zSX a pi w n * zSp a pi w n + zSl a pi w n * (n * u - zSU a pi w n)
def zMs (a : Nat → Nat) (pi w n : Nat) : Int := (n * zXX a pi w n - zSX a pi w n * zSX a pi w n) * zSp a pi w n - zSl a pi w n * zSl a pi w n
/-- the MARKED PLACES of a picture lie within -/
def plOk (a : Nat → Nat) (pi : Nat) : Prop := a (4 + pi) ≤ 8 ∧ ∀ k j, k < a (4 + pi) → j < 4 → a (10 + 32 * pi + 4 * k + j) ≤ 999
theorem plOk_U {a : Nat → Nat} {pi w k : Nat} (h : plOk a pi) (hw : w < 2) (hk : k < a (4 + pi)) : a (10 + 32 * pi + 4 * k + w) ≤ 999 := h.2 k w hk (by omega)
theorem plOk_X {a : Nat → Nat} {pi w k : Nat} (h : plOk a pi) (hw : w < 2) (hk : k < a (4 + pi)) : a (10 + 32 * pi + 4 * k + 2 + w) ≤ 999 := by
  have := h.2 k (2 + w) hk (by omega)
  rw [← Nat.add_assoc] at this
  exact this
theorem lU_z {a : Nat → Nat} {pi w k : Nat} (h : plOk a pi) (hw : w < 2) (hk : k < a (4 + pi)) : lU a pi w k = lZ (zU a pi w k) := nI_lZ (by have := plOk_U h hw hk; omega)
theorem lX_z {a : Nat → Nat} {pi w k : Nat} (h : plOk a pi) (hw : w < 2) (hk : k < a (4 + pi)) : lX a pi w k = lZ (zX a pi w k) := nI_lZ (by have := plOk_X h hw hk; omega)
theorem lSU_z {a : Nat → Nat} {pi w : Nat} (h : plOk a pi) (hw : w < 2) : lSU a pi w (a (4 + pi)) = lZ (zSU a pi w (a (4 + pi))) := sm_zs (fun k hk => lU_z h hw hk)
theorem lSX_z {a : Nat → Nat} {pi w : Nat} (h : plOk a pi) (hw : w < 2) : lSX a pi w (a (4 + pi)) = lZ (zSX a pi w (a (4 + pi))) := sm_zs (fun k hk => lX_z h hw hk)
theorem lUU_z {a : Nat → Nat} {pi w : Nat} (h : plOk a pi) (hw : w < 2) : lUU a pi w (a (4 + pi)) = lZ (zUU a pi w (a (4 + pi))) := sm_zs (fun k hk => by rw [lU_z h hw hk, lZ_mul])
theorem lUX_z {a : Nat → Nat} {pi w : Nat} (h : plOk a pi) (hw : w < 2) : lUX a pi w (a (4 + pi)) = lZ (zUX a pi w (a (4 + pi))) := sm_zs (fun k hk => by rw [lU_z h hw hk, lX_z h hw hk, lZ_mul])
theorem lXX_z {a : Nat → Nat} {pi w : Nat} (h : plOk a pi) (hw : w < 2) : lXX a pi w (a (4 + pi)) = lZ (zXX a pi w (a (4 + pi))) := sm_zs (fun k hk => by rw [lX_z h hw hk, lZ_mul])
theorem lN_z {a : Nat → Nat} {pi : Nat} (h : plOk a pi) : (nI (a (4 + pi))).toInt64 = lZ ((a (4 + pi) : Nat) : Int) := nI_lZ (by have := h.1; omega)
theorem lSp_z {a : Nat → Nat} {pi w : Nat} (h : plOk a pi) (hw : w < 2) : lSp a pi w (a (4 + pi)) = lZ (zSp a pi w (a (4 + pi))) := by
  rw [lSp, lN_z h, lUU_z h hw, lSU_z h hw, lZ_mul, lZ_mul, lZ_sub]
  rfl
theorem zU_b {a : Nat → Nat} {pi w k : Nat} (h : plOk a pi) (hw : w < 2) (hk : k < a (4 + pi)) : 0 ≤ zU a pi w k ∧ zU a pi w k ≤ 999 := by
  have := plOk_U h hw hk
  unfold zU
  omega
theorem zX_b {a : Nat → Nat} {pi w k : Nat} (h : plOk a pi) (hw : w < 2) (hk : k < a (4 + pi)) : 0 ≤ zX a pi w k ∧ zX a pi w k ≤ 999 := by
  have := plOk_X h hw hk
  unfold zX
  omega
theorem zmul_b {x y : Int} (hx : 0 ≤ x ∧ x ≤ 999) (hy : 0 ≤ y ∧ y ≤ 999) : 0 ≤ x * y ∧ x * y ≤ 998001 := by
  have h1 : 0 ≤ x * y := Int.mul_nonneg hx.1 hy.1
  have h2 : (x * y).natAbs ≤ 999 * 999 := na_mul (by omega) (by omega)
  omega
theorem zs_na {f : Nat → Int} {c : Nat} {n : Nat} (hn : n ≤ 8) (h : ∀ k, k < n → 0 ≤ f k ∧ f k ≤ (c : Int)) : (zs f n).natAbs ≤ 8 * c := by
  have h1 := zs_rng h
  have h2 : (n : Int) * c ≤ 8 * (c : Int) := Int.mul_le_mul_of_nonneg_right (by omega) (by omega)
  omega
section ZB
variable {a : Nat → Nat} {pi w : Nat} (h : plOk a pi) (hw : w < 2)
theorem zSU_b (h : plOk a pi) (hw : w < 2) : (zSU a pi w (a (4 + pi))).natAbs ≤ 7992 := zs_na (c := 999) h.1 (fun k hk => zU_b h hw hk)
theorem zSX_b (h : plOk a pi) (hw : w < 2) : (zSX a pi w (a (4 + pi))).natAbs ≤ 7992 := zs_na (c := 999) h.1 (fun k hk => zX_b h hw hk)
theorem zUU_b (h : plOk a pi) (hw : w < 2) : (zUU a pi w (a (4 + pi))).natAbs ≤ 7984008 := zs_na (c := 998001) h.1 (fun k hk => zmul_b (zU_b h hw hk) (zU_b h hw hk))
theorem zUX_b (h : plOk a pi) (hw : w < 2) : (zUX a pi w (a (4 + pi))).natAbs ≤ 7984008 := zs_na (c := 998001) h.1 (fun k hk => zmul_b (zU_b h hw hk) (zX_b h hw hk))
theorem zXX_b (h : plOk a pi) (hw : w < 2) : (zXX a pi w (a (4 + pi))).natAbs ≤ 7984008 := zs_na (c := 998001) h.1 (fun k hk => zmul_b (zX_b h hw hk) (zX_b h hw hk))
theorem zn_b (h : plOk a pi) : ((a (4 + pi) : Nat) : Int).natAbs ≤ 8 := by have := h.1; omega
theorem zSp_b (h : plOk a pi) (hw : w < 2) : (zSp a pi w (a (4 + pi))).natAbs ≤ 127744128 := na_sub (na_mul (zn_b h) (zUU_b h hw)) (na_mul (zSU_b h hw) (zSU_b h hw))
theorem zSl_b (h : plOk a pi) (hw : w < 2) : (zSl a pi w (a (4 + pi))).natAbs ≤ 127744128 := na_sub (na_mul (zn_b h) (zUX_b h hw)) (na_mul (zSU_b h hw) (zSX_b h hw))
theorem zAb_b (h : plOk a pi) (hw : w < 2) {u : Int} (hu : u.natAbs ≤ 999) : (zAb a pi w (a (4 + pi)) u).natAbs ≤ 3062793212928 := na_add (na_mul (zSX_b h hw) (zSp_b h hw)) (na_mul (zSl_b h hw) (na_sub (na_mul (zn_b h) hu) (zSU_b h hw)))
theorem zMs_b (h : plOk a pi) (hw : w < 2) : (zMs a pi w (a (4 + pi))).natAbs ≤ 40000000000000000 := Nat.le_trans (na_sub (na_mul (na_sub (na_mul (zn_b h) (zXX_b h hw)) (na_mul (zSX_b h hw) (zSX_b h hw))) (zSp_b h hw)) (na_mul (zSl_b h hw) (zSl_b h hw))) (by decide)
theorem zUn_b (h : plOk a pi) (hw : w < 2) : (((a (4 + pi) : Nat) : Int) * zSp a pi w (a (4 + pi))).natAbs ≤ 1021953024 := na_mul (zn_b h) (zSp_b h hw)
theorem lSp_pos (h : plOk a pi) (hw : w < 2) : 0 < lSp a pi w (a (4 + pi)) ↔ 0 < zSp a pi w (a (4 + pi)) := by
  have hb := zSp_b h hw
  rw [lSp_z h hw, lZ_0, lZ_lt (by omega) (by omega)]
/-- with a spread there are places -/
theorem zn_pos (h : plOk a pi) (hw : w < 2) (h0 : 0 < zSp a pi w (a (4 + pi))) : 0 < a (4 + pi) := by
  rcases Nat.eq_zero_or_pos (a (4 + pi)) with q | q
  · rw [q] at h0
    exact absurd h0 (by simp [zSp, zSU, zs])
  · exact q
/-- the lower part: n times the spread -/
def zUn (a : Nat → Nat) (pi w n : Nat) : Nat := ((n : Int) * zSp a pi w n).toNat
theorem zUn_z (h : plOk a pi) (hw : w < 2) (h0 : 0 < zSp a pi w (a (4 + pi))) : ((zUn a pi w (a (4 + pi)) : Nat) : Int) = (a (4 + pi) : Nat) * zSp a pi w (a (4 + pi)) := by
  have h1 := Int.mul_pos (show (0 : Int) < (a (4 + pi) : Nat) by have := zn_pos h hw h0; omega) h0
  unfold zUn
  omega
theorem zUn_pos (h : plOk a pi) (hw : w < 2) (h0 : 0 < zSp a pi w (a (4 + pi))) : 0 < zUn a pi w (a (4 + pi)) := by
  have h1 := Int.mul_pos (show (0 : Int) < (a (4 + pi) : Nat) by have := zn_pos h hw h0; omega) h0
  unfold zUn
  omega
theorem zUn_le (h : plOk a pi) (hw : w < 2) : zUn a pi w (a (4 + pi)) ≤ 1021953024 := by
  have h1 := zUn_b h hw
  unfold zUn
  omega
theorem lUn_z (h : plOk a pi) (hw : w < 2) (h0 : 0 < zSp a pi w (a (4 + pi))) : (nI (a (4 + pi))).toInt64 * lSp a pi w (a (4 + pi)) = lN (zUn a pi w (a (4 + pi))) := by
  rw [lN_z h, lSp_z h hw, lZ_mul, lZ_N, zUn_z h hw h0]
theorem lAb_z (h : plOk a pi) (hw : w < 2) (u : Int) : lSX a pi w (a (4 + pi)) * lSp a pi w (a (4 + pi)) + ((nI (a (4 + pi))).toInt64 * lUX a pi w (a (4 + pi)) - lSU a pi w (a (4 + pi)) * lSX a pi w (a (4 + pi))) * ((nI (a (4 + pi))).toInt64 * lZ u - lSU a pi w (a (4 + pi))) = lZ (zAb a pi w (a (4 + pi)) u) := by
  rw [lN_z h, lSp_z h hw, lSX_z h hw, lSU_z h hw, lUX_z h hw]
  simp only [lZ_mul, lZ_sub, lZ_add]
  rfl
end ZB
/-! parts of a fraction -/
def pcI (z : Int) (b : Nat) (zf : Int32) : Int64 := if zf = 0 then lZ (z.tdiv (Nat.gcd z.natAbs b)) else lZ ((b / Nat.gcd z.natAbs b : Nat) : Int)
theorem pcI_0 {z : Int} {b : Nat} {zf : Int32} (h : zf = 0) : pcI z b zf = lZ (z.tdiv (Nat.gcd z.natAbs b)) := if_pos h
theorem pcI_1 {z : Int} {b : Nat} {zf : Int32} (h : ¬ zf = 0) : pcI z b zf = lZ ((b / Nat.gcd z.natAbs b : Nat) : Int) := if_neg h
theorem cutI {z : Int} {b : Nat} (hb : 0 < b) : z / (b : Int) = if z.tmod b ≠ 0 ∧ z < 0 then z.tdiv b - 1 else z.tdiv b := by
  have hb2 : (0 : Int) < b := by omega
  have h1 := Int.mul_tdiv_add_tmod z b
  have h2 := Int.tmod_lt_of_pos z hb2
  have h3 := Int.lt_tmod_of_pos z hb2
  by_cases hc : z.tmod b ≠ 0 ∧ z < 0
  · rw [if_pos hc]
    have h4 : z.tmod b ≤ 0 := by
      have h5 := Int.tmod_nonneg (b : Int) (show 0 ≤ -z by omega)
      rw [Int.neg_tmod] at h5
      omega
    refine ((Int.ediv_emod_unique hb2 (r := z.tmod b + b) (q := z.tdiv b - 1)).mpr ⟨?_, by omega, by omega⟩).1
    rw [Int.mul_sub]
    omega
  · rw [if_neg hc]
    have h4 : 0 ≤ z.tmod b := by
      rcases Classical.em (z < 0) with q | q
      · have : z.tmod b = 0 := Classical.byContradiction fun g => hc ⟨g, q⟩
        omega
      · exact Int.tmod_nonneg (b : Int) (by omega)
    exact ((Int.ediv_emod_unique hb2 (r := z.tmod b) (q := z.tdiv b)).mpr ⟨by omega, h4, h2⟩).1
theorem lN0 {v : Nat} (hv : v < 2 ^ 62) : lN v = 0 ↔ v = 0 := pk_lEQ (b := 0) (by omega) (by decide)
