/-! ===== long numbers as whole numbers ===== -/
def lZ (z : Int) : Int64 := Int64.ofInt z
theorem lZ_add (x y : Int) : lZ x + lZ y = lZ (x + y) := (Int64.ofInt_add x y).symm
theorem lZ_sub (x y : Int) : lZ x - lZ y = lZ (x - y) := (Int64.ofInt_sub x y).symm
theorem lZ_mul (x y : Int) : lZ x * lZ y = lZ (x * y) := (Int64.ofInt_mul x y).symm
theorem lZ_neg (x : Int) : -lZ x = lZ (-x) := (Int64.ofInt_neg x).symm
theorem lZ_N (n : Nat) : lN n = lZ (n : Int) := rfl
theorem lZ_0 : (0 : Int64) = lZ 0 := rfl
theorem lZ_1 : (1 : Int64) = lZ 1 := rfl
theorem lZ_T {z : Int} (h1 : -9223372036854775808 ≤ z) (h2 : z < 9223372036854775808) : (lZ z).toInt = z := by
  rw [lZ, Int64.toInt_ofInt]
  show z.bmod 18446744073709551616 = z
  exact Int.bmod_eq_of_le (by omega) (by omega)
/-- a whole number that a long holds with room to spare -/
abbrev zr (z : Int) : Prop := -4611686018427387904 ≤ z ∧ z ≤ 4611686018427387904
theorem lZ_lt {x y : Int} (hx : zr x) (hy : zr y) : lZ x < lZ y ↔ x < y := by
  rw [Int64.lt_iff_toInt_lt, lZ_T (by omega) (by omega), lZ_T (by omega) (by omega)]
theorem lZ_le {x y : Int} (hx : zr x) (hy : zr y) : lZ x ≤ lZ y ↔ x ≤ y := by
  rw [Int64.le_iff_toInt_le, lZ_T (by omega) (by omega), lZ_T (by omega) (by omega)]
theorem lZ_eq {x y : Int} (hx : zr x) (hy : zr y) : lZ x = lZ y ↔ x = y := by
  rw [← Int64.toInt_inj, lZ_T (by omega) (by omega), lZ_T (by omega) (by omega)]
theorem lZ_div {x y : Int} (hx : zr x) (hy : zr y) : lZ x / lZ y = lZ (x.tdiv y) := by
  apply Int64.toInt_inj.mp
  have hb : zr (x.tdiv y) := by
    have h1 : (x.tdiv y).natAbs ≤ x.natAbs := by rw [Int.natAbs_tdiv]; exact Nat.div_le_self _ _
    omega
  rw [Int64.toInt_div, lZ_T (by omega) (by omega), lZ_T (by omega) (by omega), lZ_T (by omega) (by omega)]
  exact Int.bmod_eq_of_le (by omega) (by omega)
theorem lZ_rem {x y : Int} (hx : zr x) (hy : zr y) : lZ x - lZ x / lZ y * lZ y = lZ (x.tmod y) := by
  rw [lZ_div hx hy, lZ_mul, lZ_sub]
  exact congrArg lZ (by have := Int.tdiv_mul_add_tmod x y; omega)
theorem nI_lZ {n : Nat} (h : n < 2 ^ 31) : (nI n).toInt64 = lZ (n : Int) := nI_l h
/-- sums -/
def sm (f : Nat → Int64) : Nat → Int64
  | 0 => 0
  | k + 1 => sm f k + f k
def zs (f : Nat → Int) : Nat → Int
  | 0 => 0
  | k + 1 => zs f k + f k
theorem sm_s (f : Nat → Int64) (k : Nat) : sm f (k + 1) = sm f k + f k := rfl
theorem sm_0 (f : Nat → Int64) : sm f 0 = 0 := rfl
theorem zs_s (f : Nat → Int) (k : Nat) : zs f (k + 1) = zs f k + f k := rfl
theorem sm_zs {f : Nat → Int64} {g : Nat → Int} : ∀ {n : Nat}, (∀ k, k < n → f k = lZ (g k)) → sm f n = lZ (zs g n)
  | 0, _ => rfl
  | n + 1, h => by rw [sm_s, zs_s, sm_zs (fun k hk => h k (by omega)), h n (by omega), lZ_add]
theorem zs_cong {f g : Nat → Int} : ∀ {n : Nat}, (∀ k, k < n → f k = g k) → zs f n = zs g n
  | 0, _ => rfl
  | n + 1, h => by rw [zs_s, zs_s, zs_cong (fun k hk => h k (by omega)), h n (by omega)]
theorem sm_cong {f g : Nat → Int64} : ∀ {n : Nat}, (∀ k, k < n → f k = g k) → sm f n = sm g n
  | 0, _ => rfl
  | n + 1, h => by rw [sm_s, sm_s, sm_cong (fun k hk => h k (by omega)), h n (by omega)]
theorem zs_rng {f : Nat → Int} {c : Int} : ∀ {n : Nat}, (∀ k, k < n → 0 ≤ f k ∧ f k ≤ c) → 0 ≤ zs f n ∧ zs f n ≤ n * c
  | 0, _ => by simp [zs]
  | n + 1, h => by
    have h1 := zs_rng (f := f) (c := c) (n := n) (fun k hk => h k (by omega))
    have h2 := h n (by omega)
    rw [zs_s]
    have h3 : ((n + 1 : Nat) : Int) * c = n * c + c := by rw [Int.natCast_add, Int.add_mul]; simp
    omega
/-- the numbers of one way of a picture -/
def lU (a : Nat → Nat) (pi w k : Nat) : Int64 := (nI (a (10 + 32 * pi + 4 * k + w))).toInt64
def lX (a : Nat → Nat) (pi w k : Nat) : Int64 := (nI (a (10 + 32 * pi + 4 * k + 2 + w))).toInt64
def lSU (a : Nat → Nat) (pi w n : Nat) : Int64 := sm (lU a pi w) n
def lSX (a : Nat → Nat) (pi w n : Nat) : Int64 := sm (lX a pi w) n
def lUU (a : Nat → Nat) (pi w n : Nat) : Int64 := sm (fun k => lU a pi w k * lU a pi w k) n
def lUX (a : Nat → Nat) (pi w n : Nat) : Int64 := sm (fun k => lU a pi w k * lX a pi w k) n
def lXX (a : Nat → Nat) (pi w n : Nat) : Int64 := sm (fun k => lX a pi w k * lX a pi w k) n
def lSp (a : Nat → Nat) (pi w n : Nat) : Int64 := (nI n).toInt64 * lUU a pi w n - lSU a pi w n * lSU a pi w n
theorem lSU_s (a : Nat → Nat) (pi w k : Nat) : lSU a pi w (k + 1) = lSU a pi w k + lU a pi w k := rfl
theorem lSX_s (a : Nat → Nat) (pi w k : Nat) : lSX a pi w (k + 1) = lSX a pi w k + lX a pi w k := rfl
theorem lUU_s (a : Nat → Nat) (pi w k : Nat) : lUU a pi w (k + 1) = lUU a pi w k + lU a pi w k * lU a pi w k := rfl
theorem lUX_s (a : Nat → Nat) (pi w k : Nat) : lUX a pi w (k + 1) = lUX a pi w k + lU a pi w k * lX a pi w k := rfl
theorem lXX_s (a : Nat → Nat) (pi w k : Nat) : lXX a pi w (k + 1) = lXX a pi w k + lX a pi w k * lX a pi w k := rfl
/-- the signs that a text goes wrong with -/
def tk (v : Nat) : Nat := if v < 20 then 0 else if v = 22 then 1 else 2
theorem tk_0 {v : Nat} (h : v < 20) : tk v = 0 := if_pos h
theorem tk_1 {v : Nat} (h : v = 22) : tk v = 1 := by subst h; rfl
theorem tk_2 {v : Nat} (h : 20 ≤ v) (h2 : v ≠ 22) : tk v = 2 := by rw [tk, if_neg (by omega), if_neg h2]
def wrGo (g : Nat → Nat) (N : Nat) : Nat → Nat → Nat → Int32
  | 0, _, d => if d = 1 then -1 else nI N
  | f + 1, k, d => if tk (g k) ≤ d ∧ d - tk (g k) < 6 then wrGo g N f (k + 1) (d - tk (g k) + 1) else nI k
theorem wrGo_0 (g : Nat → Nat) (N k d : Nat) : wrGo g N 0 k d = if d = 1 then -1 else nI N := rfl
theorem wrGo_y {g : Nat → Nat} {N f k d : Nat} (h : tk (g k) ≤ d ∧ d - tk (g k) < 6) : wrGo g N (f + 1) k d = wrGo g N f (k + 1) (d - tk (g k) + 1) := by rw [wrGo, if_pos h]
theorem wrGo_n {g : Nat → Nat} {N f k d : Nat} (h : ¬ (tk (g k) ≤ d ∧ d - tk (g k) < 6)) : wrGo g N (f + 1) k d = nI k := by rw [wrGo, if_neg h]
