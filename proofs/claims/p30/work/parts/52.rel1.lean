theorem sumS_top {v : Nat → Nat} {st n : Nat} (h : st < 2 ^ n) : ∀ d, sumS v st (n + d) = sumS v st n
  | 0 => rfl
  | d + 1 => by
    have h1 : st < 2 ^ (n + d) := Nat.lt_of_lt_of_le h (Nat.pow_le_pow_right (by decide) (Nat.le_add_right n d))
    rw [← Nat.add_assoc, sumS, sumS_top h d, Nat.div_eq_of_lt h1, if_neg (by decide)]
    rfl
theorem sumS_cong {v v' : Nat → Nat} {st : Nat} : ∀ {n : Nat}, (∀ f, f < n → v f = v' f) → sumS v st n = sumS v' st n
  | 0, _ => rfl
  | n + 1, h => by
    rw [sumS, sumS, sumS_cong (fun f hf => h f (by omega)), h n (by omega)]
theorem plB_cong {S K S' K' : Nat → Nat} {hr : Nat} : ∀ {n : Nat}, (∀ k, k < n → S k = S' k ∧ K k = K' k) → plB S K hr n = plB S' K' hr n
  | 0, _ => rfl
  | n + 1, h => by
    rw [plB, plB, plB_cong (fun k hk => h k (by omega)), (h n (by omega)).1, (h n (by omega)).2]
theorem plB_top {V W V' W' : Nat → Nat} {hr n : Nat} (hn : n ≤ 8) (hV : ∀ f, f < n → V f = V' f) (hW : ∀ f, f < n → W f = W' f) : plB (fun st => sumS V st 8) (fun st => sumS W st 8) hr (2 ^ n) = plB (fun st => sumS V' st n) (fun st => sumS W' st n) hr (2 ^ n) := by
  obtain ⟨d, hd⟩ := Nat.le.dest hn
  refine plB_cong (fun k hk => ?_)
  show sumS V k 8 = sumS V' k n ∧ sumS W k 8 = sumS W' k n
  rw [← hd, sumS_top hk d, sumS_top hk d]
  exact ⟨sumS_cong hV, sumS_cong hW⟩
