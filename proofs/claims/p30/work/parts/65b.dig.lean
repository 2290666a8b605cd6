/-! ===== a dig ===== -/
def ccA (a : Nat → Nat) (f k : Nat) : Nat := 16 * a (334 + 5 * f) + 4 * a (374 + 12 * f + 3 * k) + a (374 + 12 * f + 3 * k + 1)
theorem shL_cc (a : Nat → Nat) (f k : Nat) : shL a f k = 470 + 2 * ccA a f k := rfl
def dU (a : Nat → Nat) (f : Nat) : Nat → Nat → Nat
  | 0, _ => 0
  | k + 1, c => dU a f k c + (if ccA a f k = c then a (374 + 12 * f + 3 * k + 2) else 0)
def dL (a : Nat → Nat) (f : Nat) : Nat → Nat → Nat
  | 0, _ => 0
  | k + 1, c => dL a f k c + (if ccA a f k = c then 1 else 0)
theorem dg_v {a : Nat → Nat} {f : Nat} (hf : f < 8) : ∀ k c, dgA a f k (470 + 2 * c) = a (470 + 2 * c) + dU a f k c ∧ dgA a f k (470 + 2 * c + 1) = a (470 + 2 * c + 1) + dL a f k c
  | 0, c => ⟨upN_n (by omega), upN_n (by omega)⟩
  | k + 1, c => by
    obtain ⟨h1, h2⟩ := dg_v hf k c
    rw [dgA_s, shL_cc, dU, dL]
    by_cases q : ccA a f k = c
    · subst q
      refine ⟨?_, ?_⟩
      · rw [upN_n (by omega), upN_s, if_pos rfl, h1, Nat.add_assoc]
      · rw [upN_s, if_pos rfl, h2, Nat.add_assoc]
    · refine ⟨?_, ?_⟩
      · rw [upN_n (by omega), upN_n (by omega), if_neg q, h1] <;> rfl
      · rw [upN_n (by omega), upN_n (by omega), if_neg q, h2] <;> rfl
theorem dg_f {a : Nat → Nat} {f : Nat} (hf : f < 8) : ∀ k, dgA a f k (334 + 5 * f + 3) = 1
  | 0 => upN_s
  | k + 1 => by rw [dgA_s, shL_cc, upN_n (by omega), upN_n (by omega), dg_f hf k]
theorem dg_hi {a : Nat → Nat} {f j : Nat} (hf : f < 8) (hj : 598 ≤ j) : ∀ k, (∀ q, q < k → ccA a f q < 64) → dgA a f k j = a j
  | 0, _ => upN_n (by omega)
  | k + 1, h => by
    have := h k (by omega)
    rw [dgA_s, shL_cc, upN_n (by omega), upN_n (by omega), dg_hi hf hj k (fun q hq => h q (by omega))]
theorem dUL {a : Nat → Nat} {f : Nat} : ∀ {k : Nat}, (∀ q, q < k → a (374 + 12 * f + 3 * q + 2) ≤ 1) → ∀ c, dU a f k c ≤ dL a f k c ∧ dL a f k c ≤ k
  | 0, _, _ => ⟨Nat.le_refl _, Nat.le_refl _⟩
  | k + 1, h, c => by
    obtain ⟨h1, h2⟩ := dUL (k := k) (fun q hq => h q (by omega)) c
    have h3 := h k (by omega)
    rw [dU, dL]
    by_cases q : ccA a f k = c
    · rw [if_pos q, if_pos q]
      omega
    · rw [if_neg q, if_neg q]
      omega
theorem cc_lt {a : Nat → Nat} {i : Nat} (h : fdOk a i) {k : Nat} (hk : k < a (334 + 5 * i + 4)) : ccA a i k < 64 := by
  obtain ⟨p1, _, _, _, _, p6⟩ := h
  obtain ⟨q1, q2, _⟩ := p6 k hk
  unfold ccA
  omega
theorem dgN_up {a b : Nat → Nat} {i : Nat} (h0 : a (334 + 5 * i + 3) = 0) (h1 : b (334 + 5 * i + 3) = 1) (h : ∀ j, j ≠ i → b (334 + 5 * j + 3) = a (334 + 5 * j + 3)) : ∀ n, i < n → dgN b n = dgN a n + 1
  | 0, hn => absurd hn (Nat.not_lt_zero _)
  | n + 1, hn => by
    rw [dgN, dgN]
    by_cases q : i = n
    · subst q
      have := dgN_cong (a := b) (b := a) (n := i) (fun j hj => h j (by omega))
      omega
    · have := dgN_up h0 h1 h n (by omega)
      have := h n (by omega)
      omega
theorem ok_dg {a : Nat → Nat} {i mn : Nat} (h : okA a) (hi : i < a 3) (h0 : a (334 + 5 * i + 3) = 0) (hm : mn ≤ a (334 + 5 * i + 4)) : okA (dgA a i mn) := by
  obtain ⟨⟨b0, b1, b2, b3⟩, opl, omk, osg, ofd, osh, oz⟩ := h
  have hf := ofd i hi
  have e : ∀ k, k < 470 → k ≠ 334 + 5 * i + 3 → dgA a i mn k = a k := fun k h1 h2 => dgA_lo h1 h2 mn
  have e0 := e 0 (by decide) (by omega)
  have e1 := e 1 (by decide) (by omega)
  have e2 := e 2 (by decide) (by omega)
  have e3 := e 3 (by decide) (by omega)
  have ef : dgA a i mn (334 + 5 * i + 3) = 1 := dg_f (by omega) mn
  have ed : dgN (dgA a i mn) (dgA a i mn 3) = dgN a (a 3) + 1 := by
    rw [e3]
    have hd : ∀ n, n ≤ 8 → i < n → dgN (dgA a i mn) n = dgN a n + 1 := fun n hn hin => by
      have hc : ∀ m, m ≤ 8 → ∀ j, j < m → j ≠ i → dgA a i mn (334 + 5 * j + 3) = a (334 + 5 * j + 3) := fun m hm j hj hji => e _ (by omega) (by omega)
      induction n with
      | zero => omega
      | succ n ih =>
        rw [dgN, dgN]
        by_cases q : i = n
        · subst q
          have := dgN_cong (a := dgA a i mn) (b := a) (n := i) (fun j hj => hc 8 (Nat.le_refl _) j (by omega) (by omega))
          omega
        · have := ih (by omega) (by omega)
          have := hc 8 (Nat.le_refl _) n (by omega) (by omega)
          omega
    exact hd _ b3 hi
  refine ⟨⟨by omega, by omega, by omega, by omega⟩, tP opl b0 e0 (fun k _ _ => e k (by omega) (by omega)), tM omk b1 e1 (by omega) (fun k _ _ => e k (by omega) (by omega)), tS osg b2 e2 (fun k _ _ => e k (by omega) (by omega)), fun j hj => ?_, fun c hc => ?_, fun k hk => ?_⟩
  · rw [e3] at hj
    obtain ⟨p1, p2, p3, p4, p5, p6⟩ := ofd j hj
    have e4 : dgA a i mn (334 + 5 * j + 4) = a (334 + 5 * j + 4) := e _ (by omega) (by omega)
    refine ⟨?_, ?_, ?_, ?_, ?_, fun k hk => ?_⟩
    · rw [e _ (by omega) (by omega)]; exact p1
    · rw [e _ (by omega) (by omega)]; exact p2
    · rw [e _ (by omega) (by omega)]; exact p3
    · by_cases q : j = i
      · subst q
        rw [ef]
        exact Nat.le_refl _
      · rw [e _ (by omega) (by omega)]; exact p4
    · rw [e4]; exact p5
    · rw [e4] at hk
      obtain ⟨q1, q2, q3⟩ := p6 k hk
      refine ⟨?_, ?_, ?_⟩ <;> rw [e _ (by omega) (by omega)] <;> assumption
  · obtain ⟨p1, p2, p3⟩ := osh c hc
    obtain ⟨v1, v2⟩ := dg_v (a := a) (f := i) (by omega) mn c
    obtain ⟨w1, w2⟩ := dUL (a := a) (f := i) (k := mn) (fun q hq => (hf.2.2.2.2.2 q (by omega)).2.2) c
    have := hf.2.2.2.2.1
    rw [shA1, v1, v2, ed]
    refine ⟨?_, ?_, ?_⟩ <;> omega
  · rw [dg_hi (by omega) hk mn (fun q hq => cc_lt hf (by omega))]
    exact oz k hk
/-- the class's counts -/
theorem fc_v {a : Nat → Nat} {LF : Nat → Nat → Nat → Nat} {i : Nat} (h : ∀ k, k < a (334 + 5 * i + 4) → ∀ j, j < 3 → LF j i k = a (374 + 12 * i + 3 * k + j)) (U V : Nat → Nat) : ∀ k, k ≤ a (334 + 5 * i + 4) → ∀ c, fcU (a (334 + 5 * i)) (LF 0 i) (LF 1 i) (LF 2 i) U k c = U c + dU a i k c ∧ fcL (a (334 + 5 * i)) (LF 0 i) (LF 1 i) V k c = V c + dL a i k c
  | 0, _, c => ⟨rfl, rfl⟩
  | k + 1, hk, c => by
    have ih := fc_v h U V k (by omega)
    have e : fcC (a (334 + 5 * i)) (LF 0 i) (LF 1 i) k = ccA a i k := by
      show (a (334 + 5 * i) * 4 + LF 0 i k) * 4 + LF 1 i k = _
      have g0 : LF 0 i k = a (374 + 12 * i + 3 * k) := h k (by omega) 0 (by decide)
      rw [g0, h k (by omega) 1 (by decide)]
      unfold ccA
      omega
    have e2 := h k (by omega) 2 (by decide)
    rw [fcU, fcL, dU, dL, e]
    by_cases q : ccA a i k = c
    · subst q
      rw [upN_s, upN_s, if_pos rfl, if_pos rfl, (ih _).1, (ih _).2, e2]
      omega
    · rw [upN_n (fun g => q g.symm), upN_n (fun g => q g.symm), if_neg q, if_neg q, (ih c).1, (ih c).2]
      omega
theorem fd_v {a : Nat → Nat} {LF : Nat → Nat → Nat → Nat} {i : Nat} (h : ∀ k, k < a (334 + 5 * i + 4) → ∀ j, j < 3 → LF j i k = a (374 + 12 * i + 3 * k + j)) (U V : Nat → Nat) : ∀ k, k ≤ a (334 + 5 * i + 4) → ∀ c, fdU (a (334 + 5 * i)) (LF 0 i) (LF 1 i) (LF 2 i) U k c = U c - dU a i k c ∧ fdL (a (334 + 5 * i)) (LF 0 i) (LF 1 i) V k c = V c - dL a i k c
  | 0, _, c => ⟨rfl, rfl⟩
  | k + 1, hk, c => by
    have ih := fd_v h U V k (by omega)
    have e : fcC (a (334 + 5 * i)) (LF 0 i) (LF 1 i) k = ccA a i k := by
      show (a (334 + 5 * i) * 4 + LF 0 i k) * 4 + LF 1 i k = _
      have g0 : LF 0 i k = a (374 + 12 * i + 3 * k) := h k (by omega) 0 (by decide)
      rw [g0, h k (by omega) 1 (by decide)]
      unfold ccA
      omega
    have e2 := h k (by omega) 2 (by decide)
    rw [fdU, fdL, dU, dL, e]
    by_cases q : ccA a i k = c
    · subst q
      rw [upN_s, upN_s, if_pos rfl, if_pos rfl, (ih _).1, (ih _).2, e2]
      omega
    · rw [upN_n (fun g => q g.symm), upN_n (fun g => q g.symm), if_neg q, if_neg q, (ih c).1, (ih c).2]
      omega
theorem dU_mono {a : Nat → Nat} {f c : Nat} : ∀ {k n : Nat}, k ≤ n → dU a f k c ≤ dU a f n c ∧ dL a f k c ≤ dL a f n c
  | k, 0, h => by rw [show k = 0 by omega]; exact ⟨Nat.le_refl _, Nat.le_refl _⟩
  | k, n + 1, h => by
    by_cases q : k = n + 1
    · subst q
      exact ⟨Nat.le_refl _, Nat.le_refl _⟩
    · obtain ⟨h1, h2⟩ := dU_mono (a := a) (f := f) (c := c) (k := k) (n := n) (by omega)
      rw [dU, dL]
      omega
theorem dU_cg {a b : Nat → Nat} {f c : Nat} (h0 : a (334 + 5 * f) = b (334 + 5 * f)) : ∀ {k : Nat}, (∀ q, q < k → ∀ j, j < 3 → a (374 + 12 * f + 3 * q + j) = b (374 + 12 * f + 3 * q + j)) → dU a f k c = dU b f k c ∧ dL a f k c = dL b f k c
  | 0, _ => ⟨rfl, rfl⟩
  | k + 1, h => by
    obtain ⟨h1, h2⟩ := dU_cg (c := c) h0 (k := k) (fun q hq => h q (by omega))
    have g0 : a (374 + 12 * f + 3 * k) = b (374 + 12 * f + 3 * k) := h k (by omega) 0 (by decide)
    have e : ccA a f k = ccA b f k := by
      unfold ccA
      rw [h0, g0, h k (by omega) 1 (by decide)]
    rw [dU, dL, dU, dL, h1, h2, e, h k (by omega) 2 (by decide)]
    exact ⟨rfl, rfl⟩
theorem zN_nI {z : Nat} (h : z ≤ 1) : zN (nI z) = z := by
  rcases (show z = 0 ∨ z = 1 by omega) with rfl | rfl <;> decide
theorem nI_z {z : Nat} (h : z ≤ 1) : nI z = 0 ↔ z = 0 := by
  rcases (show z = 0 ∨ z = 1 by omega) with rfl | rfl <;> decide
