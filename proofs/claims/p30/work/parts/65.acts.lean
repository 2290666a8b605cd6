/-! ===== what an act leaves as it was ===== -/
theorem upN_is {a : Nat → Nat} {i x j : Nat} (h : j = i) : upN a i x j = x := if_pos h
theorem kmU_min {km : Nat} (h : km ≤ 20) : min (km + 1) 20 = kmU km := by
  unfold kmU
  split <;> omega
theorem tP {a a' : Nat → Nat} (h : ∀ i, i < a 0 → plOk a i) (h6 : a 0 ≤ 6) (e0 : a' 0 = a 0) (e : ∀ k, 4 ≤ k → k < 202 → a' k = a k) : ∀ i, i < a' 0 → plOk a' i := fun i hi => by
  rw [e0] at hi
  obtain ⟨p1, p2⟩ := h i hi
  have e4 : a' (4 + i) = a (4 + i) := e _ (by omega) (by omega)
  refine ⟨by rw [e4]; exact p1, fun k j hk hj => ?_⟩
  rw [e4] at hk
  rw [e _ (by omega) (by omega)]
  exact p2 k j hk hj
theorem tM {a a' : Nat → Nat} (h : ∀ i, i < a 1 → mkOk a i) (h20 : a 1 ≤ 20) (e1 : a' 1 = a 1) (e0 : a 0 ≤ a' 0) (e : ∀ k, 202 ≤ k → k < 322 → a' k = a k) : ∀ i, i < a' 1 → mkOk a' i := fun i hi => by
  rw [e1] at hi
  obtain ⟨p1, p2, p3, p4, p5, p6⟩ := h i hi
  refine ⟨?_, ?_, ?_, ?_, ?_, ?_⟩ <;> rw [e _ (by omega) (by omega)] <;> omega
theorem tS {a a' : Nat → Nat} (h : ∀ k, k < a 2 → sg (a (322 + k))) (h12 : a 2 ≤ 12) (e2 : a' 2 = a 2) (e : ∀ k, 322 ≤ k → k < 334 → a' k = a k) : ∀ k, k < a' 2 → sg (a' (322 + k)) := fun k hk => by
  rw [e2] at hk
  rw [e _ (by omega) (by omega)]
  exact h k hk
theorem tF {a a' : Nat → Nat} (h : ∀ i, i < a 3 → fdOk a i) (h8 : a 3 ≤ 8) (e3 : a' 3 = a 3) (e : ∀ k, 334 ≤ k → k < 470 → a' k = a k) : ∀ i, i < a' 3 → fdOk a' i := fun i hi => by
  rw [e3] at hi
  obtain ⟨p1, p2, p3, p4, p5, p6⟩ := h i hi
  have e4 : a' (334 + 5 * i + 4) = a (334 + 5 * i + 4) := e _ (by omega) (by omega)
  refine ⟨?_, ?_, ?_, ?_, ?_, fun k hk => ?_⟩
  · rw [e _ (by omega) (by omega)]; exact p1
  · rw [e _ (by omega) (by omega)]; exact p2
  · rw [e _ (by omega) (by omega)]; exact p3
  · rw [e _ (by omega) (by omega)]; exact p4
  · rw [e4]; exact p5
  · rw [e4] at hk
    obtain ⟨q1, q2, q3⟩ := p6 k hk
    refine ⟨?_, ?_, ?_⟩ <;> rw [e _ (by omega) (by omega)] <;> assumption
theorem tT {a a' : Nat → Nat} (h : ∀ c, c < 64 → shA1 a c) (h8 : a 3 ≤ 8) (e3 : a' 3 = a 3) (e : ∀ k, 334 ≤ k → k < 598 → a' k = a k) : ∀ c, c < 64 → shA1 a' c := fun c hc => by
  obtain ⟨p1, p2, p3⟩ := h c hc
  have ed : dgN a' (a' 3) = dgN a (a 3) := by
    rw [e3]
    exact dgN_cong (fun i hi => e _ (by omega) (by omega))
  have x1 : a' (470 + 2 * c) = a (470 + 2 * c) := e _ (by omega) (by omega)
  have x2 : a' (470 + 2 * c + 1) = a (470 + 2 * c + 1) := e _ (by omega) (by omega)
  refine ⟨?_, ?_, ?_⟩
  · rw [x1]; exact p1
  · rw [x1, x2]; exact p2
  · rw [x2, ed]; exact p3
/-- contents -/
theorem cP {a a' : Nat → Nat} {PF : Nat → Nat → Nat → Nat} (h : ∀ i, i < a 0 → ∀ k, k < a (4 + i) → ∀ j, j < 4 → PF j i k = a (10 + 32 * i + 4 * k + j)) (hp : ∀ i, i < a 0 → plOk a i) (h6 : a 0 ≤ 6) (e0 : a' 0 = a 0) (e : ∀ k, 4 ≤ k → k < 202 → a' k = a k) : ∀ i, i < a' 0 → ∀ k, k < a' (4 + i) → ∀ j, j < 4 → PF j i k = a' (10 + 32 * i + 4 * k + j) := fun i hi k hk j hj => by
  rw [e0] at hi
  rw [e (4 + i) (by omega) (by omega)] at hk
  have := (hp i hi).1
  rw [e _ (by omega) (by omega)]
  exact h i hi k hk j hj
theorem cS {a a' SG : Nat → Nat} (h : ∀ k, k < a 2 → SG k = a (322 + k)) (h12 : a 2 ≤ 12) (e2 : a' 2 = a 2) (e : ∀ k, 322 ≤ k → k < 334 → a' k = a k) : ∀ k, k < a' 2 → SG k = a' (322 + k) := fun k hk => by
  rw [e2] at hk
  rw [e _ (by omega) (by omega)]
  exact h k hk
theorem cF {a a' : Nat → Nat} {LF : Nat → Nat → Nat → Nat} (h : ∀ i, i < a 3 → ∀ k, k < a (334 + 5 * i + 4) → ∀ j, j < 3 → LF j i k = a (374 + 12 * i + 3 * k + j)) (hf : ∀ i, i < a 3 → fdOk a i) (h8 : a 3 ≤ 8) (e3 : a' 3 = a 3) (e : ∀ k, 334 ≤ k → k < 470 → a' k = a k) : ∀ i, i < a' 3 → ∀ k, k < a' (334 + 5 * i + 4) → ∀ j, j < 3 → LF j i k = a' (374 + 12 * i + 3 * k + j) := fun i hi k hk j hj => by
  rw [e3] at hi
  rw [e (334 + 5 * i + 4) (by omega) (by omega)] at hk
  have := (hf i hi).2.2.2.2.1
  rw [e _ (by omega) (by omega)]
  exact h i hi k hk j hj
theorem cT_ {a a' UP LO : Nat → Nat} (h : ∀ c, c < 64 → UP c = a (470 + 2 * c) ∧ LO c = a (470 + 2 * c + 1)) (e : ∀ k, 470 ≤ k → k < 598 → a' k = a k) : ∀ c, c < 64 → UP c = a' (470 + 2 * c) ∧ LO c = a' (470 + 2 * c + 1) := fun c hc => by
  rw [e _ (by omega) (by omega), e _ (by omega) (by omega)]
  exact h c hc
/-! ===== picture ===== -/
theorem pi_e {a : Nat → Nat} {k : Nat} (h0 : k ≠ 0) (h4 : k ≠ 4 + a 0) : piA a k = a k := by simp only [piA, upN, if_neg h0, if_neg h4]
theorem pi_0 (a : Nat → Nat) : piA a 0 = a 0 + 1 := rfl
theorem pi_4 (a : Nat → Nat) : piA a (4 + a 0) = 0 := by
  unfold piA
  rw [upN_n (by omega), upN_s]
theorem ok_pi {a : Nat → Nat} (h : okA a) (h0 : a 0 < 6) : okA (piA a) := by
  obtain ⟨⟨b0, b1, b2, b3⟩, opl, omk, osg, ofd, osh, oz⟩ := h
  have e1 : piA a 1 = a 1 := pi_e (by decide) (by omega)
  have e2 : piA a 2 = a 2 := pi_e (by decide) (by omega)
  have e3 : piA a 3 = a 3 := pi_e (by decide) (by omega)
  refine ⟨⟨by rw [pi_0]; omega, by omega, by omega, by omega⟩, fun i hi => ?_, tM omk b1 e1 (by rw [pi_0]; omega) (fun k _ _ => pi_e (by omega) (by omega)), tS osg b2 e2 (fun k _ _ => pi_e (by omega) (by omega)), tF ofd b3 e3 (fun k _ _ => pi_e (by omega) (by omega)), tT osh b3 e3 (fun k _ _ => pi_e (by omega) (by omega)), fun k hk => by rw [pi_e (by omega) (by omega)]; exact oz k hk⟩
  rw [pi_0] at hi
  by_cases q : i = a 0
  · subst q
    rw [plOk, pi_4]
    exact ⟨by omega, fun k j hk => absurd hk (by omega)⟩
  · have e4 : piA a (4 + i) = a (4 + i) := pi_e (by omega) (by omega)
    obtain ⟨p1, p2⟩ := opl i (by omega)
    refine ⟨by rw [e4]; exact p1, fun k j hk hj => ?_⟩
    rw [e4] at hk
    rw [pi_e (by omega) (by omega)]
    exact p2 k j hk hj
/-! ===== place, unplace ===== -/
theorem pl_e {s : Nat → Nat} {i u v x y k : Nat} (h4 : k ≠ 4 + i) (h : ¬ (10 + 32 * i + 4 * s (4 + i) ≤ k ∧ k < 10 + 32 * i + 4 * s (4 + i) + 4)) : plA s i u v x y k = s k := by
  simp only [plA, upN]
  rw [if_neg h4, if_neg (by omega), if_neg (by omega), if_neg (by omega), if_neg (by omega)]
theorem pl_4 (s : Nat → Nat) (i u v x y : Nat) : plA s i u v x y (4 + i) = s (4 + i) + 1 := by simp only [plA, upN, if_true]
theorem pl_j {s : Nat → Nat} {i u v x y j : Nat} (hj : j < 4) (hi : i < 6) (f : Nat → Nat) (h0 : f 0 = u) (h1 : f 1 = v) (h2 : f 2 = x) (h3 : f 3 = y) : plA s i u v x y (10 + 32 * i + 4 * s (4 + i) + j) = f j := by
  rcases (show j = 0 ∨ j = 1 ∨ j = 2 ∨ j = 3 by omega) with rfl | rfl | rfl | rfl
  · unfold plA
    rw [upN_n (by omega), upN_n (by omega), upN_n (by omega), upN_n (by omega), upN_is (by omega), h0]
  · unfold plA
    rw [upN_n (by omega), upN_n (by omega), upN_n (by omega), upN_is (by omega), h1]
  · unfold plA
    rw [upN_n (by omega), upN_n (by omega), upN_is (by omega), h2]
  · unfold plA
    rw [upN_n (by omega), upN_is (by omega), h3]
def fo4 (u v x y : Nat) : Nat → Nat := fun j => if j = 0 then u else if j = 1 then v else if j = 2 then x else y
theorem ok_pl {a : Nat → Nat} {i u v x y : Nat} (h : okA a) (hi : i < a 0) (h8 : a (4 + i) < 8) (hu : u ≤ 999) (hv : v ≤ 999) (hx : x ≤ 999) (hy : y ≤ 999) : okA (plA a i u v x y) := by
  obtain ⟨⟨b0, b1, b2, b3⟩, opl, omk, osg, ofd, osh, oz⟩ := h
  have e0 : plA a i u v x y 0 = a 0 := pl_e (by omega) (by omega)
  have e1 : plA a i u v x y 1 = a 1 := pl_e (by omega) (by omega)
  have e2 : plA a i u v x y 2 = a 2 := pl_e (by omega) (by omega)
  have e3 : plA a i u v x y 3 = a 3 := pl_e (by omega) (by omega)
  refine ⟨⟨by omega, by omega, by omega, by omega⟩, fun i' hi' => ?_, tM omk b1 e1 (by omega) (fun k _ _ => pl_e (by omega) (by omega)), tS osg b2 e2 (fun k _ _ => pl_e (by omega) (by omega)), tF ofd b3 e3 (fun k _ _ => pl_e (by omega) (by omega)), tT osh b3 e3 (fun k _ _ => pl_e (by omega) (by omega)), fun k hk => by rw [pl_e (by omega) (by omega)]; exact oz k hk⟩
  rw [e0] at hi'
  obtain ⟨p1, p2⟩ := opl i' hi'
  by_cases q : i' = i
  · subst q
    refine ⟨by rw [pl_4]; omega, fun k j hk hj => ?_⟩
    rw [pl_4] at hk
    by_cases q2 : k = a (4 + i')
    · subst q2
      rw [pl_j (u := u) (v := v) (x := x) (y := y) hj (show i' < 6 by omega) (fo4 u v x y) rfl rfl rfl rfl]
      simp only [fo4]
      (repeat' split) <;> assumption
    · rw [pl_e (by omega) (by omega)]
      exact p2 k j (by omega) hj
  · have e4 : plA a i u v x y (4 + i') = a (4 + i') := pl_e (by omega) (by have := (opl i hi).1; omega)
    refine ⟨by rw [e4]; exact p1, fun k j hk hj => ?_⟩
    rw [e4] at hk
    rw [pl_e (by omega) (by omega)]
    exact p2 k j hk hj
theorem ok_un {a : Nat → Nat} {i n : Nat} (h : okA a) (hi : i < a 0) (hn : n ≤ a (4 + i)) : okA (upN a (4 + i) n) := by
  obtain ⟨⟨b0, b1, b2, b3⟩, opl, omk, osg, ofd, osh, oz⟩ := h
  have e : ∀ k, k ≠ 4 + i → upN a (4 + i) n k = a k := fun k h => upN_n h
  have e0 := e 0 (by omega)
  have e1 := e 1 (by omega)
  have e2 := e 2 (by omega)
  have e3 := e 3 (by omega)
  refine ⟨⟨by omega, by omega, by omega, by omega⟩, fun i' hi' => ?_, tM omk b1 e1 (by omega) (fun k _ _ => e k (by omega)), tS osg b2 e2 (fun k _ _ => e k (by omega)), tF ofd b3 e3 (fun k _ _ => e k (by omega)), tT osh b3 e3 (fun k _ _ => e k (by omega)), fun k hk => by rw [e k (by omega)]; exact oz k hk⟩
  rw [e0] at hi'
  obtain ⟨p1, p2⟩ := opl i' hi'
  by_cases q : i' = i
  · subst q
    refine ⟨by rw [upN_s]; omega, fun k j hk hj => ?_⟩
    rw [upN_s] at hk
    rw [e _ (by omega)]
    exact p2 k j (by omega) hj
  · refine ⟨by rw [e _ (by omega)]; exact p1, fun k j hk hj => ?_⟩
    rw [e _ (by omega)] at hk
    rw [e _ (by omega)]
    exact p2 k j hk hj
/-! ===== mark ===== -/
theorem mr_e {s : Nat → Nat} {i k0 u v z g k : Nat} (h1 : k ≠ 1) (h : ¬ (202 + 6 * s 1 ≤ k ∧ k < 202 + 6 * s 1 + 6)) : mrA s i k0 u v z g k = s k := by
  simp only [mrA, upN]
  rw [if_neg h1, if_neg (by omega), if_neg (by omega), if_neg (by omega), if_neg (by omega), if_neg (by omega), if_neg (by omega)]
theorem mr_1 (s : Nat → Nat) (i k0 u v z g : Nat) : mrA s i k0 u v z g 1 = s 1 + 1 := rfl
theorem mr_v (s : Nat → Nat) (i k0 u v z g : Nat) : mrA s i k0 u v z g (202 + 6 * s 1) = i ∧ mrA s i k0 u v z g (202 + 6 * s 1 + 1) = k0 ∧ mrA s i k0 u v z g (202 + 6 * s 1 + 2) = u ∧ mrA s i k0 u v z g (202 + 6 * s 1 + 3) = v ∧ mrA s i k0 u v z g (202 + 6 * s 1 + 4) = z ∧ mrA s i k0 u v z g (202 + 6 * s 1 + 5) = g := by
  refine ⟨?_, ?_, ?_, ?_, ?_, ?_⟩ <;> unfold mrA
  · rw [upN_n (by omega), upN_n (by omega), upN_n (by omega), upN_n (by omega), upN_n (by omega), upN_n (by omega), upN_is (by omega)]
  · rw [upN_n (by omega), upN_n (by omega), upN_n (by omega), upN_n (by omega), upN_n (by omega), upN_is (by omega)]
  · rw [upN_n (by omega), upN_n (by omega), upN_n (by omega), upN_n (by omega), upN_is (by omega)]
  · rw [upN_n (by omega), upN_n (by omega), upN_n (by omega), upN_is (by omega)]
  · rw [upN_n (by omega), upN_n (by omega), upN_is (by omega)]
  · rw [upN_n (by omega), upN_is (by omega)]
theorem ok_mr {a : Nat → Nat} {i k0 u v z g : Nat} (h : okA a) (h20 : a 1 < 20) (hm : mkN (a 0) i k0 u v z g) : okA (mrA a i k0 u v z g) := by
  obtain ⟨⟨b0, b1, b2, b3⟩, opl, omk, osg, ofd, osh, oz⟩ := h
  have e0 : mrA a i k0 u v z g 0 = a 0 := mr_e (by decide) (by omega)
  have e2 : mrA a i k0 u v z g 2 = a 2 := mr_e (by decide) (by omega)
  have e3 : mrA a i k0 u v z g 3 = a 3 := mr_e (by decide) (by omega)
  refine ⟨⟨by omega, by rw [mr_1]; omega, by omega, by omega⟩, tP opl b0 e0 (fun k _ _ => mr_e (by omega) (by omega)), fun i' hi' => ?_, tS osg b2 e2 (fun k _ _ => mr_e (by omega) (by omega)), tF ofd b3 e3 (fun k _ _ => mr_e (by omega) (by omega)), tT osh b3 e3 (fun k _ _ => mr_e (by omega) (by omega)), fun k hk => by rw [mr_e (by omega) (by omega)]; exact oz k hk⟩
  rw [mr_1] at hi'
  by_cases q : i' = a 1
  · subst q
    obtain ⟨v0, v1, v2, v3, v4, v5⟩ := mr_v a i k0 u v z g
    obtain ⟨m1, m2, m3, m4, m5, m6⟩ := mkN_b hm
    rw [mkOk, v0, v1, v2, v3, v4, v5, e0]
    exact ⟨m1, m2, m3, m4, m5, m6⟩
  · obtain ⟨p1, p2, p3, p4, p5, p6⟩ := omk i' (by omega)
    refine ⟨?_, ?_, ?_, ?_, ?_, ?_⟩ <;> rw [mr_e (by omega) (by omega)] <;> omega
/-! ===== sign, blank, text ===== -/
theorem si_e {s : Nat → Nat} {v k : Nat} (h2 : k ≠ 2) (h : k ≠ 322 + s 2) : siA s v k = s k := by simp only [siA, upN, if_neg h2, if_neg h]
theorem si_2 (s : Nat → Nat) (v : Nat) : siA s v 2 = s 2 + 1 := rfl
theorem si_v (s : Nat → Nat) (v : Nat) : siA s v (322 + s 2) = v := by
  unfold siA
  rw [upN_n (by omega), upN_s]
/-- a text comes: only signs change -/
theorem ok_tx {a a' : Nat → Nat} (h : okA a) (h12 : a' 2 ≤ 12) (hs : ∀ k, k < a' 2 → sg (a' (322 + k))) (e : ∀ k, k ≠ 2 → ¬ (322 ≤ k ∧ k < 334) → a' k = a k) : okA a' := by
  obtain ⟨⟨b0, b1, b2, b3⟩, opl, omk, osg, ofd, osh, oz⟩ := h
  have e0 := e 0 (by decide) (by omega)
  have e1 := e 1 (by decide) (by omega)
  have e3 := e 3 (by decide) (by omega)
  exact ⟨⟨by omega, by omega, h12, by omega⟩, tP opl b0 e0 (fun k _ _ => e k (by omega) (by omega)), tM omk b1 e1 (by omega) (fun k _ _ => e k (by omega) (by omega)), hs, tF ofd b3 e3 (fun k _ _ => e k (by omega) (by omega)), tT osh b3 e3 (fun k _ _ => e k (by omega) (by omega)), fun k hk => by rw [e k (by omega) (by omega)]; exact oz k hk⟩
theorem si_t {a : Nat → Nat} {v : Nat} (h : a 2 < 12) : ∀ k, k ≠ 2 → ¬ (322 ≤ k ∧ k < 334) → siA a v k = a k := fun k h1 h2 => si_e h1 (by omega)
theorem ok_si {a : Nat → Nat} {v : Nat} (h : okA a) (h12 : a 2 < 12) (hv : sg v) : okA (siA a v) := ok_tx h (by rw [si_2]; omega) (fun k hk => by
  rw [si_2] at hk
  by_cases q : k = a 2
  · subst q
    rw [si_v]
    exact hv
  · rw [si_e (by omega) (by omega)]
    exact h.2.2.2.1 k (by omega)) (si_t h12)
theorem ok_bl {a : Nat → Nat} (h : okA a) : okA (upN a 2 0) := ok_tx h (by rw [upN_s]; omega) (fun k hk => by rw [upN_s] at hk; omega) (fun k h1 _ => upN_n h1)
theorem tx_e {a f : Nat → Nat} {n k : Nat} (hn : n ≤ 12) (h1 : k ≠ 2) (h2 : ¬ (322 ≤ k ∧ k < 334)) : cpN (upN a 2 n) f 322 n k = a k := by
  unfold cpN
  rw [if_neg (by omega), upN_n h1]
theorem tx_2 {a f : Nat → Nat} {n : Nat} : cpN (upN a 2 n) f 322 n 2 = n := by
  unfold cpN
  rw [if_neg (by omega), upN_s]
theorem tx_v {a f : Nat → Nat} {n k : Nat} (hk : k < n) : cpN (upN a 2 n) f 322 n (322 + k) = f k := by
  unfold cpN
  rw [if_pos (by omega), Nat.add_sub_cancel_left]
/-! ===== field, look ===== -/
theorem fi_e {s : Nat → Nat} {so ch ho k : Nat} (h3 : k ≠ 3) (h : ¬ (334 + 5 * s 3 ≤ k ∧ k < 334 + 5 * s 3 + 5)) : fiA s so ch ho k = s k := by
  simp only [fiA, upN]
  rw [if_neg h3, if_neg (by omega), if_neg (by omega), if_neg (by omega), if_neg (by omega), if_neg (by omega)]
theorem fi_3 (s : Nat → Nat) (so ch ho : Nat) : fiA s so ch ho 3 = s 3 + 1 := rfl
theorem fi_v (s : Nat → Nat) (so ch ho : Nat) : fiA s so ch ho (334 + 5 * s 3) = so ∧ fiA s so ch ho (334 + 5 * s 3 + 1) = ch ∧ fiA s so ch ho (334 + 5 * s 3 + 2) = ho ∧ fiA s so ch ho (334 + 5 * s 3 + 3) = 0 ∧ fiA s so ch ho (334 + 5 * s 3 + 4) = 0 := by
  refine ⟨?_, ?_, ?_, ?_, ?_⟩ <;> unfold fiA
  · rw [upN_n (by omega), upN_n (by omega), upN_n (by omega), upN_n (by omega), upN_n (by omega), upN_is (by omega)]
  · rw [upN_n (by omega), upN_n (by omega), upN_n (by omega), upN_n (by omega), upN_is (by omega)]
  · rw [upN_n (by omega), upN_n (by omega), upN_n (by omega), upN_is (by omega)]
  · rw [upN_n (by omega), upN_n (by omega), upN_is (by omega)]
  · rw [upN_n (by omega), upN_is (by omega)]
theorem fi_dg {a : Nat → Nat} {so ch ho : Nat} : dgN (fiA a so ch ho) (fiA a so ch ho 3) = dgN a (a 3) := by
  rw [fi_3, dgN, (fi_v a so ch ho).2.2.2.1, Nat.add_zero]
  exact dgN_cong (fun i hi => fi_e (by omega) (by omega))
theorem ok_fi {a : Nat → Nat} {so ch ho : Nat} (h : okA a) (h8 : a 3 < 8) (hs : so ≤ 3) (hc : 1 ≤ ch ∧ ch ≤ 99) (hh : 1 ≤ ho ∧ ho ≤ 9) : okA (fiA a so ch ho) := by
  obtain ⟨⟨b0, b1, b2, b3⟩, opl, omk, osg, ofd, osh, oz⟩ := h
  have e0 : fiA a so ch ho 0 = a 0 := fi_e (by decide) (by omega)
  have e1 : fiA a so ch ho 1 = a 1 := fi_e (by decide) (by omega)
  have e2 : fiA a so ch ho 2 = a 2 := fi_e (by decide) (by omega)
  refine ⟨⟨by omega, by omega, by omega, by rw [fi_3]; omega⟩, tP opl b0 e0 (fun k _ _ => fi_e (by omega) (by omega)), tM omk b1 e1 (by omega) (fun k _ _ => fi_e (by omega) (by omega)), tS osg b2 e2 (fun k _ _ => fi_e (by omega) (by omega)), fun i hi => ?_, fun c hc => ?_, fun k hk => by rw [fi_e (by omega) (by omega)]; exact oz k hk⟩
  · rw [fi_3] at hi
    by_cases q : i = a 3
    · subst q
      obtain ⟨v0, v1, v2, v3, v4⟩ := fi_v a so ch ho
      rw [fdOk, v0, v1, v2, v3, v4]
      exact ⟨hs, hc, hh, by decide, by decide, fun k hk => absurd hk (Nat.not_lt_zero k)⟩
    · obtain ⟨p1, p2, p3, p4, p5, p6⟩ := ofd i (by omega)
      have e4 : fiA a so ch ho (334 + 5 * i + 4) = a (334 + 5 * i + 4) := fi_e (by omega) (by omega)
      refine ⟨?_, ?_, ?_, ?_, ?_, fun k hk => ?_⟩
      · rw [fi_e (by omega) (by omega)]; exact p1
      · rw [fi_e (by omega) (by omega)]; exact p2
      · rw [fi_e (by omega) (by omega)]; exact p3
      · rw [fi_e (by omega) (by omega)]; exact p4
      · rw [e4]; exact p5
      · rw [e4] at hk
        obtain ⟨q1, q2, q3⟩ := p6 k hk
        refine ⟨?_, ?_, ?_⟩ <;> rw [fi_e (by omega) (by omega)] <;> assumption
  · obtain ⟨p1, p2, p3⟩ := osh c hc
    rw [shA1, fi_dg, fi_e (by omega) (by omega), fi_e (by omega) (by omega)]
    exact ⟨p1, p2, p3⟩
theorem lo_e {s : Nat → Nat} {i cr dr z k : Nat} (h4 : k ≠ 334 + 5 * i + 4) (h : ¬ (374 + 12 * i + 3 * s (334 + 5 * i + 4) ≤ k ∧ k < 374 + 12 * i + 3 * s (334 + 5 * i + 4) + 3)) : loA s i cr dr z k = s k := by
  simp only [loA, upN]
  rw [if_neg h4, if_neg (by omega), if_neg (by omega), if_neg (by omega)]
theorem lo_4 (s : Nat → Nat) (i cr dr z : Nat) : loA s i cr dr z (334 + 5 * i + 4) = s (334 + 5 * i + 4) + 1 := by simp only [loA, upN, if_true]
theorem lo_v {s : Nat → Nat} {i cr dr z : Nat} (hi : i < 8) : loA s i cr dr z (374 + 12 * i + 3 * s (334 + 5 * i + 4)) = cr ∧ loA s i cr dr z (374 + 12 * i + 3 * s (334 + 5 * i + 4) + 1) = dr ∧ loA s i cr dr z (374 + 12 * i + 3 * s (334 + 5 * i + 4) + 2) = z := by
  refine ⟨?_, ?_, ?_⟩ <;> unfold loA
  · rw [upN_n (by omega), upN_n (by omega), upN_n (by omega), upN_is (by omega)]
  · rw [upN_n (by omega), upN_n (by omega), upN_is (by omega)]
  · rw [upN_n (by omega), upN_is (by omega)]
theorem ok_lo {a : Nat → Nat} {i cr dr z : Nat} (h : okA a) (hi : i < a 3) (h4 : a (334 + 5 * i + 4) < 4) (hc : cr ≤ 3) (hd : dr ≤ 3) (hz : z ≤ 1) : okA (loA a i cr dr z) := by
  obtain ⟨⟨b0, b1, b2, b3⟩, opl, omk, osg, ofd, osh, oz⟩ := h
  have e0 : loA a i cr dr z 0 = a 0 := lo_e (by omega) (by omega)
  have e1 : loA a i cr dr z 1 = a 1 := lo_e (by omega) (by omega)
  have e2 : loA a i cr dr z 2 = a 2 := lo_e (by omega) (by omega)
  have e3 : loA a i cr dr z 3 = a 3 := lo_e (by omega) (by omega)
  have ed : dgN (loA a i cr dr z) (loA a i cr dr z 3) = dgN a (a 3) := by
    rw [e3]
    exact dgN_cong (fun j hj => lo_e (by omega) (by omega))
  refine ⟨⟨by omega, by omega, by omega, by omega⟩, tP opl b0 e0 (fun k _ _ => lo_e (by omega) (by omega)), tM omk b1 e1 (by omega) (fun k _ _ => lo_e (by omega) (by omega)), tS osg b2 e2 (fun k _ _ => lo_e (by omega) (by omega)), fun j hj => ?_, fun c hc => ?_, fun k hk => by rw [lo_e (by omega) (by omega)]; exact oz k hk⟩
  · rw [e3] at hj
    obtain ⟨p1, p2, p3, p4, p5, p6⟩ := ofd j hj
    refine ⟨?_, ?_, ?_, ?_, ?_, fun k hk => ?_⟩
    · rw [lo_e (by omega) (by omega)]; exact p1
    · rw [lo_e (by omega) (by omega)]; exact p2
    · rw [lo_e (by omega) (by omega)]; exact p3
    · rw [lo_e (by omega) (by omega)]; exact p4
    · by_cases q : j = i
      · subst q
        rw [lo_4]
        omega
      · rw [lo_e (by omega) (by omega)]; exact p5
    · by_cases q : j = i
      · subst q
        rw [lo_4] at hk
        by_cases q2 : k = a (334 + 5 * j + 4)
        · subst q2
          obtain ⟨v0, v1, v2⟩ := lo_v (s := a) (cr := cr) (dr := dr) (z := z) (show j < 8 by omega)
          rw [v0, v1, v2]
          exact ⟨hc, hd, hz⟩
        · obtain ⟨q1, q2, q3⟩ := p6 k (by omega)
          refine ⟨?_, ?_, ?_⟩ <;> rw [lo_e (by omega) (by omega)] <;> assumption
      · rw [lo_e (by omega) (by omega)] at hk
        obtain ⟨q1, q2, q3⟩ := p6 k hk
        refine ⟨?_, ?_, ?_⟩ <;> rw [lo_e (by omega) (by omega)] <;> assumption
  · obtain ⟨p1, p2, p3⟩ := osh c hc
    rw [shA1, ed, lo_e (by omega) (by omega), lo_e (by omega) (by omega)]
    exact ⟨p1, p2, p3⟩
