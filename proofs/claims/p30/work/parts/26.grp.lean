/-! ===== GROUPS: what hangs together, and its numbers ===== -/
theorem agr_symm {a : Nat → Nat} {i j : Nat} (h : agr a i j) : agr a j i := by
  obtain ⟨h1, h2, h3, h4, h5, h6⟩ := h
  exact ⟨fun q => h1 q.symm, h2.symm, h4, h3, by omega, by omega⟩
def con (a : Nat → Nat) (n i j : Nat) : Prop := ∀ S : Nat → Prop, S i → (∀ x y, x < n → y < n → S x → agr a x y → S y) → S j
theorem con_refl {a : Nat → Nat} {n i : Nat} : con a n i i := fun _ h _ => h
theorem con_trans {a : Nat → Nat} {n i j k : Nat} (h1 : con a n i j) (h2 : con a n j k) : con a n i k := fun S h0 hc => h2 S (h1 S h0 hc) hc
theorem con_step {a : Nat → Nat} {n i j : Nat} (hi : i < n) (hj : j < n) (h : agr a i j) : con a n i j := fun _ h0 hc => hc i j hi hj h0 h
theorem con_symm {a : Nat → Nat} {n i j : Nat} (h : con a n i j) : con a n j i := h (fun x => con a n x i) con_refl (fun _ _ hx hy hS hag => con_trans (con_step hy hx (agr_symm hag)) hS)
/-- a group k grown from the mark m over what was there (0: no group yet; k + 1: group k) -/
def sprd (a : Nat → Nat) (n : Nat) (G0 G : Nat → Nat) (k m : Nat) : Prop := (∀ j, j < n → G0 j ≠ 0 → G j = G0 j) ∧ (∀ j, j < n → G0 j = 0 → G j = 0 ∨ (G j = k + 1 ∧ con a n m j)) ∧ (∀ i j, i < n → j < n → G i = k + 1 → agr a i j → G j ≠ 0)
def gInv (a : Nat → Nat) (n : Nat) (G : Nat → Nat) (m c : Nat) : Prop := (∀ j, j < n → G j ≤ c) ∧ (∀ j, j < m → j < n → G j ≠ 0) ∧ (∀ i j, i < n → j < n → G i ≠ 0 → agr a i j → G j = G i) ∧ (∀ i j, i < n → j < n → G i ≠ 0 → G i = G j → con a n i j) ∧ (∀ i, i < n → ∀ k, 0 < k → k < G i → ∃ j, j < i ∧ G j = k) ∧ (∀ k, 0 < k → k ≤ c → ∃ j, j < m ∧ j < n ∧ G j = k)
theorem gInv_0 {a : Nat → Nat} {n : Nat} {G : Nat → Nat} (h : ∀ j, j < n → G j = 0) : gInv a n G 0 0 :=
  ⟨fun j hj => by rw [h j hj]; exact Nat.le_refl 0, fun j hj => absurd hj (by omega), fun i j hi _ hn => absurd (h i hi) hn, fun i j hi _ hn => absurd (h i hi) hn, fun i hi k _ hk => by rw [h i hi] at hk; omega, fun k h1 h2 => by omega⟩
theorem gInv_skip {a : Nat → Nat} {n : Nat} {G : Nat → Nat} {m c : Nat} (h : gInv a n G m c) (h0 : G m ≠ 0) : gInv a n G (m + 1) c := by
  obtain ⟨g1, g2, g3, g4, g5, g6⟩ := h
  refine ⟨g1, fun j hj hn => ?_, g3, g4, g5, fun k h1 h2 => ?_⟩
  · rcases Nat.lt_or_ge j m with q | q
    · exact g2 j q hn
    · rw [show j = m by omega]; exact h0
  · obtain ⟨j, h3, h4, h5⟩ := g6 k h1 h2
    exact ⟨j, by omega, h4, h5⟩
theorem gInv_add {a : Nat → Nat} {n : Nat} {G G' : Nat → Nat} {m c : Nat} (h : gInv a n G m c) (hm : m < n) (h0 : G m = 0) (hs : sprd a n (upN G m (c + 1)) G' c m) : gInv a n G' (m + 1) (c + 1) := by
  obtain ⟨g1, g2, g3, g4, g5, g6⟩ := h
  obtain ⟨s1, s2, s3⟩ := hs
  have old : ∀ j, j < n → G j ≠ 0 → G' j = G j := fun j hj hn => by
    have hjm : j ≠ m := fun q => hn (by rw [q]; exact h0)
    have := s1 j hj (by rw [upN_n hjm]; exact hn)
    rw [this, upN_n hjm]
  have hGm : G' m = c + 1 := by
    have := s1 m hm (by rw [upN_s]; omega)
    rw [this, upN_s]
  have new : ∀ j, j < n → G j = 0 → j ≠ m → G' j = 0 ∨ (G' j = c + 1 ∧ con a n m j) := fun j hj hz hjm => s2 j hj (by rw [upN_n hjm]; exact hz)
  have isNew : ∀ j, j < n → G' j = c + 1 → G j = 0 ∧ con a n m j := fun j hj hq => by
    have hz : G j = 0 := Classical.byContradiction fun hn => by
      have h1 := old j hj hn
      have h2 := g1 j hj
      omega
    refine ⟨hz, ?_⟩
    rcases Classical.em (j = m) with q | q
    · rw [q]; exact con_refl
    · rcases new j hj hz q with h1 | h1
      · omega
      · exact h1.2
  have isOld : ∀ j, j < n → G' j ≠ 0 → G' j ≠ c + 1 → G j ≠ 0 := fun j hj h1 h2 hz => by
    rcases Classical.em (j = m) with q | q
    · rw [q] at h2; exact h2 hGm
    · rcases new j hj hz q with h3 | h3
      · exact h1 h3
      · exact h2 h3.1
  have ge : ∀ j, j < n → G j = 0 → m ≤ j := fun j hj hz => Nat.not_lt.mp fun q => g2 j q hj hz
  refine ⟨fun j hj => ?_, fun j hj hn => ?_, fun i j hi hj hn hag => ?_, fun i j hi hj hn he => ?_, fun i hi k hk1 hk2 => ?_, fun k hk1 hk2 => ?_⟩
  · rcases Classical.em (G j = 0) with q | q
    · rcases Classical.em (j = m) with q2 | q2
      · rw [q2, hGm]; omega
      · rcases new j hj q q2 with h1 | h1
        · omega
        · omega
    · rw [old j hj q]
      have := g1 j hj
      omega
  · rcases Nat.lt_or_ge j m with q | q
    · rw [old j hn (g2 j q hn)]; exact g2 j q hn
    · rw [show j = m by omega, hGm]; omega
  · rcases Classical.em (G' i = c + 1) with q | q
    · have h1 := s3 i j hi hj q hag
      rcases Classical.em (G' j = c + 1) with q2 | q2
      · rw [q, q2]
      · have h2 := isOld j hj h1 q2
        have h3 := g3 j i hj hi h2 (agr_symm hag)
        have h4 := (isNew i hi q).1
        rw [h4] at h3
        exact absurd h3.symm h2
    · have h1 := isOld i hi hn q
      have h2 := g3 i j hi hj h1 hag
      rw [old i hi h1, old j hj (by rw [h2]; exact h1), h2]
  · rcases Classical.em (G' i = c + 1) with q | q
    · exact con_trans (con_symm (isNew i hi q).2) (isNew j hj (by rw [← he]; exact q)).2
    · have h1 := isOld i hi hn q
      have h2 := isOld j hj (by rw [← he]; exact hn) (by rw [← he]; exact q)
      rw [old i hi h1, old j hj h2] at he
      exact g4 i j hi hj h1 he
  · rcases Classical.em (G' i = c + 1) with q | q
    · obtain ⟨j, h1, h2, h3⟩ := g6 k hk1 (by omega)
      have h4 := ge i hi (isNew i hi q).1
      exact ⟨j, by omega, by rw [old j h2 (by omega)]; exact h3⟩
    · have h1 := isOld i hi (by omega) q
      rw [old i hi h1] at hk2
      obtain ⟨j, h2, h3⟩ := g5 i hi k hk1 hk2
      exact ⟨j, h2, by rw [old j (by omega) (by omega)]; exact h3⟩
  · rcases Nat.lt_or_ge c k with q | q
    · exact ⟨m, by omega, hm, by rw [hGm]; omega⟩
    · obtain ⟨j, h1, h2, h3⟩ := g6 k hk1 q
      exact ⟨j, by omega, h2, by rw [old j h2 (by omega)]; exact h3⟩
/-- all MARKS are in GROUPS -/
def grp (a : Nat → Nat) (n : Nat) (G : Nat → Nat) (c : Nat) : Prop := gInv a n G n c
theorem grp_con {a : Nat → Nat} {n : Nat} {G : Nat → Nat} {c i j : Nat} (h : grp a n G c) (hi : i < n) (hj : j < n) (hc : con a n i j) : G j = G i := by
  obtain ⟨-, g2, g3, -⟩ := h
  exact (hc (fun x => x < n → G x = G i) (fun _ => rfl) (fun x y hx hy hS hag _ => by
    rw [g3 x y hx hy (g2 x hx hx) hag]
    exact hS hx)) hj
theorem grp_le {a : Nat → Nat} {n : Nat} {G G2 : Nat → Nat} {c c2 : Nat} (h : grp a n G c) (h2 : grp a n G2 c2) : ∀ i, i < n → (∀ j, j < i → G j = G2 j) → ¬ G i < G2 i := by
  intro i hi ih hlt
  obtain ⟨-, a2, -, a4, -⟩ := id h
  obtain ⟨-, b2, -, -, b5, -⟩ := id h2
  obtain ⟨j, h3, h4⟩ := b5 i hi (G i) (Nat.pos_of_ne_zero (a2 i hi hi)) hlt
  have h5 := ih j h3
  have h6 := a4 j i (by omega) hi (a2 j (by omega) (by omega)) (by rw [h5]; exact h4)
  have h7 := grp_con h2 (by omega) hi h6
  omega
theorem grp_one {a : Nat → Nat} {n : Nat} {G G2 : Nat → Nat} {c c2 : Nat} (h : grp a n G c) (h2 : grp a n G2 c2) : ∀ i, i < n → G i = G2 i := by
  intro i
  induction i using Nat.strongRecOn with
  | ind i ih =>
    intro hi
    have h3 := grp_le h h2 i hi (fun j hj => ih j hj (by omega))
    have h4 := grp_le h2 h i hi (fun j hj => (ih j hj (by omega)).symm)
    omega
theorem grp_c {a : Nat → Nat} {n : Nat} {G G2 : Nat → Nat} {c c2 : Nat} (h : grp a n G c) (h2 : grp a n G2 c2) : c ≤ c2 := by
  rcases Nat.eq_zero_or_pos c with q | q
  · omega
  · obtain ⟨j, -, h3, h4⟩ := h.2.2.2.2.2 c q (Nat.le_refl c)
    have h5 := grp_one h h2 j h3
    have h6 := h2.1 j h3
    omega
theorem grp_many {a : Nat → Nat} {n : Nat} {G G2 : Nat → Nat} {c c2 : Nat} (h : grp a n G c) (h2 : grp a n G2 c2) : c = c2 := Nat.le_antisymm (grp_c h h2) (grp_c h2 h)
/-- how many are in no group -/
def cnt0 (G : Nat → Nat) : Nat → Nat
  | 0 => 0
  | k + 1 => cnt0 G k + (if G k = 0 then 1 else 0)
theorem cnt0_le (G : Nat → Nat) : ∀ n, cnt0 G n ≤ n
  | 0 => Nat.le_refl 0
  | n + 1 => by
    have h := cnt0_le G n
    rw [cnt0]
    split <;> omega
theorem cnt0_out {G : Nat → Nat} {j x : Nat} : ∀ {n : Nat}, n ≤ j → cnt0 (upN G j x) n = cnt0 G n
  | 0, _ => rfl
  | n + 1, h => by rw [cnt0, cnt0, cnt0_out (by omega), upN_n (by omega)]
theorem cnt0_up {G : Nat → Nat} {j x : Nat} (h0 : G j = 0) (hx : x ≠ 0) : ∀ {n : Nat}, j < n → cnt0 (upN G j x) n + 1 = cnt0 G n
  | 0, h => absurd h (by omega)
  | n + 1, h => by
    rw [cnt0, cnt0]
    rcases Nat.lt_or_ge j n with q | q
    · have := cnt0_up (n := n) h0 hx q
      rw [upN_n (by omega)]
      omega
    · rw [show n = j by omega, cnt0_out (Nat.le_refl _), upN_s, if_neg hx, if_pos h0]
