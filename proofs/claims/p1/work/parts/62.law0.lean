theorem ini_lo : ∀ (k j : Nat), j < 470 → iniA k j = 0
  | 0, _, _ => rfl
  | k + 1, j, h => by
    rw [iniA_s]
    simp only [upN]
    rw [if_neg (by omega), if_neg (by omega)]
    exact ini_lo k j h
theorem ini_up : ∀ (k c : Nat), c < k → iniA k (470 + 2 * c) = 1 ∧ iniA k (470 + 2 * c + 1) = 2
  | 0, _, h => absurd h (Nat.not_lt_zero _)
  | k + 1, c, h => by
    rw [iniA_s]
    simp only [upN]
    by_cases q : c = k
    · subst q
      rw [if_neg (by omega), if_pos rfl, if_pos rfl]
      exact ⟨rfl, rfl⟩
    · rw [if_neg (by omega), if_neg (by omega), if_neg (by omega), if_neg (by omega)]
      exact ini_up k c (by omega)
theorem ini_0 : iniA 64 0 = 0 := ini_lo 64 0 (by decide)
theorem ini_1 : iniA 64 1 = 0 := ini_lo 64 1 (by decide)
theorem ini_2 : iniA 64 2 = 0 := ini_lo 64 2 (by decide)
theorem ini_3 : iniA 64 3 = 0 := ini_lo 64 3 (by decide)
theorem ini_sh : shOk (iniA 64) := fun so cr dr h1 h2 h3 => by
  obtain ⟨e1, e2⟩ := ini_up 64 (16 * so + 4 * cr + dr) (by omega)
  rw [e1, e2]
  decide
def zI (x : Int32) : Int32 := if x = 0 then 0 else 1
theorem ix0 {v : Int32} : ¬ ix 0 v := fun h => absurd h.2 (Int32.not_lt.mpr h.1)
theorem ix_of9 {n : Nat} {v : Int32} (h : ix n v) (hn : n < 2 ^ 31) : ∃ k : Nat, k < n ∧ v = nI k := by
  obtain ⟨j, hj, rfl⟩ := nI_rng h.1 (Int32.le_of_lt h.2) hn
  exact ⟨j, (nI_ltI (Nat.lt_of_le_of_lt hj hn) hn).mp h.2, rfl⟩
theorem ix_rg {v : Int32} (h : ix 4 v) : rg 0 3 v := by
  obtain ⟨k, hk, rfl⟩ := ix_of9 h (by decide)
  exact rg_nI (Nat.zero_le _) (by omega) (by decide)
theorem rg_ix {v : Int32} (h : rg 0 3 v) : ix 4 v := by
  obtain ⟨k, _, hk, rfl⟩ := rg_of h (by decide) (by decide)
  exact ix_nI (by omega) (by decide)
theorem sgI_nI {j : Nat} (h : sg j) : sgI (nI j) := by
  rcases h with h | h
  · exact Or.inl (rg_nI h.1 h.2 (by decide))
  · exact Or.inr (rg_nI h.1 h.2 (by decide))
theorem nI_inj9 {a b : Nat} (ha : a < 2 ^ 31) (hb : b < 2 ^ 31) (h : nI a = nI b) : a = b := by
  have := congrArg Int32.toNatClampNeg h
  rwa [nI_clamp ha, nI_clamp hb] at this
theorem plB_10 (v w : Nat → Nat) (hr : Nat) : plB (fun st => sumS v st 0) (fun st => sumS w st 0) hr 1 = (0, 0, 0) := plB_n rfl (fun h => by
  have h2 : 0 < 0 ∨ ((0 : Nat) = 0 ∧ 0 < 0) := h.2
  omega)
theorem law_gt {i L : Nat} (hi : i < 2 ^ 30) (hL : L < 2 ^ 30) : nI L - nI 7 < nI i ↔ L < i + 7 := by
  by_cases q : 7 ≤ L
  · rw [pk_sub q, nI_ltI (by omega) (by omega)]
    omega
  · exact ⟨fun _ => by omega, fun _ => Int32.lt_of_lt_of_le (pk_sneg (by decide) (by omega)) (nI_pos' (by omega))⟩
section LZ
variable {p : Program} {l : Launch} {e : Env} {R : Room} {s : State} {m : MethodId} {args : Array Value} {below : List Frame} {meth : Method} {c : Code} {H : Heap} {locs : List Loc} {cells slots : Nat} {Q : State → Prop} {cc : ByteArray} {pc : Nat} {ls : Array Slot} {rest : List Value}
/-- a truth value out of an int of the script: x != 0 -/
theorem lz_dia (hx : p.tables.exec = Jvm.exec) (hb : c.code = cc) {x : Int32} (d1 : decode cc pc = .ok (.ifCond .eq 7, 3)) (d2 : decode cc (pc + 3) = .ok (.iconst 1, 1)) (d3 : decode cc (pc + 4) = .ok (.goto 4, 3)) (d4 : decode cc (pc + 7) = .ok (.iconst 0, 1)) (k : W p l e R s m args below meth c H locs cells slots Q (F0 m (pc + 8) ls (.int (zI x) :: rest))) : W p l e R s m args below meth c H locs cells slots Q (F0 m pc ls (.int x :: rest)) := by
  refine lv_if_eq (tgt := pc + 7) hx hb d1 (by omega) (fun h => ?_) (fun h => ?_)
  · refine lv_iconst (v := 0) hx hb d4 (by decide) ?_
    rw [show zI x = 0 from if_pos h] at k
    exact k
  · refine lv_iconst (v := 1) hx hb d2 (by decide) ?_
    refine lv_goto (tgt := pc + 8) hx hb d3 (by omega) ?_
    rw [show zI x = 1 from if_neg h] at k
    exact k
end LZ
abbrev fC (cy : Nat → ClassId) (d0 pA mA go0 ga0 gb0 gc0 m0 sA rA fQ t0 up lo g0 ga ho shA pq sA0 s0 z0 s1 z1 s2 z2 s3 z3 : Nat) (sa ra : Nat → Nat) : va_W := [(d0, .inr (11, [.ref (pA), .int (nI (0)), .ref (mA), .int (nI (0)), .ref (go0), .ref (m0), .ref (fQ), .int (nI (0)), .ref (t0), .ref (g0), .ref (shA), .ref (pq), .long (0)])), (pA, .inl (cy 3, 6, .inr (.inr (.inr (.inr (fun _ => none)))))), (mA, .inl (cy 4, 20, .inr (.inr (.inr (.inr (fun _ => none)))))), (go0, .inr (3, [.ref (ga0), .ref (gb0), .ref (gc0), .int (nI (0)), .int (nI (0))])), (ga0, .inl (cy 0, 20, .inl (fun _ => 0))), (gb0, .inl (cy 0, 20, .inl (nA (fun _ => 0)))), (gc0, .inl (cy 0, 4, .inl (nA (fun _ => 0)))), (m0, .inr (2, [.ref (sA), .int (nI (0)), .ref (rA)])), (sA, .inl (cy 0, 12, .inl (nA (fun _ => 0)))), (rA, .inl (cy 0, 7, .inl (nA (fun _ => 0)))), (fQ, .inl (cy 5, 8, .inr (.inr (.inr (.inr (fun _ => none)))))), (t0, .inr (10, [.ref (up), .ref (lo)])), (up, .inl (cy 0, 64, .inl (nA (tbF 1)))), (lo, .inl (cy 0, 64, .inl (nA (tbF 2)))), (g0, .inr (1, [.ref (ga), .ref (ho), .int (nI (0)), .long (0), .int (nI (0))])), (ga, .inl (cy 1, 8, .inr (.inl (fun _ => 0)))), (ho, .inl (cy 0, 8, .inl (nA (fun _ => 0)))), (shA, .inl (cy 6, 4, .inr (.inr (.inr (.inr (va_up (va_up (va_up (va_up (fun _ => none) (0) (some (s0))) (1) (some (s1))) (2) (some (s2))) (3) (some (s3)))))))), (pq, .inr (6, [.ref (sA0), .int (nI (0)), .int (nI (0))])), (sA0, .inl (cy 7, 20, .inr (.inr (.inr (.inr (stF sa 20)))))), (s0, .inr (8, [.ref (z0), .int (nI (0)), .int (nI (0))])), (z0, .inl (cy 0, 16, .inl (fun _ => 0))), (s1, .inr (8, [.ref (z1), .int (nI (0)), .int (nI (0))])), (z1, .inl (cy 0, 16, .inl (fun _ => 0))), (s2, .inr (8, [.ref (z2), .int (nI (0)), .int (nI (0))])), (z2, .inl (cy 0, 16, .inl (fun _ => 0))), (s3, .inr (8, [.ref (z3), .int (nI (0)), .int (nI (0))])), (z3, .inl (cy 0, 16, .inl (fun _ => 0))), (sa 0, .inr (9, [.int (nI (0)), .int (nI (0)), .ref (ra 0)])), (ra 0, .inl (cy 0, 12, .inl (nA (fun _ => 0))))]
abbrev fM (cy : Nat → ClassId) (ad : Nat → Nat) : va_W := mW ad (cy 0) (cy 1) (iniA 64) (fun _ => 0) (fun _ => 0) (fun _ => 0) (fun _ => 0) (fun _ => 1) (fun _ => 0) (fun _ => 0) 0 0 0 0 0 0 0 0 0 0 0 0 0 (fun _ => 0) (fun _ => 0) (fun _ => 0)
