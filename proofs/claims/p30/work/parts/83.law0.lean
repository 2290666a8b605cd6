theorem ini_lo : ∀ (k j : Nat), j < 470 → iniA k j = 0
  | 0, _, _ => rfl
  | k + 1, j, h => by
    rw [iniA_s]
    simp only [upN]
    rw [if_neg (by omega), if_neg (by omega)]
    exact ini_lo k j h
theorem ini_hi : ∀ (k j : Nat), k ≤ 64 → 598 ≤ j → iniA k j = 0
  | 0, _, _, _ => rfl
  | k + 1, j, h, g => by
    rw [iniA_s]
    simp only [upN]
    rw [if_neg (by omega), if_neg (by omega)]
    exact ini_hi k j (by omega) g
theorem ini_up : ∀ (k c : Nat), c < k → iniA k (470 + 2 * c) = 1 ∧ iniA k (470 + 2 * c + 1) = 2
  | 0, _, h => absurd h (Nat.not_lt_zero _)
  | k + 1, c, h => by
    rw [iniA_s]
    simp only [upN]
    by_cases q : c = k
    · subst q
      rw [if_neg (by omega), if_pos rfl, if_pos rfl]
      exact ⟨rfl, rfl⟩
    · rw [if_neg (by omega), if_neg (by omega), if_neg (by omega), if_neg (by omega)]
      exact ini_up k c (by omega)
theorem ini_0 : iniA 64 0 = 0 := ini_lo 64 0 (by decide)
theorem ini_1 : iniA 64 1 = 0 := ini_lo 64 1 (by decide)
theorem ini_2 : iniA 64 2 = 0 := ini_lo 64 2 (by decide)
theorem ini_3 : iniA 64 3 = 0 := ini_lo 64 3 (by decide)
theorem ok_ini : okA (iniA 64) := ⟨⟨by rw [ini_0]; decide, by rw [ini_1]; decide, by rw [ini_2]; decide, by rw [ini_3]; decide⟩, fun i h => absurd h (by rw [ini_0]; exact Nat.not_lt_zero i), fun i h => absurd h (by rw [ini_1]; exact Nat.not_lt_zero i), fun i h => absurd h (by rw [ini_2]; exact Nat.not_lt_zero i), fun i h => absurd h (by rw [ini_3]; exact Nat.not_lt_zero i), fun c hc => by
  obtain ⟨e1, e2⟩ := ini_up 64 c hc
  rw [shA1, e1, e2]
  omega, fun k hk => ini_hi 64 k (by decide) hk⟩
def zI (x : Int32) : Int32 := if x = 0 then 0 else 1
theorem zN_b (z : Int32) : zN z ≤ 1 := by
  unfold zN
  split <;> omega
theorem zI_N (x : Int32) : zI x = nI (zN x) := by
  unfold zI zN
  split <;> rfl
theorem law_gt {i L : Nat} (hi : i < 2 ^ 30) (hL : L < 2 ^ 30) : nI L - nI 7 < nI i ↔ L < i + 7 := by
  by_cases q : 7 ≤ L
  · rw [pk_sub q, nI_ltI (by omega) (by omega)]
    omega
  · exact ⟨fun _ => by omega, fun _ => Int32.lt_of_lt_of_le (pk_sneg (by decide) (by omega)) (nI_pos' (by omega))⟩
section LZ
variable {p : Program} {l : Launch} {e : Env} {R : Room} {s : State} {m : MethodId} {args : Array Value} {below : List Frame} {meth : Method} {c : Code} {H : Heap} {locs : List Loc} {cells slots : Nat} {Q : State → Prop} {cc : ByteArray} {pc : Nat} {ls : Array Slot} {rest : List Value}
/-- a truth value out of an int of the script: x != 0 -/
theorem lz_dia (hx : p.tables.exec = Jvm.exec) (hb : c.code = cc) {x : Int32} (d1 : decode cc pc = .ok (.ifCond .eq 7, 3)) (d2 : decode cc (pc + 3) = .ok (.iconst 1, 1)) (d3 : decode cc (pc + 4) = .ok (.goto 4, 3)) (d4 : decode cc (pc + 7) = .ok (.iconst 0, 1)) (k : W p l e R s m args below meth c H locs cells slots Q (F0 m (pc + 8) ls (.int (zI x) :: rest))) : W p l e R s m args below meth c H locs cells slots Q (F0 m pc ls (.int x :: rest)) := by
  refine lv_if_eq (tgt := pc + 7) hx hb d1 (by omega) (fun h => ?_) (fun h => ?_)
  · refine lv_iconst (v := 0) hx hb d4 (by decide) ?_
    rw [show zI x = 0 from if_pos h] at k
    exact k
  · refine lv_iconst (v := 1) hx hb d2 (by decide) ?_
    refine lv_goto (tgt := pc + 8) hx hb d3 (by omega) ?_
    rw [show zI x = 1 from if_neg h] at k
    exact k
end LZ
theorem IvD_at {cy : Nat → ClassId} {d0 : Nat} {a kp bt sz : Nat → Nat} {sheets : Nat → Int32} {ke km : Nat} {w : va_W} (h : IvD cy d0 a kp bt sz sheets ke km w) : ∃ (k0 : Nat) (fs : List Value), w[k0]? = some (d0, .inr (11, fs)) := by
  obtain ⟨x, PA, MA, FQ, HA, SQ, gt, gn, bs, bh, fnd, bg, GG, GB, GC, SG, RO, UP, LO, HO, V0, GA, ha, za, sa, ra, AC, WH, ka, fo, RW, NU, pad, fad, PF, LF, gb, hw, hpt, hct, hax, hsh, hhs⟩ := h
  have hm : (d0, (.inr (11, [.ref (x 1), .int (nI (a 0)), .ref (x 2), .int (nI (a 1)), .ref (x 3), .ref (x 7), .ref (x 10), .int (nI (a 3)), .ref (x 11), .ref (x 14), .ref (x 17), .ref (x 18), .long fnd]) : va_E)) ∈ w := hw.mem_iff.mpr (List.mem_append.mpr (Or.inl List.mem_cons_self))
  obtain ⟨k0, hk⟩ := List.getElem?_of_mem hm
  exact ⟨k0, _, hk⟩
theorem IvD_f {cy : Nat → ClassId} {d0 : Nat} {a kp bt sz : Nat → Nat} {sheets : Nat → Int32} {ke km : Nat} {w : va_W} (h : IvD cy d0 a kp bt sz sheets ke km w) : okA a ∧ ke < 20 ∧ km ≤ 20 ∧ ∀ i, i < 4 → sz i ≤ 16 ∧ (bt i = 0 ∨ bt i = 8 ∨ bt i = 16 ∨ bt i = 32) := by
  obtain ⟨x, PA, MA, FQ, HA, SQ, gt, gn, bs, bh, fnd, bg, GG, GB, GC, SG, RO, UP, LO, HO, V0, GA, ha, za, sa, ra, AC, WH, ka, fo, RW, NU, pad, fad, PF, LF, gb, hw, hpt, hct, hax, hsh, hhs⟩ := h
  exact ⟨hhs.ok, hhs.1, hhs.2.1, hsz_of hsh⟩
theorem Mdl_at {cy : Nat → ClassId} {ad : Nat → Nat} {a kp bt sz : Nat → Nat} {sheets : Nat → Int32} {ke km : Nat} {w : va_W} (h : Mdl cy ad a kp bt sz sheets ke km w) : ∃ fs : List Value, w[0]? = some (ad 0, .inr (12, fs)) := by
  obtain ⟨go, ro, car, fi, gm, bs, bu, n1, n2, n3, n4, n5, n6, n7, px, py, db, rfl⟩ := h
  exact ⟨_, rfl⟩
