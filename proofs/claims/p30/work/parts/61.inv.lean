/-! ===== the desk beside the reference: what holds between them ===== -/
theorem pool_re {α : Type} {f f' : Nat → List α} {n i : Nat} (h : i < n) (hf : ∀ j, j < n → j ≠ i → f' j = f j) : ((List.range n).flatMap f').Perm (f' i ++ ((List.range n).erase i).flatMap f) := by
  have e : ((List.range n).erase i).flatMap f = ((List.range n).erase i).flatMap f' := by
    rw [List.flatMap_def, List.flatMap_def]
    refine congrArg List.flatten (List.map_congr_left fun j hj => (hf j ?_ ?_).symm)
    · exact List.mem_range.mp (List.mem_of_mem_erase hj)
    · exact ((List.nodup_range).mem_erase_iff.mp hj).1
  rw [e]
  exact pool_out h
def dgN (a : Nat → Nat) : Nat → Nat
  | 0 => 0
  | i + 1 => dgN a i + a (334 + 5 * i + 3)
def shA1 (a : Nat → Nat) (c : Nat) : Prop := 1 ≤ a (470 + 2 * c) ∧ a (470 + 2 * c) < a (470 + 2 * c + 1) ∧ a (470 + 2 * c + 1) ≤ 2 + 4 * dgN a (a 3)
/-- what holds of the reference's numbers -/
def okA (a : Nat → Nat) : Prop := (a 0 ≤ 6 ∧ a 1 ≤ 20 ∧ a 2 ≤ 12 ∧ a 3 ≤ 8) ∧ (∀ i, i < a 0 → plOk a i) ∧ (∀ i, i < a 1 → mkOk a i) ∧ (∀ k, k < a 2 → sg (a (322 + k))) ∧ (∀ i, i < a 3 → fdOk a i) ∧ (∀ c, c < 64 → shA1 a c) ∧ ∀ k, 598 ≤ k → a k = 0
theorem dgN_b {a : Nat → Nat} : ∀ {n : Nat}, (∀ i, i < n → a (334 + 5 * i + 3) ≤ 1) → dgN a n ≤ n
  | 0, _ => Nat.le_refl 0
  | n + 1, h => by
    have h1 := dgN_b (n := n) (fun i hi => h i (by omega))
    have h2 := h n (by omega)
    rw [dgN]
    omega
theorem dgN_cong {a b : Nat → Nat} : ∀ {n : Nat}, (∀ i, i < n → a (334 + 5 * i + 3) = b (334 + 5 * i + 3)) → dgN a n = dgN b n
  | 0, _ => rfl
  | n + 1, h => by rw [dgN, dgN, dgN_cong (fun i hi => h i (by omega)), h n (by omega)]
theorem okA_sh {a : Nat → Nat} (h : okA a) {c : Nat} (hc : c < 64) : 1 ≤ a (470 + 2 * c) ∧ a (470 + 2 * c) < a (470 + 2 * c + 1) ∧ a (470 + 2 * c + 1) ≤ 34 := by
  obtain ⟨⟨-, -, -, h3⟩, -, -, -, hf, hs, -⟩ := h
  obtain ⟨s1, s2, s3⟩ := hs c hc
  have := dgN_b (a := a) (n := a 3) (fun i hi => (hf i hi).2.2.2.1)
  exact ⟨s1, s2, by omega⟩
theorem okA_shOk {a : Nat → Nat} (h : okA a) : shOk a := fun so cr dr h1 h2 h3 => by
  obtain ⟨s1, s2, s3⟩ := okA_sh h (c := 16 * so + 4 * cr + dr) (by omega)
  exact ⟨s1, s2, by omega⟩
/-! ===== the past ===== -/
def hst (kp : Nat → Nat) (ke j : Nat) : Nat → Nat := fun k => if k < 598 then kp (598 * ((ke + 20 - j) % 20) + k) else 0
def cur (a kp : Nat → Nat) (ke : Nat) : Nat → Nat → Nat
  | 0 => a
  | j + 1 => hst kp ke (j + 1)
def slt (ke j : Nat) : Nat := (ke + 19 - j) % 20
def plA (s : Nat → Nat) (i u v x y : Nat) : Nat → Nat := upN (upN (upN (upN (upN s (10 + 32 * i + 4 * s (4 + i)) u) (10 + 32 * i + 4 * s (4 + i) + 1) v) (10 + 32 * i + 4 * s (4 + i) + 2) x) (10 + 32 * i + 4 * s (4 + i) + 3) y) (4 + i) (s (4 + i) + 1)
def mrA (s : Nat → Nat) (i k u v z g : Nat) : Nat → Nat := upN (upN (upN (upN (upN (upN (upN s (202 + 6 * s 1) i) (202 + 6 * s 1 + 1) k) (202 + 6 * s 1 + 2) u) (202 + 6 * s 1 + 3) v) (202 + 6 * s 1 + 4) z) (202 + 6 * s 1 + 5) g) 1 (s 1 + 1)
def fiA (s : Nat → Nat) (so ch ho : Nat) : Nat → Nat := upN (upN (upN (upN (upN (upN s (334 + 5 * s 3) so) (334 + 5 * s 3 + 1) ch) (334 + 5 * s 3 + 2) ho) (334 + 5 * s 3 + 3) 0) (334 + 5 * s 3 + 4) 0) 3 (s 3 + 1)
def loA (s : Nat → Nat) (i cr dr z : Nat) : Nat → Nat := upN (upN (upN (upN s (374 + 12 * i + 3 * s (334 + 5 * i + 4)) cr) (374 + 12 * i + 3 * s (334 + 5 * i + 4) + 1) dr) (374 + 12 * i + 3 * s (334 + 5 * i + 4) + 2) z) (334 + 5 * i + 4) (s (334 + 5 * i + 4) + 1)
def piA (s : Nat → Nat) : Nat → Nat := upN (upN s (4 + s 0) 0) 0 (s 0 + 1)
def siA (s : Nat → Nat) (v : Nat) : Nat → Nat := upN (upN s (322 + s 2) v) 2 (s 2 + 1)
/-- c came out of s by the act ac -/
def bk (fo s c : Nat → Nat) (ac wh : Nat) (rw : Nat → Nat) : Prop :=
  (ac = 0 ∧ s 0 < 6 ∧ c = piA s) ∨
  (ac = 1 ∧ wh < s 0 ∧ s (4 + wh) < 8 ∧ ∃ u v x y : Nat, c = plA s wh u v x y) ∨
  (ac = 2 ∧ wh < s 0 ∧ 0 < s (4 + wh) ∧ c = upN s (4 + wh) (s (4 + wh) - 1) ∧ ∀ j, j < 4 → rw j = s (10 + 32 * wh + 4 * (s (4 + wh) - 1) + j)) ∨
  (ac = 3 ∧ s 1 < 20 ∧ ∃ i k u v z g : Nat, c = mrA s i k u v z g) ∨
  (ac = 4 ∧ s 2 < 12 ∧ ∃ v : Nat, c = siA s v) ∨
  (ac = 5 ∧ wh = s 2 ∧ (∀ k, k < s 2 → rw k = s (322 + k)) ∧ ∀ k, k ≠ 2 → ¬ (322 ≤ k ∧ k < 334) → c k = s k) ∨
  (ac = 6 ∧ s 3 < 8 ∧ ∃ so ch ho : Nat, c = fiA s so ch ho) ∨
  (ac = 7 ∧ wh < s 3 ∧ s (334 + 5 * wh + 4) < 4 ∧ ∃ cr dr z : Nat, c = loA s wh cr dr z) ∨
  (ac = 8 ∧ wh < s 3 ∧ s (334 + 5 * wh + 3) = 0 ∧ c = dgA s wh (if fo wh = 0 then 0 else s (334 + 5 * wh + 4)))
theorem bk_fo {fo fo' s c : Nat → Nat} {ac wh : Nat} {rw : Nat → Nat} (h : bk fo s c ac wh rw) (e : ac = 8 → fo' wh = fo wh) : bk fo' s c ac wh rw := by
  rcases h with h | h | h | h | h | h | h | h | h
  · exact Or.inl h
  · exact Or.inr (Or.inl h)
  · exact Or.inr (Or.inr (Or.inl h))
  · exact Or.inr (Or.inr (Or.inr (Or.inl h)))
  · exact Or.inr (Or.inr (Or.inr (Or.inr (Or.inl h))))
  · exact Or.inr (Or.inr (Or.inr (Or.inr (Or.inr (Or.inl h)))))
  · exact Or.inr (Or.inr (Or.inr (Or.inr (Or.inr (Or.inr (Or.inl h))))))
  · exact Or.inr (Or.inr (Or.inr (Or.inr (Or.inr (Or.inr (Or.inr (Or.inl h)))))))
  · refine Or.inr (Or.inr (Or.inr (Or.inr (Or.inr (Or.inr (Or.inr (Or.inr ?_)))))))
    rw [e h.1]
    exact h
/-- the past of the class and of the reference -/
def His (a kp : Nat → Nat) (ke km : Nat) (fo AC WH : Nat → Nat) (RW : Nat → Nat → Nat) : Prop :=
  ke < 20 ∧ km ≤ 20 ∧ (∀ j, j ≤ km → okA (cur a kp ke j)) ∧ (∀ j, j < km → bk fo (cur a kp ke (j + 1)) (cur a kp ke j) (AC (slt ke j)) (WH (slt ke j)) (RW (slt ke j))) ∧ ∀ j, j < km → AC (slt ke j) = 8 → ∀ i, i ≤ j → WH (slt ke j) < cur a kp ke i 3 ∧ cur a kp ke i (334 + 5 * WH (slt ke j) + 3) = 1
def upR (RW : Nat → Nat → Nat) (i : Nat) (r : Nat → Nat) : Nat → Nat → Nat := fun j => if j = i then r else RW j
theorem upR_s (RW : Nat → Nat → Nat) (i : Nat) (r : Nat → Nat) : upR RW i r i = r := if_pos rfl
theorem upR_n {RW : Nat → Nat → Nat} {i j : Nat} {r : Nat → Nat} (h : j ≠ i) : upR RW i r j = RW j := if_neg h
theorem His.ok {a kp : Nat → Nat} {ke km : Nat} {fo AC WH : Nat → Nat} {RW : Nat → Nat → Nat} (h : His a kp ke km fo AC WH RW) : okA a := h.2.2.1 0 (Nat.zero_le _)
theorem cur_push {a a' kp : Nat → Nat} {ke j : Nat} (hk : ke < 20) (hz : ∀ k, 598 ≤ k → a k = 0) (hj : j < 20) : cur a' (cpN kp a (598 * ke) 598) ((ke + 1) % 20) (j + 1) = cur a kp ke j := by
  funext k
  show hst _ _ (j + 1) k = _
  unfold hst
  by_cases hk5 : k < 598
  · rw [if_pos hk5]
    rcases Nat.eq_zero_or_pos j with q | q
    · subst q
      have e : ((ke + 1) % 20 + 20 - (0 + 1)) % 20 = ke := by omega
      rw [e]
      show (if 598 * ke ≤ 598 * ke + k ∧ 598 * ke + k < 598 * ke + 598 then a (598 * ke + k - 598 * ke) else _) = a k
      rw [if_pos (by omega), Nat.add_sub_cancel_left]
    · obtain ⟨i, rfl⟩ : ∃ i, j = i + 1 := ⟨j - 1, by omega⟩
      have e : ((ke + 1) % 20 + 20 - (i + 1 + 1)) % 20 = (ke + 20 - (i + 1)) % 20 := by omega
      have hne : (ke + 20 - (i + 1)) % 20 ≠ ke := by omega
      rw [e]
      show cpN kp a (598 * ke) 598 (598 * ((ke + 20 - (i + 1)) % 20) + k) = hst kp ke (i + 1) k
      unfold cpN hst
      rw [if_pos hk5, if_neg (by omega)]
  · rw [if_neg hk5]
    rcases Nat.eq_zero_or_pos j with q | q
    · subst q
      exact (hz k (by omega)).symm
    · obtain ⟨i, rfl⟩ : ∃ i, j = i + 1 := ⟨j - 1, by omega⟩
      show 0 = hst kp ke (i + 1) k
      unfold hst
      rw [if_neg hk5]
theorem slt_0 {ke : Nat} (hk : ke < 20) : slt ((ke + 1) % 20) 0 = ke := by
  unfold slt
  omega
theorem slt_s {ke j : Nat} (hk : ke < 20) (hj : j + 1 < 20) : slt ((ke + 1) % 20) (j + 1) = slt ke j ∧ slt ke j ≠ ke := by
  unfold slt
  constructor <;> omega
theorem kmU_le {km : Nat} (h : km ≤ 20) : kmU km ≤ 20 ∧ kmU km ≤ km + 1 := by
  unfold kmU
  split <;> omega
/-- one more act -/
theorem His.push {a a' kp : Nat → Nat} {ke km : Nat} {fo fo' AC WH : Nat → Nat} {RW : Nat → Nat → Nat} (h : His a kp ke km fo AC WH RW) (hok : okA a') {ac wh : Nat} {rw : Nat → Nat} (hb : bk fo' a a' ac wh rw) (hfo : ∀ i, i < a 3 → a (334 + 5 * i + 3) = 1 → fo' i = fo i) (hmo : ∀ i, i < a 3 → a (334 + 5 * i + 3) = 1 → i < a' 3 ∧ a' (334 + 5 * i + 3) = 1) (h8 : ac = 8 → wh < a' 3 ∧ a' (334 + 5 * wh + 3) = 1) : His a' (cpN kp a (598 * ke) 598) ((ke + 1) % 20) (kmU km) fo' (upN AC ke ac) (upN WH ke wh) (upR RW ke rw) := by
  obtain ⟨h1, h2, h3, h4, h5⟩ := h
  have hz : ∀ k, 598 ≤ k → a k = 0 := (h3 0 (Nat.zero_le _)).2.2.2.2.2.2
  obtain ⟨u1, u2⟩ := kmU_le h2
  refine ⟨Nat.mod_lt _ (by decide), u1, fun j hj => ?_, fun j hj => ?_, fun j hj hc i hi => ?_⟩
  · rcases Nat.eq_zero_or_pos j with q | q
    · subst q
      exact hok
    · obtain ⟨i, rfl⟩ : ∃ i, j = i + 1 := ⟨j - 1, by omega⟩
      rw [cur_push h1 hz (by omega)]
      exact h3 i (by omega)
  · rw [cur_push h1 hz (by omega)]
    rcases Nat.eq_zero_or_pos j with q | q
    · subst q
      rw [slt_0 h1, upN_s, upN_s, upR_s]
      exact hb
    · obtain ⟨i, rfl⟩ : ∃ i, j = i + 1 := ⟨j - 1, by omega⟩
      obtain ⟨e1, e2⟩ := slt_s (j := i) h1 (by omega)
      rw [cur_push h1 hz (by omega), e1, upN_n e2, upN_n e2, upR_n e2]
      refine bk_fo (h4 i (by omega)) (fun e => ?_)
      obtain ⟨g1, g2⟩ := h5 i (by omega) e 0 (Nat.zero_le _)
      exact hfo _ g1 g2
  · rcases Nat.eq_zero_or_pos j with q | q
    · subst q
      rw [slt_0 h1, upN_s] at hc
      rw [slt_0 h1, upN_s, show i = 0 by omega]
      exact h8 hc
    · obtain ⟨m, rfl⟩ : ∃ m, j = m + 1 := ⟨j - 1, by omega⟩
      obtain ⟨e1, e2⟩ := slt_s (j := m) h1 (by omega)
      rw [e1, upN_n e2] at hc
      rw [e1, upN_n e2]
      rcases Nat.eq_zero_or_pos i with q2 | q2
      · subst q2
        obtain ⟨g1, g2⟩ := h5 m (by omega) hc 0 (Nat.zero_le _)
        exact hmo _ g1 g2
      · obtain ⟨i, rfl⟩ : ∃ i2, i = i2 + 1 := ⟨i - 1, by omega⟩
        rw [cur_push h1 hz (by omega)]
        exact h5 m (by omega) hc i (by omega)
theorem cur_pop {a kp : Nat → Nat} {ke j : Nat} (hk : ke < 20) (hj : j < 20) : cur (cur a kp ke 1) kp ((ke + 20 - 1) % 20) j = cur a kp ke (j + 1) := by
  rcases Nat.eq_zero_or_pos j with q | q
  · subst q
    rfl
  · obtain ⟨i, rfl⟩ : ∃ i, j = i + 1 := ⟨j - 1, by omega⟩
    funext k
    show hst kp _ (i + 1) k = hst kp ke (i + 1 + 1) k
    unfold hst
    rw [show ((ke + 20 - 1) % 20 + 20 - (i + 1)) % 20 = (ke + 20 - (i + 1 + 1)) % 20 by omega]
theorem slt_p {ke j : Nat} (hk : ke < 20) (hj : j < 19) : slt ((ke + 20 - 1) % 20) j = slt ke (j + 1) := by
  unfold slt
  omega
/-- the latest act goes -/
theorem His.pop {a kp : Nat → Nat} {ke km : Nat} {fo fo' AC WH : Nat → Nat} {RW : Nat → Nat → Nat} (h : His a kp ke km fo AC WH RW) (h0 : 0 < km) (hfo : ∀ i, i < cur a kp ke 1 3 → cur a kp ke 1 (334 + 5 * i + 3) = 1 → fo' i = fo i) : His (cur a kp ke 1) kp ((ke + 20 - 1) % 20) (km - 1) fo' AC WH RW := by
  obtain ⟨h1, h2, h3, h4, h5⟩ := h
  refine ⟨Nat.mod_lt _ (by decide), by omega, fun j hj => ?_, fun j hj => ?_, fun j hj hc i hi => ?_⟩
  · rw [cur_pop h1 (by omega)]
    exact h3 (j + 1) (by omega)
  · rw [cur_pop h1 (by omega), cur_pop h1 (by omega), slt_p h1 (by omega)]
    refine bk_fo (h4 (j + 1) (by omega)) (fun e => ?_)
    obtain ⟨g1, g2⟩ := h5 (j + 1) (by omega) e 1 (by omega)
    exact hfo _ g1 g2
  · rw [slt_p h1 (by omega)] at hc
    rw [slt_p h1 (by omega), cur_pop h1 (by omega)]
    exact h5 (j + 1) (by omega) hc (i + 1) (by omega)
theorem cur_1 {a kp : Nat → Nat} {ke : Nat} (hz : ∀ k, 598 ≤ k → a k = 0) : cpN a (fun j => kp (598 * ((ke + 20 - 1) % 20) + j)) 0 598 = cur a kp ke 1 := by
  funext k
  show (if 0 ≤ k ∧ k < 0 + 598 then _ else a k) = (if k < 598 then _ else 0)
  by_cases q : k < 598
  · rw [if_pos (by omega), if_pos q, Nat.sub_zero]
  · rw [if_neg (by omega), if_neg q]
    exact hz k (by omega)
/-! ===== pointers, contents, what else is kept, sheets ===== -/
def Ptr (a : Nat → Nat) (PA MA FQ HA SQ : Nat → Option Nat) (pad fad : Nat → Nat → Nat) (ka ha sa : Nat → Nat) : Prop := (∀ i, i < a 0 → PA i = some (pad 0 i)) ∧ (∀ i, i < a 1 → MA i = some (ka i)) ∧ (∀ i, i < a 3 → FQ i = some (fad 0 i)) ∧ (∀ i, i < 4 → HA i = some (ha i)) ∧ ∀ i, i < 20 → SQ i = some (sa i)
def Cnt (a : Nat → Nat) (PF LF : Nat → Nat → Nat → Nat) (SG UP LO fo : Nat → Nat) : Prop := (∀ i, i < a 0 → ∀ k, k < a (4 + i) → ∀ j, j < 4 → PF j i k = a (10 + 32 * i + 4 * k + j)) ∧ (∀ k, k < a 2 → SG k = a (322 + k)) ∧ (∀ i, i < a 3 → ∀ k, k < a (334 + 5 * i + 4) → ∀ j, j < 3 → LF j i k = a (374 + 12 * i + 3 * k + j)) ∧ (∀ c, c < 64 → UP c = a (470 + 2 * c) ∧ LO c = a (470 + 2 * c + 1)) ∧ ∀ i, fo i ≤ 1
def Axs (GA : Nat → Int64) (V0 HO RO GC : Nat → Nat) : Prop := (∀ j, j < 8 → GA j = lN (V0 j)) ∧ (∀ j, j < 8 → V0 j ≤ 49500000) ∧ (∀ j, j < 8 → HO j ≤ 9) ∧ (∀ j, j < 7 → RO j ≤ 1000) ∧ ∀ j, GC j ≤ 1000
/-- a number of a sheet: the class keeps its lowest bits, the reference the signed number of them -/
def srl (b : Nat) (x y : Int32) : Prop := ∃ z : Int32, x = wrI b z ∧ y = wdI b z
def Shs (bt sz : Nat → Nat) (sheets : Nat → Int32) (NU : Nat → Nat → Int32) : Prop := ∀ i, i < 4 → (sz i ≤ 16 ∧ (bt i = 0 ∨ bt i = 8 ∨ bt i = 16 ∨ bt i = 32)) ∧ ∀ k, k < 16 → srl (bt i) (NU i k) (sheets (16 * i + k))
