/-! ===== a sheet's numbers on both sides ===== -/
theorem rgT {a b : Nat} {v : Int32} (ha : a < 2 ^ 30) (hb : b < 2 ^ 30) : rg a b v ↔ ((a : Int) ≤ v.toInt ∧ v.toInt ≤ (b : Int)) := by
  have e1 : (nI a).toInt = (a : Int) := nI_toInt (by omega)
  have e2 : (nI b).toInt = (b : Int) := nI_toInt (by omega)
  show (nI a ≤ v ∧ v ≤ nI b) ↔ _
  rw [Int32.le_iff_toInt_le, Int32.le_iff_toInt_le, e1, e2]
theorem sgT {v : Int32} : sgI v ↔ ((1 ≤ v.toInt ∧ v.toInt ≤ 4) ∨ (10 ≤ v.toInt ∧ v.toInt ≤ 24)) := by
  show (rg 1 4 v ∨ rg 10 24 v) ↔ _
  rw [rgT (by decide) (by decide), rgT (by decide) (by decide)]
  exact Iff.rfl
theorem i32_N (z : Int32) : z.toInt = if z.toBitVec.toNat < 2147483648 then (z.toBitVec.toNat : Int) else (z.toBitVec.toNat : Int) - 4294967296 := by
  rw [← Int32.toInt_toBitVec, BitVec.toInt_eq_toNat_cond]
  have : z.toBitVec.toNat < 2 ^ 32 := z.toBitVec.isLt
  split <;> split <;> omega
theorem and_T {z : Int32} {m : Nat} {M : Int32} (hm : m < 31) (hM : M.toBitVec.toNat = 2 ^ m - 1) : (z &&& M).toInt = ((z.toBitVec.toNat % 2 ^ m : Nat) : Int) := by
  have e : (z &&& M).toBitVec.toNat = z.toBitVec.toNat % 2 ^ m := by
    rw [Int32.toBitVec_and, BitVec.toNat_and, hM, Nat.and_two_pow_sub_one_eq_mod]
  have h : z.toBitVec.toNat % 2 ^ m < 2 ^ m := Nat.mod_lt _ (Nat.two_pow_pos m)
  have h2 : 2 ^ m ≤ 2 ^ 30 := Nat.pow_le_pow_right (by decide) (by omega)
  rw [i32_N, e, if_pos (by omega)]
theorem srl_sg {b : Nat} {x y : Int32} (hb : b = 8 ∨ b = 16 ∨ b = 32) (h : srl b x y) : (sgI x ↔ sgI y) ∧ (sgI x → x = y) := by
  obtain ⟨z, rfl, rfl⟩ := h
  rcases hb with rfl | rfl | rfl
  · have e1 : (wrI 8 z).toInt = ((z.toBitVec.toNat % 2 ^ 8 : Nat) : Int) := by
      rw [wrI_n z (by decide)]
      exact and_T (by decide) (by decide)
    have e2 : (wdI 8 z).toInt = z.toInt.bmod 256 := by
      show (z.toInt8.toInt32).toInt = _
      rw [Int8.toInt_toInt32, Int32.toInt_toInt8] <;> rfl
    have e3 := i32_N z
    have e4 : z.toInt.bmod 256 = if z.toInt % 256 < 128 then z.toInt % 256 else z.toInt % 256 - 256 := by
      unfold Int.bmod
      rfl
    rw [sgT, sgT]
    refine ⟨?_, fun q => Int32.toInt_inj.mp ?_⟩
    · rw [e1, e2, e4]
      split at e3 <;> split <;> omega
    · rw [e1] at q
      rw [e1, e2, e4]
      split at e3 <;> split <;> omega
  · have e1 : (wrI 16 z).toInt = ((z.toBitVec.toNat % 2 ^ 16 : Nat) : Int) := by
      rw [wrI_n z (by decide)]
      exact and_T (by decide) (by decide)
    have e2 : (wdI 16 z).toInt = z.toInt.bmod 65536 := by
      show (z.toInt16.toInt32).toInt = _
      rw [Int16.toInt_toInt32, Int32.toInt_toInt16] <;> rfl
    have e3 := i32_N z
    have e4 : z.toInt.bmod 65536 = if z.toInt % 65536 < 32768 then z.toInt % 65536 else z.toInt % 65536 - 65536 := by
      unfold Int.bmod
      rfl
    rw [sgT, sgT]
    refine ⟨?_, fun q => Int32.toInt_inj.mp ?_⟩
    · rw [e1, e2, e4]
      split at e3 <;> split <;> omega
    · rw [e1] at q
      rw [e1, e2, e4]
      split at e3 <;> split <;> omega
  · exact ⟨Iff.rfl, fun _ => rfl⟩
theorem srl_0 {b : Nat} (hb : b = 0 ∨ b = 8 ∨ b = 16 ∨ b = 32) : srl b (nI 0) (nI 0) := by
  rcases hb with rfl | rfl | rfl | rfl
  · exact ⟨0, by decide, by decide⟩
  · exact ⟨0, by decide, by decide⟩
  · exact ⟨0, by decide, by decide⟩
  · exact ⟨0, by decide, by decide⟩
theorem cpy0 {α : Type} {f g : Nat → α} {n k : Nat} (h : k < n) : va_cpy f g 0 0 n k = f k := by
  unfold va_cpy
  rw [if_pos (by omega), Nat.zero_add, Nat.sub_zero]
theorem Ptr.cg {a a' : Nat → Nat} {PA MA FQ HA SQ : Nat → Option Nat} {pad fad : Nat → Nat → Nat} {ka ha sa : Nat → Nat} (h : Ptr a PA MA FQ HA SQ pad fad ka ha sa) (e0 : a' 0 ≤ a 0) (e1 : a' 1 ≤ a 1) (e3 : a' 3 ≤ a 3) : Ptr a' PA MA FQ HA SQ pad fad ka ha sa := ⟨fun i hi => h.1 i (by omega), fun i hi => h.2.1 i (by omega), fun i hi => h.2.2.1 i (by omega), h.2.2.2⟩
/-- sheets that change -/
theorem Shs.new {bt sz : Nat → Nat} {sheets : Nat → Int32} {NU : Nat → Nat → Int32} (h : Shs bt sz sheets NU) {s b n : Nat} (hb : b = 0 ∨ b = 8 ∨ b = 16 ∨ b = 32) (hn : n ≤ 16) : Shs (upN bt s b) (upN sz s (if b = 0 then 0 else n)) (cpI sheets (fun _ => nI 0) (16 * s) 16) (upI NU s (cpI (NU s) (fun _ => nI 0) 0 16)) := fun i hi => by
  by_cases q : i = s
  · subst q
    rw [upN_s, upN_s]
    refine ⟨⟨by split <;> omega, hb⟩, fun k hk => ?_⟩
    have e1 : upI NU i (cpI (NU i) (fun _ => nI 0) 0 16) i k = nI 0 := by
      unfold upI cpI
      rw [if_pos rfl, if_pos (by omega)]
    have e2 : cpI sheets (fun _ => nI 0) (16 * i) 16 (16 * i + k) = nI 0 := by
      unfold cpI
      rw [if_pos (by omega)]
    rw [e1, e2]
    exact srl_0 hb
  · rw [upN_n q, upN_n q]
    refine ⟨(h i hi).1, fun k hk => ?_⟩
    have e1 : upI NU s (cpI (NU s) (fun _ => nI 0) 0 16) i = NU i := if_neg q
    have e2 : cpI sheets (fun _ => nI 0) (16 * s) 16 (16 * i + k) = sheets (16 * i + k) := by
      unfold cpI
      rw [if_neg (by omega)]
    rw [e1, e2]
    exact (h i hi).2 k hk
theorem Shs.put {bt sz : Nat → Nat} {sheets : Nat → Int32} {NU : Nat → Nat → Int32} (h : Shs bt sz sheets NU) {s j : Nat} (hj : j < 16) (z : Int32) : Shs bt sz (upd sheets (16 * s + j) (wdI (bt s) z)) (upI NU s (upd (NU s) j (wrI (bt s) z))) := fun i hi => by
  refine ⟨(h i hi).1, fun k hk => ?_⟩
  by_cases q : i = s
  · subst q
    have e1 : upI NU i (upd (NU i) j (wrI (bt i) z)) i k = upd (NU i) j (wrI (bt i) z) k := by
      unfold upI
      rw [if_pos rfl]
    rw [e1]
    by_cases q2 : k = j
    · subst q2
      have e2 : upd (NU i) k (wrI (bt i) z) k = wrI (bt i) z := by simp [upd]
      have e3 : upd sheets (16 * i + k) (wdI (bt i) z) (16 * i + k) = wdI (bt i) z := by simp [upd]
      rw [e2, e3]
      exact ⟨z, rfl, rfl⟩
    · have e2 : upd (NU i) j (wrI (bt i) z) k = NU i k := by simp [upd, q2]
      have e3 : upd sheets (16 * i + j) (wdI (bt i) z) (16 * i + k) = sheets (16 * i + k) := by
        unfold upd
        exact if_neg (by omega)
      rw [e2, e3]
      exact (h i hi).2 k hk
  · have e1 : upI NU s (upd (NU s) j (wrI (bt s) z)) i = NU i := if_neg q
    have e3 : upd sheets (16 * s + j) (wdI (bt s) z) (16 * i + k) = sheets (16 * i + k) := by
      have : ¬ 16 * i + k = 16 * s + j := by omega
      simp [upd, this]
    rw [e1, e3]
    exact (h i hi).2 k hk
theorem Shs.copy {bt sz : Nat → Nat} {sheets : Nat → Int32} {NU : Nat → Nat → Int32} (h : Shs bt sz sheets NU) {s t f w k : Nat} (hs : s < 4) (ht : t < 4) (hb : bt s = bt t) (hf : f + k ≤ 16) (hw : w + k ≤ 16) : Shs bt sz (cpI sheets (fun j => sheets (16 * s + f + j)) (16 * t + w) k) (upI NU t (va_cpy (NU s) (NU t) f w k)) := fun i hi => by
  refine ⟨(h i hi).1, fun j hj => ?_⟩
  by_cases q : i = t
  · subst q
    have e1 : upI NU i (va_cpy (NU s) (NU i) f w k) i j = va_cpy (NU s) (NU i) f w k j := by
      unfold upI
      rw [if_pos rfl]
    rw [e1]
    unfold va_cpy cpI
    by_cases q2 : w ≤ j ∧ j < w + k
    · rw [if_pos q2, if_pos (by omega), ← hb]
      have e2 : 16 * s + f + (16 * i + j - (16 * i + w)) = 16 * s + (f + (j - w)) := by omega
      show srl (bt s) (NU s (f + (j - w))) (sheets (16 * s + f + (16 * i + j - (16 * i + w))))
      rw [e2]
      exact (h s hs).2 _ (by omega)
    · rw [if_neg q2, if_neg (by omega)]
      exact (h i hi).2 j hj
  · have e1 : upI NU t (va_cpy (NU s) (NU t) f w k) i = NU i := if_neg q
    have e2 : cpI sheets (fun j => sheets (16 * s + f + j)) (16 * t + w) k (16 * i + j) = sheets (16 * i + j) := by
      unfold cpI
      rw [if_neg (by omega)]
    rw [e1, e2]
    exact (h i hi).2 j hj
