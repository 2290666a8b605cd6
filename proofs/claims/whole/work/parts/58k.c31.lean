theorem pool_out2 {α : Type} {f : Nat → List α} {n a b : Nat} (ha : a < n) (hb : b < n) (h : a ≠ b) : ((List.range n).flatMap f).Perm (f a ++ (f b ++ (((List.range n).erase a).erase b).flatMap f)) :=
  (pool_out ha).trans (List.Perm.append_left _ ((List.perm_cons_erase (show b ∈ (List.range n).erase a from (List.nodup_range).mem_erase_iff.mpr ⟨fun q => h q.symm, List.mem_range.mpr hb⟩)).flatMap_right f))
theorem pm_four {α : Type} (W A B R1 C D R2 : List α) : (W ++ ((A ++ (B ++ R1)) ++ (C ++ (D ++ R2)))).Perm ((A ++ (B ++ (C ++ D))) ++ (W ++ (R1 ++ R2))) := by
  have e1 : (A ++ (B ++ R1)) ++ (C ++ (D ++ R2)) = (A ++ B) ++ (R1 ++ ((C ++ D) ++ R2)) := by simp only [List.append_assoc]
  have e2 : (A ++ (B ++ (C ++ D))) ++ (W ++ (R1 ++ R2)) = ((A ++ B) ++ (C ++ D)) ++ (W ++ (R1 ++ R2)) := by simp only [List.append_assoc]
  rw [e1, e2]
  have h1 : ((A ++ B) ++ (R1 ++ ((C ++ D) ++ R2))).Perm (((A ++ B) ++ (C ++ D)) ++ (R1 ++ R2)) := by
    rw [List.append_assoc (A ++ B)]
    exact List.Perm.append_left _ (List.perm_append_comm_assoc _ _ _)
  exact (List.Perm.append_left W h1).trans (List.perm_append_comm_assoc _ _ _)
theorem pm_two {α : Type} (W A B R1 P : List α) : (W ++ ((A ++ (B ++ R1)) ++ P)).Perm ((A ++ B) ++ (W ++ (R1 ++ P))) := by
  have e1 : (A ++ (B ++ R1)) ++ P = (A ++ B) ++ (R1 ++ P) := by simp only [List.append_assoc]
  rw [e1]
  exact List.perm_append_comm_assoc _ _ _
/-- the cells of a mark and of a picture, and those there are -/
def mkC (pa : Nat → Nat) (ka mp KD MU MV MS MG : Nat → Nat) (i : Nat) : va_W := [(ka (i), .inr (5, [.ref (pa (mp (i))), .int (nI (KD (i))), .int (nI (MU (i))), .int (nI (MV (i))), .int (nI (MS (i))), .int (nI (MG (i)))]))]
def mkPl (pa : Nat → Nat) (ka mp KD MU MV MS MG : Nat → Nat) (n : Nat) : va_W := (List.range n).flatMap (mkC pa ka mp KD MU MV MS MG)
def pcC (cy : Nat → ClassId) (pa hXp hYp fXp tXp fYp tYp PN : Nat → Nat) (FXp TXp FYp TYp : Nat → Nat → Nat) (i : Nat) : va_W := [(pa (i), .inr (7, [.ref (hXp (i)), .ref (hYp (i))])), (hXp (i), .inr (4, [.ref (fXp (i)), .ref (tXp (i)), .int (nI (PN (i))), .long (lZ (vBs (FXp (i)) (TXp (i)) (PN (i)))), .long (lZ (vSl (FXp (i)) (TXp (i)) (PN (i)))), .long (lZ (vSp (FXp (i)) (PN (i)))), .long (lZ (vSp (TXp (i)) (PN (i)))), .long (lN (vWo (FXp (i)) (TXp (i)) (PN (i))))])), (fXp (i), .inl (cy 0, 8, .inl (nA (FXp (i))))), (tXp (i), .inl (cy 0, 8, .inl (nA (TXp (i))))), (hYp (i), .inr (4, [.ref (fYp (i)), .ref (tYp (i)), .int (nI (PN (i))), .long (lZ (vBs (FYp (i)) (TYp (i)) (PN (i)))), .long (lZ (vSl (FYp (i)) (TYp (i)) (PN (i)))), .long (lZ (vSp (FYp (i)) (PN (i)))), .long (lZ (vSp (TYp (i)) (PN (i)))), .long (lN (vWo (FYp (i)) (TYp (i)) (PN (i))))])), (fYp (i), .inl (cy 0, 8, .inl (nA (FYp (i))))), (tYp (i), .inl (cy 0, 8, .inl (nA (TYp (i)))))]
def pcPl (cy : Nat → ClassId) (pa hXp hYp fXp tXp fYp tYp PN : Nat → Nat) (FXp TXp FYp TYp : Nat → Nat → Nat) (n : Nat) : va_W := (List.range n).flatMap (pcC cy pa hXp hYp fXp tXp fYp tYp PN FXp TXp FYp TYp)
def pcOk (PN : Nat → Nat) (FXp TXp FYp TYp : Nat → Nat → Nat) (i : Nat) : Prop := PN i ≤ 8 ∧ w9 (FXp i) (PN i) ∧ w9 (TXp i) (PN i) ∧ w9 (FYp i) (PN i) ∧ w9 (TYp i) (PN i)
def maOk (np : Nat) (mp KD MU MV MS MG : Nat → Nat) (i : Nat) : Prop := mp i < np ∧ KD i ≤ 3 ∧ MU i ≤ 999 ∧ MV i ≤ 999 ∧ MS i ≤ 99 ∧ MG i ≤ 15
/-- two marks agree -/
abbrev agC (mp KD MU MV PN : Nat → Nat) (FXp TXp FYp TYp : Nat → Nat → Nat) (a b : Nat) : Prop := ¬ mp a = mp b ∧ KD a = KD b ∧ (0 < vSp (FXp (mp a)) (PN (mp a)) ∧ 0 < vSp (FYp (mp a)) (PN (mp a))) ∧ (0 < vSp (FXp (mp b)) (PN (mp b)) ∧ 0 < vSp (FYp (mp b)) (PN (mp b))) ∧ (vPt (FXp (mp a)) (TXp (mp a)) (PN (mp a)) (MU a) - vPt (FXp (mp b)) (TXp (mp b)) (PN (mp b)) (MU b)).natAbs ≤ vDb (FXp (mp a)) (TXp (mp a)) (FYp (mp a)) (TYp (mp a)) (PN (mp a)) + vDb (FXp (mp b)) (TXp (mp b)) (FYp (mp b)) (TYp (mp b)) (PN (mp b)) ∧ (vPt (FYp (mp a)) (TYp (mp a)) (PN (mp a)) (MV a) - vPt (FYp (mp b)) (TYp (mp b)) (PN (mp b)) (MV b)).natAbs ≤ vDb (FXp (mp a)) (TXp (mp a)) (FYp (mp a)) (TYp (mp a)) (PN (mp a)) + vDb (FXp (mp b)) (TXp (mp b)) (FYp (mp b)) (TYp (mp b)) (PN (mp b))
theorem bI_cg {q r : Prop} [Decidable q] [Decidable r] (h : q ↔ r) : bI q = bI r := by
  by_cases g : q
  · rw [bI_t g, bI_t (h.mp g)]
  · rw [bI_f g, bI_f (fun x => g (h.mpr x))]
section MKF
variable {p : Program} {l : Launch} {e : Env} {R : Room} {s : State} {m : MethodId} {args : Array Value} {below : List Frame} {meth : Method} {c : Code} {H : Heap} {locs : List Loc} {cells slots : Nat} {Q : State → Prop}
variable {D : va_G} {cc : ByteArray} {nL index : Nat} {Ts : List Cond} {own : String} {rest : List Value} {pc : Nat} {ls : Array Slot} {A : Nat → Prop} {H0 : Heap} {W0 : va_W} {cy : Nat → ClassId}
theorem mk_fits {ka mp KD MU MV MS MG : Nat → Nat} {pa hXp hYp fXp tXp fYp tYp PN : Nat → Nat} {FXp TXp FYp TYp : Nat → Nat → Nat} {nm np a b : Nat} (S : CallFix p m c cc nL s args Ts own) (cwS : CallW R s args own RX5 index yX5_fits cX5_fits 4 (some .boolean) wsX5_fits (mq_R 1 0 0 21) 0 0 1) (cwD : CallW R s args own RX5 index yX5_fits cX5_fits 4 (some .boolean) wsX5_fits (mq_R 3 0 0 68) 0 0 1) (ha : a < nm) (hb : b < nm) (hab : a ≠ b) (hma : ∀ i, i < nm → maOk np mp KD MU MV MS MG i) (hpc : ∀ i, i < np → pcOk PN FXp TXp FYp TYp i) (hpa : ∀ i j, i < np → j < np → pa i = pa j → i = j) (hP : va_P D vwCl (W0 ++ (mkPl pa ka mp KD MU MV MS MG nm ++ pcPl cy pa hXp hYp fXp tXp fYp tYp PN FXp TXp FYp TYp np)) H) (hK : va_K D vwCl (cT cy) s) (hD : va_D A (W0 ++ (mkPl pa ka mp KD MU MV MS MG nm ++ pcPl cy pa hXp hYp fXp tXp fYp tYp PN FXp TXp FYp TYp np))) (hN : nst s) (hS : va_S A H0 H locs) (hA : ∀ q : Nat, H0.size ≤ q → A q) (hl : ls.size = nL) (hW : (rest.map fun v => v.category).sum ≤ 8) (hdg : decode cc pc = .ok (.invokevirtual index, 3)) (hf : cells + 0 ≤ R.cells ∧ slots + 0 ≤ R.slots)
    (kk : ∀ (H1 : Heap) (locs1 : List Loc), va_P D vwCl (W0 ++ (mkPl pa ka mp KD MU MV MS MG nm ++ pcPl cy pa hXp hYp fXp tXp fYp tYp PN FXp TXp FYp TYp np)) H1 → va_D A (W0 ++ (mkPl pa ka mp KD MU MV MS MG nm ++ pcPl cy pa hXp hYp fXp tXp fYp tYp PN FXp TXp FYp TYp np)) → va_S A H0 H1 locs1 → W p l e R s m args below meth c H1 locs1 cells slots Q (F0 m (pc + 3) ls (.int (bI (agC mp KD MU MV PN FXp TXp FYp TYp (a) (b))) :: rest))) : W p l e R s m args below meth c H locs cells slots Q (F0 m pc ls (.ref (ka b) :: .ref (ka a) :: rest)) := by
  obtain ⟨a1, a2, a3, a4, a5, a6⟩ := hma a ha
  obtain ⟨b1, b2, b3, b4, b5, b6⟩ := hma b hb
  have o1 := pool_out2 (f := mkC pa ka mp KD MU MV MS MG) ha hb hab
  by_cases hmp : mp a = mp b
  · have o2 := (List.Perm.append_left W0 (List.Perm.append_right (pcPl cy pa hXp hYp fXp tXp fYp tYp PN FXp TXp FYp TYp np) o1)).trans (pm_two W0 _ _ _ _)
    have hP := va_P.perm hP o2
    have hD := va_D.perm hD o2
    have em : mkC pa ka mp KD MU MV MS MG b = [(ka b, .inr (5, [.ref (pa (mp (a))), .int (nI (KD (b))), .int (nI (MU (b))), .int (nI (MV (b))), .int (nI (MS (b))), .int (nI (MG (b)))]))] := by simp only [mkC, hmp]
    rw [em] at hP hD
    refine nq_Vi (As := [.ref (ka b)]) (rest := rest) (ci := 5) (k0 := 0) S (qX5_fits_s l D cy (ka (a)) (pa (mp (a))) (KD (a)) (MU (a)) (MV (a)) (MS (a)) (MG (a)) (ka (b)) (KD (b)) (MU (b)) (MV (b)) (MS (b)) (MG (b))) cwS rfl rfl hP hK hD hN hS hA rfl hl rfl hW hdg hf (fun r w1 H1 locs1 hq hP hD hS => ?_)
    obtain ⟨rfl, rfl⟩ := hq
    have hP : va_P D vwCl ((mkC pa ka mp KD MU MV MS MG a ++ [(ka b, .inr (5, [.ref (pa (mp (a))), .int (nI (KD (b))), .int (nI (MU (b))), .int (nI (MV (b))), .int (nI (MS (b))), .int (nI (MG (b)))]))]) ++ (W0 ++ ((((List.range nm).erase a).erase b).flatMap (mkC pa ka mp KD MU MV MS MG) ++ pcPl cy pa hXp hYp fXp tXp fYp tYp PN FXp TXp FYp TYp np))) H1 := hP
    have hD : va_D A ((mkC pa ka mp KD MU MV MS MG a ++ [(ka b, .inr (5, [.ref (pa (mp (a))), .int (nI (KD (b))), .int (nI (MU (b))), .int (nI (MV (b))), .int (nI (MS (b))), .int (nI (MG (b)))]))]) ++ (W0 ++ ((((List.range nm).erase a).erase b).flatMap (mkC pa ka mp KD MU MV MS MG) ++ pcPl cy pa hXp hYp fXp tXp fYp tYp PN FXp TXp FYp TYp np))) := hD
    rw [← em] at hP hD
    have k2 := kk H1 locs1 (va_P.perm hP o2.symm) (va_D.perm hD o2.symm) hS
    rw [bI_f (fun h => h.1 hmp)] at k2
    exact k2
  · have o2 := (List.Perm.append_left W0 (List.Perm.append o1 (pool_out2 (f := pcC cy pa hXp hYp fXp tXp fYp tYp PN FXp TXp FYp TYp) a1 b1 hmp))).trans (pm_four W0 _ _ _ _ _ _)
    have hP := va_P.perm hP o2
    have hD := va_D.perm hD o2
    obtain ⟨x1, x2, x3, x4, x5⟩ := hpc _ a1
    obtain ⟨y1, y2, y3, y4, y5⟩ := hpc _ b1
    refine nq_Vi (As := [.ref (ka b)]) (rest := rest) (ci := 5) (k0 := 0) S (qX5_fits_d l D cy (ka (a)) (pa (mp (a))) (KD (a)) (MU (a)) (MV (a)) (MS (a)) (MG (a)) (ka (b)) (pa (mp (b))) (KD (b)) (MU (b)) (MV (b)) (MS (b)) (MG (b)) (hXp (mp (a))) (hYp (mp (a))) (fXp (mp (a))) (tXp (mp (a))) (PN (mp (a))) (FXp (mp (a))) (TXp (mp (a))) (fYp (mp (a))) (tYp (mp (a))) (FYp (mp (a))) (TYp (mp (a))) (hXp (mp (b))) (hYp (mp (b))) (fXp (mp (b))) (tXp (mp (b))) (PN (mp (b))) (FXp (mp (b))) (TXp (mp (b))) (fYp (mp (b))) (tYp (mp (b))) (FYp (mp (b))) (TYp (mp (b))) (fun q => hmp (hpa _ _ a1 b1 q)) a2 b2 a3 a4 b3 b4 x1 x2 x3 x4 x5 y1 y2 y3 y4 y5) cwD rfl rfl hP hK hD hN hS hA rfl hl rfl hW hdg hf (fun r w1 H1 locs1 hq hP hD hS => ?_)
    obtain ⟨rfl, rfl⟩ := hq
    have k2 := kk H1 locs1 (va_P.perm hP o2.symm) (va_D.perm hD o2.symm) hS
    rw [show bI (agC mp KD MU MV PN FXp TXp FYp TYp (a) (b)) = bI (KD a = KD b ∧ (0 < vSp (FXp (mp a)) (PN (mp a)) ∧ 0 < vSp (FYp (mp a)) (PN (mp a))) ∧ (0 < vSp (FXp (mp b)) (PN (mp b)) ∧ 0 < vSp (FYp (mp b)) (PN (mp b))) ∧ (vPt (FXp (mp a)) (TXp (mp a)) (PN (mp a)) (MU a) - vPt (FXp (mp b)) (TXp (mp b)) (PN (mp b)) (MU b)).natAbs ≤ vDb (FXp (mp a)) (TXp (mp a)) (FYp (mp a)) (TYp (mp a)) (PN (mp a)) + vDb (FXp (mp b)) (TXp (mp b)) (FYp (mp b)) (TYp (mp b)) (PN (mp b)) ∧ (vPt (FYp (mp a)) (TYp (mp a)) (PN (mp a)) (MV a) - vPt (FYp (mp b)) (TYp (mp b)) (PN (mp b)) (MV b)).natAbs ≤ vDb (FXp (mp a)) (TXp (mp a)) (FYp (mp a)) (TYp (mp a)) (PN (mp a)) + vDb (FXp (mp b)) (TXp (mp b)) (FYp (mp b)) (TYp (mp b)) (PN (mp b))) from bI_cg ⟨fun h => h.2, fun h => ⟨hmp, h⟩⟩] at k2
    exact k2
end MKF
