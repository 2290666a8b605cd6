section RF
variable {p : Program} {l : Launch} {e : Env} {R : Room} {s : State} {m : MethodId} {args : Array Value} {below : List Frame} {meth : Method} {c : Code} {H : Heap} {locs : List Loc} {cells slots : Nat} {Q : State → Prop}
variable {cc : ByteArray} {pc : Nat} {ls : Array Slot} {rest : List Value} {D : va_G} {cl : List vw_C} {tys : List (ClassId × FieldType)} {ws : va_W} {A : Nat → Prop} {H0 : Heap} {a : Nat}
theorem mk_q (hx : p.tables.exec = Jvm.exec) (hb : c.code = cc) {own C : String} {index : Nat} (hown : s.vm.findClass own = some m.cls) (hclink : (Cond.classLink own index C).before args s = true) (hover : va_AO C s) (hK : va_K D cl tys s) (hP : va_P D cl ws H) (hD : va_D A ws) (hS : va_S A H0 H locs) (hA : ∀ q : Nat, H0.size ≤ q → A q) (t0 : Nat) {cI : ClassId} (ht : tys[t0]? = some (cI, .object C)) {n : Nat} (hn : n ≤ 100000) (hcells : cells + 1 ≤ R.cells) (hslots : slots + n ≤ R.slots) (hdg : decode cc pc = .ok (.anewarray index, 3))
    (kk : ∀ (q : Nat) (H1 : Heap), va_P D cl (ws ++ [(q, .inl (cI, n, .inr (.inr (.inr (.inr (fun _ => none))))))]) H1 → va_D A (ws ++ [(q, .inl (cI, n, .inr (.inr (.inr (.inr (fun _ => none))))))]) → va_S A H0 H1 locs → W p l e R s m args below meth c H1 locs (cells + 1) (slots + n) Q (F0 m (pc + 3) ls (.ref q :: rest))) : W p l e R s m args below meth c H locs cells slots Q (F0 m pc ls (.int (nI n) :: rest)) := by
  refine va_newq (N' := n) hx hb hown hclink hover hK hP hD hS hA (nI_pos (by omega)) (nI_clamp (by omega)) (by omega) hcells hslots hdg (fun q cA H1 hK1 hP1 hD1 hS1 => ?_)
  obtain ⟨_, _, _, _, _, h1⟩ := (hK1.2 tys.length (cA, .object C) (by simp)).2
  obtain ⟨_, _, _, _, _, h2⟩ := (hK.2 t0 _ ht).2
  have e1 : cA = cI := Option.some.inj (h1.symm.trans h2)
  subst e1
  exact kk q H1 hP1 hD1 hS1
theorem ln_aald (hx : p.tables.exec = Jvm.exec) (hb : c.code = cc) (hK : va_K D cl tys s) (hP : va_P D cl ws H) (q0 t0 : Nat) {cA : ClassId} {C : String} {n : Nat} {f : Nat → Option Nat} (ha : ws[q0]? = some (a, .inl (cA, n, .inr (.inr (.inr (.inr f)))))) (ht : tys[t0]? = some (cA, .object C)) {i : Nat} {v : Option Nat} (hn : n < 2 ^ 31) (hi : i < n) (hv : f i = v) (hdg : decode cc pc = .ok (.aaload, 1)) (kk : W p l e R s m args below meth c H locs cells slots Q (F0 m (pc + 1) ls (va_rf v :: rest))) : W p l e R s m args below meth c H locs cells slots Q (F0 m pc ls (.int (nI i) :: .ref a :: rest)) :=
  va_aldq hx hb hK hP q0 t0 ha ht (vp_in_nI hi hn) hdg (by rw [nI_clamp (Nat.lt_trans hi hn), hv]; exact kk)
theorem ln_aast (hx : p.tables.exec = Jvm.exec) (hb : c.code = cc) (hK : va_K D cl tys s) (hP : va_P D cl ws H) (hD : va_D A ws) (hS : va_S A H0 H locs) (q0 t0 qk ci : Nat) {cA : ClassId} {r : vw_C} {n v : Nat} {vs : List Value} {f : Nat → Option Nat} (ha : ws[q0]? = some (a, .inl (cA, n, .inr (.inr (.inr (.inr f)))))) (ht : tys[t0]? = some (cA, .object r.1)) (hv : ws[qk]? = some (v, .inr (ci, vs))) (hc : cl[ci]? = some r) {i : Nat} (hn : n < 2 ^ 31) (hi : i < n) (hdg : decode cc pc = .ok (.aastore, 1))
    (kk : ∀ (H1 : Heap) (locs1 : List Loc), va_P D cl (ws.set q0 (a, .inl (cA, n, .inr (.inr (.inr (.inr (va_up f i (some v)))))))) H1 → va_D A (ws.set q0 (a, .inl (cA, n, .inr (.inr (.inr (.inr (va_up f i (some v)))))))) → va_S A H0 H1 locs1 → W p l e R s m args below meth c H1 locs1 cells slots Q (F0 m (pc + 1) ls rest)) : W p l e R s m args below meth c H locs cells slots Q (F0 m pc ls (.ref v :: .int (nI i) :: .ref a :: rest)) :=
  va_astq hx hb hK hP hD hS q0 t0 qk ci ha ht hv hc (vp_in_nI hi hn) hdg (by rw [nI_clamp (Nat.lt_trans hi hn)]; exact kk)
end RF
theorem tl_perm {α : Type} (a t : List α) (x : α) : ((a ++ t) ++ [x]).Perm ((a ++ [x]) ++ t) := by
  rw [List.append_assoc, List.append_assoc]
  exact List.Perm.append_left a List.perm_append_comm
theorem fm_range {α : Type} (w : List α) : (List.range w.length).filterMap (fun i => w[i]?) = w := by
  induction w with
  | nil => rfl
  | cons x w ih =>
    rw [List.length_cons, List.range_succ_eq_map, List.filterMap_cons]
    simp only [List.getElem?_cons_zero, List.filterMap_map]
    exact congrArg (x :: ·) ih
theorem va_perm_of {w w' : va_W} (is : List Nat) (hp : is.Perm (List.range is.length)) (hl : w.length = is.length) (hs : is.filterMap (fun i => w[i]?) = w') : w.Perm w' := by
  have h := hp.filterMap (fun i => w[i]?)
  rw [hs, ← hl, fm_range] at h
  exact h.symm
theorem pool_out {α : Type} {f : Nat → List α} {n i : Nat} (h : i < n) : ((List.range n).flatMap f).Perm (f i ++ ((List.range n).erase i).flatMap f) :=
  (List.perm_cons_erase (List.mem_range.mpr h)).flatMap_right f
theorem pool_in {α : Type} {f f' : Nat → List α} {n i : Nat} (h : i < n) (hf : ∀ j, j ≠ i → f' j = f j) : (f' i ++ ((List.range n).erase i).flatMap f).Perm ((List.range n).flatMap f') := by
  have e : ((List.range n).erase i).flatMap f = ((List.range n).erase i).flatMap f' := by
    rw [List.flatMap_def, List.flatMap_def]
    refine congrArg List.flatten (List.map_congr_left fun j hj => (hf j ?_).symm)
    exact ((List.nodup_range).mem_erase_iff.mp hj).1
  rw [e]
  exact (pool_out h).symm
theorem pool_push {α : Type} (f : Nat → List α) (n : Nat) : (List.range (n + 1)).flatMap f = (List.range n).flatMap f ++ f n := by
  rw [List.range_succ, List.flatMap_append]
  simp
theorem pool_cong {α : Type} {f f' : Nat → List α} {n : Nat} (h : ∀ j, j < n → f' j = f j) : (List.range n).flatMap f' = (List.range n).flatMap f := by
  rw [List.flatMap_def, List.flatMap_def]
  exact congrArg List.flatten (List.map_congr_left fun j hj => h j (List.mem_range.mp hj))
/-- some of the cells, and the rest as it is -/
theorem sub_mem {w w' : va_W} {is : List Nat} (hs : is.map (fun i => w[i]?) = w'.map some) : ∀ q ∈ w', q ∈ w := fun q g => by
  have h : some q ∈ w'.map some := List.mem_map.mpr ⟨q, g, rfl⟩
  rw [← hs] at h
  obtain ⟨i, _, hi⟩ := List.mem_map.mp h
  exact List.mem_of_getElem? hi
theorem va_P.subT {D : va_G} {cl : List vw_C} {w w' t : va_W} {H : Heap} (h : va_P D cl (w ++ t) H) (is : List Nat) (hs : is.map (fun i => w[i]?) = w'.map some) : va_P D cl (w' ++ t) H := fun k q hq => by
  have hm : q ∈ w ++ t := by
    rcases List.mem_append.mp (List.mem_of_getElem? hq) with g | g
    · exact List.mem_append.mpr (Or.inl (sub_mem hs q g))
    · exact List.mem_append.mpr (Or.inr g)
  obtain ⟨i, hi⟩ := List.getElem?_of_mem hm
  exact h i q hi
theorem va_D.subT {A : Nat → Prop} {w w' t : va_W} (h : va_D A (w ++ t)) (is : List Nat) (hn : va_nd is = true) (hs : is.map (fun i => w[i]?) = w'.map some) : va_D A (w' ++ t) := by
  have h1 : va_D A w' := h.left.sub is hn hs
  have hsub := sub_mem hs
  rw [va_D.nd] at h h1 ⊢
  rw [List.map_append] at h ⊢
  obtain ⟨a1, a2, a3⟩ := List.nodup_append.mp h.1
  refine ⟨List.nodup_append.mpr ⟨h1.1, a2, fun x hx y hy => ?_⟩, fun q hq => ?_⟩
  · obtain ⟨q, hq, rfl⟩ := List.mem_map.mp hx
    exact a3 _ (List.mem_map.mpr ⟨q, hsub q hq, rfl⟩) y hy
  · rcases List.mem_append.mp hq with g | g
    · exact h1.2 q g
    · exact h.2 q (List.mem_append.mpr (Or.inr g))
