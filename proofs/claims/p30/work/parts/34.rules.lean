def kaF : Nat → Value := fun j => .int (([-1, 0, 0, 1] : List Int32).getD j 0)
def ka (A : Nat → Prop) (U : State) (H : Heap) : Prop := ∃ t : Nat, va_Z "CornDesk" "KIND_ABOVE" "[I" (.ref t) A U H ∧ va_T .int t 4 kaF A U H
theorem ka_moved {A : Nat → Prop} {u U : State} {H : Heap} (hvm : u.vm.Alike U.vm) (h : ka A u H) : ka A U H := by
  obtain ⟨t, h1, h2⟩ := h
  exact ⟨t, va_Z.moved hvm h1, va_T.moved hvm h2⟩
theorem ka_pass {A B : Nat → Prop} {s : State} {H0 H : Heap} {locs : List Loc} (h : ka A s H0) (hS : va_S A H0 H locs) (hF : ∀ q : Nat, B q → A q) : ka B s H := by
  obtain ⟨t, h1, h2⟩ := h
  exact ⟨t, (va_Z.kept h1 hS.2.1).narrow hF, (va_T.kept h2 hS.2.1).narrow hF⟩
def kq_Pc (D : va_G) (tys : List (ClassId × FieldType)) (av : List Value) (w : va_W) (sz : Nat) : Array Value → State → Prop := va_Pc av (fun U => U.heap.size = sz ∧ va_P D vwCl w U.heap ∧ va_K D vwCl tys U ∧ va_D (fun _ => True) w ∧ nst U ∧ ka (va_A w sz) U U.heap)
/-- a method's contract over a world; QQ says what it answers -/
def kq (l : Launch) (D : va_G) (tys : List (ClassId × FieldType)) (y : MethodName) (ws : List Cond) (fr mc ms lo : Nat) (av : List Value) (w : va_W) (QQ : (va_W → State → Prop) → (Nat → Prop) → Array Value → State → Outcome → State → Prop) : Prop :=
  ∀ sz : Nat, Met l y ws (mq_R fr mc ms lo) (kq_Pc D tys av w sz) (QQ (mq_B D tys (va_A w sz)) (va_A w sz)) mc ms (va_A w sz)
abbrev kq_l (l : Launch) (D : va_G) (tys : List (ClassId × FieldType)) (y : MethodName) (ws : List Cond) (fr mc ms lo : Nat) (av : List Value) (w : va_W) (post : Int64 → va_W → Prop) : Prop := kq l D tys y ws fr mc ms lo av w (fun B A => va_Ql post B A)
abbrev kq_i (l : Launch) (D : va_G) (tys : List (ClassId × FieldType)) (y : MethodName) (ws : List Cond) (fr mc ms lo : Nat) (av : List Value) (w : va_W) (post : Int32 → va_W → Prop) : Prop := kq l D tys y ws fr mc ms lo av w (fun B A => va_Qi post B A)
abbrev kq_v (l : Launch) (D : va_G) (tys : List (ClassId × FieldType)) (y : MethodName) (ws : List Cond) (fr mc ms lo : Nat) (av : List Value) (w : va_W) (post : va_W → Prop) : Prop := kq l D tys y ws fr mc ms lo av w (fun B A => va_Qv post B A)
abbrev kq_r (l : Launch) (D : va_G) (tys : List (ClassId × FieldType)) (y : MethodName) (ws : List Cond) (fr mc ms lo : Nat) (av : List Value) (w : va_W) (post : Option Nat → va_W → Prop) : Prop := kq l D tys y ws fr mc ms lo av w (fun B A => va_Qq post B A)
set_option maxHeartbeats 1000000 in
theorem kq_of {l : Launch} {D : va_G} {tys : List (ClassId × FieldType)} {y : MethodName} {ws ws' : List Cond} {fr mc ms lo : Nat} {av : List Value} {w : va_W} {QQ : (va_W → State → Prop) → (Nat → Prop) → Array Value → State → Outcome → State → Prop} {cc : ByteArray} {maxL : Nat} {ret : Option FieldType} (hy : plainName y.cls = true) (hw : ws = Cond.code y cc maxL ret :: ws') (hn : (lg_sl av).length ≤ maxL)
    (body : ∀ (p : Program) (e : Env) (s : State) (m : MethodId) (below : List Frame) (meth : Method) (c : Code) (A : Nat → Prop) (ls : Array Slot), p.tables.exec = Jvm.exec → c.code = cc → meth.sig.returnType = ret → (∀ w ∈ ws, w.before av.toArray s = true) → s.vm.findClass y.cls = some m.cls → meth.locks = false → c.maxLocals = maxL → meth.name = y.name → nst s → ka A s s.heap → (∀ q : Nat, s.heap.size ≤ q → A q) → va_P D vwCl w s.heap → va_K D vwCl tys s → va_D A w → va_S A s.heap s.heap [] → lv_has ls maxL (lv_args 0 av) → W p l e (mq_R fr mc ms lo) s m av.toArray below meth c s.heap [] 0 0 (MQ below (QQ (mq_B D tys A) A) av.toArray s mc ms A) (F0 m 0 ls [])) : kq l D tys y ws fr mc ms lo av w QQ := by
  intro sz
  refine Met.ofW (cc := cc) (maxL := maxL) (ret := ret) hy hw ?_
  intro p e s m args below meth c s₁ B hml hv
  obtain ⟨rfl, hsz, hP, hK, hD0, hN, hka⟩ := hv
  subst hsz
  rw [lg_entry_eq]
  exact body p e s m below meth c (va_A w s.heap.size) _ B.exec B.bytes B.returns (atoms_spec (ws := ws) B.pre) (findClass_of_methodNamed B.named) B.notSynchronized hml ((name_of_methodNamed B.named B.method).1) hN hka (fun q h => Or.inr h) hP hK hD0.self va_S.rf (lv_entry av (n := maxL) hn)
section KQC
variable {p : Program} {l : Launch} {e : Env} {R : Room} {s : State} {m : MethodId} {args : Array Value} {below : List Frame} {meth : Method} {c : Code} {H : Heap} {locs : List Loc} {cells slots : Nat} {Q : State → Prop}
variable {D : va_G} {tys : List (ClassId × FieldType)} {y : MethodName} {bytes cc : ByteArray} {maxL nL mc ms n index fr lo : Nat} {ret : Option FieldType} {ws : List Cond} {Ts : List Cond} {own C host : String} {b : Addr} {As rest st0 : List Value} {pc : Nat} {ls : Array Slot} {A : Nat → Prop} {H0 : Heap} {w wr : va_W}
theorem kq_blind (D : va_G) (tys : List (ClassId × FieldType)) (av : List Value) (w : va_W) (sz : Nat) : FrameBlind (kq_Pc D tys av w sz) := fun a U g mk q => by
  obtain ⟨q0, q1, qP, qK, qD, qN, qka⟩ := q
  exact ⟨q0, q1, qP, va_K.moved (u := U) (U := U.calling g mk a) (Vm.Alike.refl U.vm) qK, qD, nst_same rfl qN, ka_moved (Vm.Alike.refl U.vm) qka⟩
theorem kq_preS {av : List Value} (hP : va_P D vwCl w H) (hK : va_K D vwCl tys s) (hD : va_D A w) (hN : nst s) (hka : ka (va_A w H.size) s H) : PreS s H (kq_Pc D tys av w H.size) av :=
  ⟨kq_blind D tys av w H.size, fun U hU hW => ⟨rfl, by rw [hU], by rw [hU]; exact hP, va_K.moved hW.alike hK, hD.weaken (fun _ _ _ _ => trivial), nst_warm hW hN, by rw [hU]; exact ka_moved hW.alike hka⟩⟩
theorem kq_preV {ci k0 N : Nat} {T : u_T} {fs : List Value} (hc : vwCl[ci]? = some (C, T, N)) (he : w[k0]? = some (b, .inr (ci, fs))) (hP : va_P D vwCl w H) (hK : va_K D vwCl tys s) (hD : va_D A w) (hN : nst s) (hka : ka (va_A w H.size) s H) : PreV s H C b (kq_Pc D tys (.ref b :: As) w H.size) As :=
  ⟨kq_blind D tys (.ref b :: As) w H.size, va_recv hK hP hc he, fun U hU hW => ⟨rfl, by rw [hU], by rw [hU]; exact hP, va_K.moved hW.alike hK, hD.weaken (fun _ _ _ _ => trivial), nst_warm hW hN, by rw [hU]; exact ka_moved hW.alike hka⟩⟩
theorem kq_Vl {post : Int64 → va_W → Prop} {ci k0 N : Nat} {T : u_T} {fs : List Value} (S : CallFix p m c cc nL s args Ts own) (hM : kq_l l D tys y ws fr mc ms lo (.ref b :: As) w post) (cw : CallW R s args own C index y bytes maxL ret ws (mq_R fr mc ms lo) mc ms n) (hc : vwCl[ci]? = some (C, T, N)) (he : w[k0]? = some (b, .inr (ci, fs))) (hP : va_P D vwCl (w ++ wr) H) (hK : va_K D vwCl tys s) (hD : va_D A (w ++ wr)) (hN : nst s) (hka : ka A s H0) (hS : va_S A H0 H locs) (hA : ∀ q : Nat, H0.size ≤ q → A q) (hn : As.length = n) (hl : ls.size = nL) (hst : st0 = As.reverse ++ .ref b :: rest) (hW : (rest.map fun v => v.category).sum ≤ 8) (hdg : decode cc pc = .ok (.invokevirtual index, 3)) (hf : cells + mc ≤ R.cells ∧ slots + ms ≤ R.slots)
    (kk : ∀ (r : Int64) (w' : va_W) (H1 : Heap) (locs1 : List Loc), post r w' → va_P D vwCl (w' ++ wr) H1 → va_D A (w' ++ wr) → va_S A H0 H1 locs1 → W p l e R s m args below meth c H1 locs1 (cells + mc) (slots + ms) Q (F0 m (pc + 3) ls (.long r :: rest))): W p l e R s m args below meth c H locs cells slots Q (F0 m pc ls st0) := by
  have hF := mq_free hD.left hS hA
  refine va_calll (va_runV (As := As) (rest := rest) S (hM H.size) cw (kq_preV hc he hP.left hK hD.left hN (ka_pass hka hS hF)) rfl hn hl hst (lv_room hW) hdg hf) hS (fun q _ h => hF q h) hF (fun r u t H1 locs1 ht hvm hp hB hz hk hS1 => ?_)
  obtain ⟨hP1, hK1, hD1⟩ := hB
  rw [ht] at hP1
  obtain ⟨hP2, hD2⟩ := fr_join hP hD hk hF hP1 hD1
  exact kk r u H1 locs1 hp hP2 hD2 hS1
theorem kq_Sl {post : Int64 → va_W → Prop} (S : CallFix p m c cc nL s args Ts own) (hM : kq_l l D tys y ws fr mc ms lo As w post) (cw : CallB R s args own index y bytes maxL ret ws (mq_R fr mc ms lo) mc ms n ∧ (Cond.static y).before args s = true) (hP : va_P D vwCl (w ++ wr) H) (hK : va_K D vwCl tys s) (hD : va_D A (w ++ wr)) (hN : nst s) (hka : ka A s H0) (hS : va_S A H0 H locs) (hA : ∀ q : Nat, H0.size ≤ q → A q) (hn : As.length = n) (hl : ls.size = nL) (hst : st0 = As.reverse ++ rest) (hW : (rest.map fun v => v.category).sum ≤ 8) (hdg : decode cc pc = .ok (.invokestatic index, 3)) (hf : cells + mc ≤ R.cells ∧ slots + ms ≤ R.slots)
    (kk : ∀ (r : Int64) (w' : va_W) (H1 : Heap) (locs1 : List Loc), post r w' → va_P D vwCl (w' ++ wr) H1 → va_D A (w' ++ wr) → va_S A H0 H1 locs1 → W p l e R s m args below meth c H1 locs1 (cells + mc) (slots + ms) Q (F0 m (pc + 3) ls (.long r :: rest))): W p l e R s m args below meth c H locs cells slots Q (F0 m pc ls st0) := by
  have hF := mq_free hD.left hS hA
  refine va_calll (va_runS (As := As) (rest := rest) S (hM H.size) cw (kq_preS hP.left hK hD.left hN (ka_pass hka hS hF)) rfl hn hl hst (lv_room hW) hdg hf) hS (fun q _ h => hF q h) hF (fun r u t H1 locs1 ht hvm hp hB hz hk hS1 => ?_)
  obtain ⟨hP1, hK1, hD1⟩ := hB
  rw [ht] at hP1
  obtain ⟨hP2, hD2⟩ := fr_join hP hD hk hF hP1 hD1
  exact kk r u H1 locs1 hp hP2 hD2 hS1
theorem kq_SNl {post : Int64 → va_W → Prop} (S : CallFix p m c cc nL s args Ts own) (hM : kq_l l D tys y ws fr mc ms lo As w post) (cw : va_CN R s args own index y host bytes maxL ret ws (mq_R fr mc ms lo) mc ms n ∧ (Cond.static y).before args s = true ∧ True) (hP : va_P D vwCl (w ++ wr) H) (hK : va_K D vwCl tys s) (hD : va_D A (w ++ wr)) (hN : nst s) (hka : ka A s H0) (hS : va_S A H0 H locs) (hA : ∀ q : Nat, H0.size ≤ q → A q) (hn : As.length = n) (hl : ls.size = nL) (hst : st0 = As.reverse ++ rest) (hW : (rest.map fun v => v.category).sum ≤ 8) (hdg : decode cc pc = .ok (.invokestatic index, 3)) (hf : cells + mc ≤ R.cells ∧ slots + ms ≤ R.slots)
    (kk : ∀ (r : Int64) (w' : va_W) (H1 : Heap) (locs1 : List Loc), post r w' → va_P D vwCl (w' ++ wr) H1 → va_D A (w' ++ wr) → va_S A H0 H1 locs1 → W p l e R s m args below meth c H1 locs1 (cells + mc) (slots + ms) Q (F0 m (pc + 3) ls (.long r :: rest))): W p l e R s m args below meth c H locs cells slots Q (F0 m pc ls st0) := by
  have hF := mq_free hD.left hS hA
  refine va_calll (va_runSN (As := As) (rest := rest) S (hM H.size) cw (kq_preS hP.left hK hD.left hN (ka_pass hka hS hF)) rfl hn hl hst (lv_room hW) hdg hf) hS (fun q _ h => hF q h) hF (fun r u t H1 locs1 ht hvm hp hB hz hk hS1 => ?_)
  obtain ⟨hP1, hK1, hD1⟩ := hB
  rw [ht] at hP1
  obtain ⟨hP2, hD2⟩ := fr_join hP hD hk hF hP1 hD1
  exact kk r u H1 locs1 hp hP2 hD2 hS1
theorem kq_Vi {post : Int32 → va_W → Prop} {ci k0 N : Nat} {T : u_T} {fs : List Value} (S : CallFix p m c cc nL s args Ts own) (hM : kq_i l D tys y ws fr mc ms lo (.ref b :: As) w post) (cw : CallW R s args own C index y bytes maxL ret ws (mq_R fr mc ms lo) mc ms n) (hc : vwCl[ci]? = some (C, T, N)) (he : w[k0]? = some (b, .inr (ci, fs))) (hP : va_P D vwCl (w ++ wr) H) (hK : va_K D vwCl tys s) (hD : va_D A (w ++ wr)) (hN : nst s) (hka : ka A s H0) (hS : va_S A H0 H locs) (hA : ∀ q : Nat, H0.size ≤ q → A q) (hn : As.length = n) (hl : ls.size = nL) (hst : st0 = As.reverse ++ .ref b :: rest) (hW : (rest.map fun v => v.category).sum ≤ 8) (hdg : decode cc pc = .ok (.invokevirtual index, 3)) (hf : cells + mc ≤ R.cells ∧ slots + ms ≤ R.slots)
    (kk : ∀ (r : Int32) (w' : va_W) (H1 : Heap) (locs1 : List Loc), post r w' → va_P D vwCl (w' ++ wr) H1 → va_D A (w' ++ wr) → va_S A H0 H1 locs1 → W p l e R s m args below meth c H1 locs1 (cells + mc) (slots + ms) Q (F0 m (pc + 3) ls (.int r :: rest))): W p l e R s m args below meth c H locs cells slots Q (F0 m pc ls st0) := by
  have hF := mq_free hD.left hS hA
  refine va_calli (va_runV (As := As) (rest := rest) S (hM H.size) cw (kq_preV hc he hP.left hK hD.left hN (ka_pass hka hS hF)) rfl hn hl hst (lv_room hW) hdg hf) hS (fun q _ h => hF q h) hF (fun r u t H1 locs1 ht hvm hp hB hz hk hS1 => ?_)
  obtain ⟨hP1, hK1, hD1⟩ := hB
  rw [ht] at hP1
  obtain ⟨hP2, hD2⟩ := fr_join hP hD hk hF hP1 hD1
  exact kk r u H1 locs1 hp hP2 hD2 hS1
theorem kq_Si {post : Int32 → va_W → Prop} (S : CallFix p m c cc nL s args Ts own) (hM : kq_i l D tys y ws fr mc ms lo As w post) (cw : CallB R s args own index y bytes maxL ret ws (mq_R fr mc ms lo) mc ms n ∧ (Cond.static y).before args s = true) (hP : va_P D vwCl (w ++ wr) H) (hK : va_K D vwCl tys s) (hD : va_D A (w ++ wr)) (hN : nst s) (hka : ka A s H0) (hS : va_S A H0 H locs) (hA : ∀ q : Nat, H0.size ≤ q → A q) (hn : As.length = n) (hl : ls.size = nL) (hst : st0 = As.reverse ++ rest) (hW : (rest.map fun v => v.category).sum ≤ 8) (hdg : decode cc pc = .ok (.invokestatic index, 3)) (hf : cells + mc ≤ R.cells ∧ slots + ms ≤ R.slots)
    (kk : ∀ (r : Int32) (w' : va_W) (H1 : Heap) (locs1 : List Loc), post r w' → va_P D vwCl (w' ++ wr) H1 → va_D A (w' ++ wr) → va_S A H0 H1 locs1 → W p l e R s m args below meth c H1 locs1 (cells + mc) (slots + ms) Q (F0 m (pc + 3) ls (.int r :: rest))): W p l e R s m args below meth c H locs cells slots Q (F0 m pc ls st0) := by
  have hF := mq_free hD.left hS hA
  refine va_calli (va_runS (As := As) (rest := rest) S (hM H.size) cw (kq_preS hP.left hK hD.left hN (ka_pass hka hS hF)) rfl hn hl hst (lv_room hW) hdg hf) hS (fun q _ h => hF q h) hF (fun r u t H1 locs1 ht hvm hp hB hz hk hS1 => ?_)
  obtain ⟨hP1, hK1, hD1⟩ := hB
  rw [ht] at hP1
  obtain ⟨hP2, hD2⟩ := fr_join hP hD hk hF hP1 hD1
  exact kk r u H1 locs1 hp hP2 hD2 hS1
theorem kq_SNi {post : Int32 → va_W → Prop} (S : CallFix p m c cc nL s args Ts own) (hM : kq_i l D tys y ws fr mc ms lo As w post) (cw : va_CN R s args own index y host bytes maxL ret ws (mq_R fr mc ms lo) mc ms n ∧ (Cond.static y).before args s = true ∧ True) (hP : va_P D vwCl (w ++ wr) H) (hK : va_K D vwCl tys s) (hD : va_D A (w ++ wr)) (hN : nst s) (hka : ka A s H0) (hS : va_S A H0 H locs) (hA : ∀ q : Nat, H0.size ≤ q → A q) (hn : As.length = n) (hl : ls.size = nL) (hst : st0 = As.reverse ++ rest) (hW : (rest.map fun v => v.category).sum ≤ 8) (hdg : decode cc pc = .ok (.invokestatic index, 3)) (hf : cells + mc ≤ R.cells ∧ slots + ms ≤ R.slots)
    (kk : ∀ (r : Int32) (w' : va_W) (H1 : Heap) (locs1 : List Loc), post r w' → va_P D vwCl (w' ++ wr) H1 → va_D A (w' ++ wr) → va_S A H0 H1 locs1 → W p l e R s m args below meth c H1 locs1 (cells + mc) (slots + ms) Q (F0 m (pc + 3) ls (.int r :: rest))): W p l e R s m args below meth c H locs cells slots Q (F0 m pc ls st0) := by
  have hF := mq_free hD.left hS hA
  refine va_calli (va_runSN (As := As) (rest := rest) S (hM H.size) cw (kq_preS hP.left hK hD.left hN (ka_pass hka hS hF)) rfl hn hl hst (lv_room hW) hdg hf) hS (fun q _ h => hF q h) hF (fun r u t H1 locs1 ht hvm hp hB hz hk hS1 => ?_)
  obtain ⟨hP1, hK1, hD1⟩ := hB
  rw [ht] at hP1
  obtain ⟨hP2, hD2⟩ := fr_join hP hD hk hF hP1 hD1
  exact kk r u H1 locs1 hp hP2 hD2 hS1
theorem kq_Vv {post : va_W → Prop} {ci k0 N : Nat} {T : u_T} {fs : List Value} (S : CallFix p m c cc nL s args Ts own) (hM : kq_v l D tys y ws fr mc ms lo (.ref b :: As) w post) (cw : CallW R s args own C index y bytes maxL ret ws (mq_R fr mc ms lo) mc ms n) (hc : vwCl[ci]? = some (C, T, N)) (he : w[k0]? = some (b, .inr (ci, fs))) (hP : va_P D vwCl (w ++ wr) H) (hK : va_K D vwCl tys s) (hD : va_D A (w ++ wr)) (hN : nst s) (hka : ka A s H0) (hS : va_S A H0 H locs) (hA : ∀ q : Nat, H0.size ≤ q → A q) (hn : As.length = n) (hl : ls.size = nL) (hst : st0 = As.reverse ++ .ref b :: rest) (hW : (rest.map fun v => v.category).sum ≤ 8) (hdg : decode cc pc = .ok (.invokevirtual index, 3)) (hf : cells + mc ≤ R.cells ∧ slots + ms ≤ R.slots)
    (kk : ∀ (w' : va_W) (H1 : Heap) (locs1 : List Loc), post w' → va_P D vwCl (w' ++ wr) H1 → va_D A (w' ++ wr) → va_S A H0 H1 locs1 → W p l e R s m args below meth c H1 locs1 (cells + mc) (slots + ms) Q (F0 m (pc + 3) ls (rest))): W p l e R s m args below meth c H locs cells slots Q (F0 m pc ls st0) := by
  have hF := mq_free hD.left hS hA
  refine va_callv (va_runV (As := As) (rest := rest) S (hM H.size) cw (kq_preV hc he hP.left hK hD.left hN (ka_pass hka hS hF)) rfl hn hl hst (lv_room hW) hdg hf) hS (fun q _ h => hF q h) hF (fun u t H1 locs1 ht hvm hp hB hz hk hS1 => ?_)
  obtain ⟨hP1, hK1, hD1⟩ := hB
  rw [ht] at hP1
  obtain ⟨hP2, hD2⟩ := fr_join hP hD hk hF hP1 hD1
  exact kk u H1 locs1 hp hP2 hD2 hS1
theorem kq_Sv {post : va_W → Prop} (S : CallFix p m c cc nL s args Ts own) (hM : kq_v l D tys y ws fr mc ms lo As w post) (cw : CallB R s args own index y bytes maxL ret ws (mq_R fr mc ms lo) mc ms n ∧ (Cond.static y).before args s = true) (hP : va_P D vwCl (w ++ wr) H) (hK : va_K D vwCl tys s) (hD : va_D A (w ++ wr)) (hN : nst s) (hka : ka A s H0) (hS : va_S A H0 H locs) (hA : ∀ q : Nat, H0.size ≤ q → A q) (hn : As.length = n) (hl : ls.size = nL) (hst : st0 = As.reverse ++ rest) (hW : (rest.map fun v => v.category).sum ≤ 8) (hdg : decode cc pc = .ok (.invokestatic index, 3)) (hf : cells + mc ≤ R.cells ∧ slots + ms ≤ R.slots)
    (kk : ∀ (w' : va_W) (H1 : Heap) (locs1 : List Loc), post w' → va_P D vwCl (w' ++ wr) H1 → va_D A (w' ++ wr) → va_S A H0 H1 locs1 → W p l e R s m args below meth c H1 locs1 (cells + mc) (slots + ms) Q (F0 m (pc + 3) ls (rest))): W p l e R s m args below meth c H locs cells slots Q (F0 m pc ls st0) := by
  have hF := mq_free hD.left hS hA
  refine va_callv (va_runS (As := As) (rest := rest) S (hM H.size) cw (kq_preS hP.left hK hD.left hN (ka_pass hka hS hF)) rfl hn hl hst (lv_room hW) hdg hf) hS (fun q _ h => hF q h) hF (fun u t H1 locs1 ht hvm hp hB hz hk hS1 => ?_)
  obtain ⟨hP1, hK1, hD1⟩ := hB
  rw [ht] at hP1
  obtain ⟨hP2, hD2⟩ := fr_join hP hD hk hF hP1 hD1
  exact kk u H1 locs1 hp hP2 hD2 hS1
theorem kq_SNv {post : va_W → Prop} (S : CallFix p m c cc nL s args Ts own) (hM : kq_v l D tys y ws fr mc ms lo As w post) (cw : va_CN R s args own index y host bytes maxL ret ws (mq_R fr mc ms lo) mc ms n ∧ (Cond.static y).before args s = true ∧ True) (hP : va_P D vwCl (w ++ wr) H) (hK : va_K D vwCl tys s) (hD : va_D A (w ++ wr)) (hN : nst s) (hka : ka A s H0) (hS : va_S A H0 H locs) (hA : ∀ q : Nat, H0.size ≤ q → A q) (hn : As.length = n) (hl : ls.size = nL) (hst : st0 = As.reverse ++ rest) (hW : (rest.map fun v => v.category).sum ≤ 8) (hdg : decode cc pc = .ok (.invokestatic index, 3)) (hf : cells + mc ≤ R.cells ∧ slots + ms ≤ R.slots)
    (kk : ∀ (w' : va_W) (H1 : Heap) (locs1 : List Loc), post w' → va_P D vwCl (w' ++ wr) H1 → va_D A (w' ++ wr) → va_S A H0 H1 locs1 → W p l e R s m args below meth c H1 locs1 (cells + mc) (slots + ms) Q (F0 m (pc + 3) ls (rest))): W p l e R s m args below meth c H locs cells slots Q (F0 m pc ls st0) := by
  have hF := mq_free hD.left hS hA
  refine va_callv (va_runSN (As := As) (rest := rest) S (hM H.size) cw (kq_preS hP.left hK hD.left hN (ka_pass hka hS hF)) rfl hn hl hst (lv_room hW) hdg hf) hS (fun q _ h => hF q h) hF (fun u t H1 locs1 ht hvm hp hB hz hk hS1 => ?_)
  obtain ⟨hP1, hK1, hD1⟩ := hB
  rw [ht] at hP1
  obtain ⟨hP2, hD2⟩ := fr_join hP hD hk hF hP1 hD1
  exact kk u H1 locs1 hp hP2 hD2 hS1
theorem kq_Iv {post : va_W → Prop} (S : CallFix p m c cc nL s args Ts own) (hM : kq_v l D tys y ws fr mc ms lo (.ref b :: As) w post) (cw : CallB R s args own index y bytes maxL none ws (mq_R fr mc ms lo) mc ms n ∧ y.name = "<init>" ∧ (Cond.instanceMethod y).before args s = true) (hP : va_P D vwCl (w ++ wr) H) (hK : va_K D vwCl tys s) (hD : va_D A (w ++ wr)) (hN : nst s) (hka : ka A s H0) (hS : va_S A H0 H locs) (hA : ∀ q : Nat, H0.size ≤ q → A q) (hn : As.length = n) (hl : ls.size = nL) (hst : st0 = As.reverse ++ .ref b :: rest) (hW : (rest.map fun v => v.category).sum ≤ 8) (hdg : decode cc pc = .ok (.invokespecial index, 3)) (hf : cells + mc ≤ R.cells ∧ slots + ms ≤ R.slots)
    (kk : ∀ (w' : va_W) (H1 : Heap) (locs1 : List Loc), post w' → va_P D vwCl (w' ++ wr) H1 → va_D A (w' ++ wr) → va_S A H0 H1 locs1 → W p l e R s m args below meth c H1 locs1 (cells + mc) (slots + ms) Q (F0 m (pc + 3) ls (rest))): W p l e R s m args below meth c H locs cells slots Q (F0 m pc ls st0) := by
  have hF := mq_free hD.left hS hA
  refine va_callv (va_runI (As := As) (rest := rest) S (hM H.size) cw (kq_preS hP.left hK hD.left hN (ka_pass hka hS hF)) rfl hn hl hst (lv_room hW) hdg hf) hS (fun q _ h => hF q h) hF (fun u t H1 locs1 ht hvm hp hB hz hk hS1 => ?_)
  obtain ⟨hP1, hK1, hD1⟩ := hB
  rw [ht] at hP1
  obtain ⟨hP2, hD2⟩ := fr_join hP hD hk hF hP1 hD1
  exact kk u H1 locs1 hp hP2 hD2 hS1
theorem kq_INv {post : va_W → Prop} (S : CallFix p m c cc nL s args Ts own) (hM : kq_v l D tys y ws fr mc ms lo (.ref b :: As) w post) (cw : va_CN R s args own index y host bytes maxL none ws (mq_R fr mc ms lo) mc ms n ∧ y.name = "<init>" ∧ (Cond.instanceMethod y).before args s = true) (hP : va_P D vwCl (w ++ wr) H) (hK : va_K D vwCl tys s) (hD : va_D A (w ++ wr)) (hN : nst s) (hka : ka A s H0) (hS : va_S A H0 H locs) (hA : ∀ q : Nat, H0.size ≤ q → A q) (hn : As.length = n) (hl : ls.size = nL) (hst : st0 = As.reverse ++ .ref b :: rest) (hW : (rest.map fun v => v.category).sum ≤ 8) (hdg : decode cc pc = .ok (.invokespecial index, 3)) (hf : cells + mc ≤ R.cells ∧ slots + ms ≤ R.slots)
    (kk : ∀ (w' : va_W) (H1 : Heap) (locs1 : List Loc), post w' → va_P D vwCl (w' ++ wr) H1 → va_D A (w' ++ wr) → va_S A H0 H1 locs1 → W p l e R s m args below meth c H1 locs1 (cells + mc) (slots + ms) Q (F0 m (pc + 3) ls (rest))): W p l e R s m args below meth c H locs cells slots Q (F0 m pc ls st0) := by
  have hF := mq_free hD.left hS hA
  refine va_callv (va_runIN (As := As) (rest := rest) S (hM H.size) cw (kq_preS hP.left hK hD.left hN (ka_pass hka hS hF)) rfl hn hl hst (lv_room hW) hdg hf) hS (fun q _ h => hF q h) hF (fun u t H1 locs1 ht hvm hp hB hz hk hS1 => ?_)
  obtain ⟨hP1, hK1, hD1⟩ := hB
  rw [ht] at hP1
  obtain ⟨hP2, hD2⟩ := fr_join hP hD hk hF hP1 hD1
  exact kk u H1 locs1 hp hP2 hD2 hS1
theorem kq_Vr {post : Option Nat → va_W → Prop} {ci k0 N : Nat} {T : u_T} {fs : List Value} (S : CallFix p m c cc nL s args Ts own) (hM : kq_r l D tys y ws fr mc ms lo (.ref b :: As) w post) (cw : CallW R s args own C index y bytes maxL ret ws (mq_R fr mc ms lo) mc ms n) (hc : vwCl[ci]? = some (C, T, N)) (he : w[k0]? = some (b, .inr (ci, fs))) (hP : va_P D vwCl (w ++ wr) H) (hK : va_K D vwCl tys s) (hD : va_D A (w ++ wr)) (hN : nst s) (hka : ka A s H0) (hS : va_S A H0 H locs) (hA : ∀ q : Nat, H0.size ≤ q → A q) (hn : As.length = n) (hl : ls.size = nL) (hst : st0 = As.reverse ++ .ref b :: rest) (hW : (rest.map fun v => v.category).sum ≤ 8) (hdg : decode cc pc = .ok (.invokevirtual index, 3)) (hf : cells + mc ≤ R.cells ∧ slots + ms ≤ R.slots)
    (kk : ∀ (r : Option Nat) (w' : va_W) (H1 : Heap) (locs1 : List Loc), post r w' → va_P D vwCl (w' ++ wr) H1 → va_D A (w' ++ wr) → va_S A H0 H1 locs1 → W p l e R s m args below meth c H1 locs1 (cells + mc) (slots + ms) Q (F0 m (pc + 3) ls (va_rf r :: rest))): W p l e R s m args below meth c H locs cells slots Q (F0 m pc ls st0) := by
  have hF := mq_free hD.left hS hA
  refine va_callq (va_runV (As := As) (rest := rest) S (hM H.size) cw (kq_preV hc he hP.left hK hD.left hN (ka_pass hka hS hF)) rfl hn hl hst (lv_room hW) hdg hf) hS (fun q _ h => hF q h) hF (fun r u t H1 locs1 ht hvm hp hB hz hk hS1 => ?_)
  obtain ⟨hP1, hK1, hD1⟩ := hB
  rw [ht] at hP1
  obtain ⟨hP2, hD2⟩ := fr_join hP hD hk hF hP1 hD1
  exact kk r u H1 locs1 hp hP2 hD2 hS1
theorem kq_Sr {post : Option Nat → va_W → Prop} (S : CallFix p m c cc nL s args Ts own) (hM : kq_r l D tys y ws fr mc ms lo As w post) (cw : CallB R s args own index y bytes maxL ret ws (mq_R fr mc ms lo) mc ms n ∧ (Cond.static y).before args s = true) (hP : va_P D vwCl (w ++ wr) H) (hK : va_K D vwCl tys s) (hD : va_D A (w ++ wr)) (hN : nst s) (hka : ka A s H0) (hS : va_S A H0 H locs) (hA : ∀ q : Nat, H0.size ≤ q → A q) (hn : As.length = n) (hl : ls.size = nL) (hst : st0 = As.reverse ++ rest) (hW : (rest.map fun v => v.category).sum ≤ 8) (hdg : decode cc pc = .ok (.invokestatic index, 3)) (hf : cells + mc ≤ R.cells ∧ slots + ms ≤ R.slots)
    (kk : ∀ (r : Option Nat) (w' : va_W) (H1 : Heap) (locs1 : List Loc), post r w' → va_P D vwCl (w' ++ wr) H1 → va_D A (w' ++ wr) → va_S A H0 H1 locs1 → W p l e R s m args below meth c H1 locs1 (cells + mc) (slots + ms) Q (F0 m (pc + 3) ls (va_rf r :: rest))): W p l e R s m args below meth c H locs cells slots Q (F0 m pc ls st0) := by
  have hF := mq_free hD.left hS hA
  refine va_callq (va_runS (As := As) (rest := rest) S (hM H.size) cw (kq_preS hP.left hK hD.left hN (ka_pass hka hS hF)) rfl hn hl hst (lv_room hW) hdg hf) hS (fun q _ h => hF q h) hF (fun r u t H1 locs1 ht hvm hp hB hz hk hS1 => ?_)
  obtain ⟨hP1, hK1, hD1⟩ := hB
  rw [ht] at hP1
  obtain ⟨hP2, hD2⟩ := fr_join hP hD hk hF hP1 hD1
  exact kk r u H1 locs1 hp hP2 hD2 hS1
theorem kq_SNr {post : Option Nat → va_W → Prop} (S : CallFix p m c cc nL s args Ts own) (hM : kq_r l D tys y ws fr mc ms lo As w post) (cw : va_CN R s args own index y host bytes maxL ret ws (mq_R fr mc ms lo) mc ms n ∧ (Cond.static y).before args s = true ∧ True) (hP : va_P D vwCl (w ++ wr) H) (hK : va_K D vwCl tys s) (hD : va_D A (w ++ wr)) (hN : nst s) (hka : ka A s H0) (hS : va_S A H0 H locs) (hA : ∀ q : Nat, H0.size ≤ q → A q) (hn : As.length = n) (hl : ls.size = nL) (hst : st0 = As.reverse ++ rest) (hW : (rest.map fun v => v.category).sum ≤ 8) (hdg : decode cc pc = .ok (.invokestatic index, 3)) (hf : cells + mc ≤ R.cells ∧ slots + ms ≤ R.slots)
    (kk : ∀ (r : Option Nat) (w' : va_W) (H1 : Heap) (locs1 : List Loc), post r w' → va_P D vwCl (w' ++ wr) H1 → va_D A (w' ++ wr) → va_S A H0 H1 locs1 → W p l e R s m args below meth c H1 locs1 (cells + mc) (slots + ms) Q (F0 m (pc + 3) ls (va_rf r :: rest))): W p l e R s m args below meth c H locs cells slots Q (F0 m pc ls st0) := by
  have hF := mq_free hD.left hS hA
  refine va_callq (va_runSN (As := As) (rest := rest) S (hM H.size) cw (kq_preS hP.left hK hD.left hN (ka_pass hka hS hF)) rfl hn hl hst (lv_room hW) hdg hf) hS (fun q _ h => hF q h) hF (fun r u t H1 locs1 ht hvm hp hB hz hk hS1 => ?_)
  obtain ⟨hP1, hK1, hD1⟩ := hB
  rw [ht] at hP1
  obtain ⟨hP2, hD2⟩ := fr_join hP hD hk hF hP1 hD1
  exact kk r u H1 locs1 hp hP2 hD2 hS1
theorem kq_rret {post : Option Nat → va_W → Prop} {v : Option Nat} {w' : va_W} {rt : FieldType} (hx : p.tables.exec = Jvm.exec) (hb : c.code = cc) (hr : meth.sig.returnType = some rt) (hrt : (∃ n, rt = .object n) ∨ ∃ t, rt = .array t) (hlocks : meth.locks = false) (hq : post v w') (hP : va_P D vwCl w' H) (hK : va_K D vwCl tys s) (hD : va_D A w') (hS : va_S A s.heap H locs) (hdg : decode cc pc = .ok (.areturn, 1)) : W p l e R s m args below meth c H locs cells slots (MQ below (va_Qq post (mq_B D tys A) A) args s cells slots A) (F0 m pc ls [va_rf v]) :=
  W.aret (v := va_rf v) hx hb hr hrt (va_rf_or v) (fun t ht hW => ⟨⟨v, w', rfl, hq, by rw [ht]; exact hP, va_K.moved hW.alike hK, hD⟩, hS.F ht⟩) hS.2.2 hdg
end KQC
theorem kq_l_of {l : Launch} {D : va_G} {tys : List (ClassId × FieldType)} {y : MethodName} {ws ws' : List Cond} {fr mc ms lo : Nat} {av : List Value} {w : va_W} {post : Int64 → va_W → Prop} {cc : ByteArray} {maxL : Nat} (hy : plainName y.cls = true) (hw : ws = Cond.code y cc maxL (some .long) :: ws') (hn : (lg_sl av).length ≤ maxL)
    (body : ∀ (p : Program) (e : Env) (s : State) (m : MethodId) (args : Array Value) (below : List Frame) (meth : Method) (c : Code) (A : Nat → Prop) (Q : State → Prop) (ls : Array Slot), p.tables.exec = Jvm.exec → c.code = cc → (∀ w ∈ ws, w.before args s = true) → s.vm.findClass y.cls = some m.cls → c.maxLocals = maxL → meth.name = y.name → nst s → ka A s s.heap → (∀ q : Nat, s.heap.size ≤ q → A q) → va_P D vwCl w s.heap → va_K D vwCl tys s → va_D A w → va_S A s.heap s.heap [] → lv_has ls maxL (lv_args 0 av) →
      (∀ (v : Int64) (w' : va_W) (H : Heap) (locs : List Loc) (pc : Nat) (ls : Array Slot), post v w' → va_P D vwCl w' H → va_D A w' → va_S A s.heap H locs → decode cc pc = .ok (.lreturn, 1) → W p l e (mq_R fr mc ms lo) s m args below meth c H locs mc ms Q (F0 m pc ls [.long v])) →
      W p l e (mq_R fr mc ms lo) s m args below meth c s.heap [] 0 0 Q (F0 m 0 ls [])) : kq_l l D tys y ws fr mc ms lo av w post :=
  kq_of hy hw hn (fun p e s m below meth c A ls hx hb hr hts hown hlocks hml hnm hN hka hA hP hK hD hS hl => body p e s m _ below meth c A _ ls hx hb hts hown hml hnm hN hka hA hP hK hD hS hl (fun v w' H locs pc ls hq hP hD hS hdg => mq_lret hx hb hr hlocks hq hP hK hD hS hdg))
theorem kq_i_of {l : Launch} {D : va_G} {tys : List (ClassId × FieldType)} {y : MethodName} {ws ws' : List Cond} {fr mc ms lo : Nat} {av : List Value} {w : va_W} {post : Int32 → va_W → Prop} {cc : ByteArray} {maxL : Nat} (hy : plainName y.cls = true) (hw : ws = Cond.code y cc maxL (some .int) :: ws') (hn : (lg_sl av).length ≤ maxL)
    (body : ∀ (p : Program) (e : Env) (s : State) (m : MethodId) (args : Array Value) (below : List Frame) (meth : Method) (c : Code) (A : Nat → Prop) (Q : State → Prop) (ls : Array Slot), p.tables.exec = Jvm.exec → c.code = cc → (∀ w ∈ ws, w.before args s = true) → s.vm.findClass y.cls = some m.cls → c.maxLocals = maxL → meth.name = y.name → nst s → ka A s s.heap → (∀ q : Nat, s.heap.size ≤ q → A q) → va_P D vwCl w s.heap → va_K D vwCl tys s → va_D A w → va_S A s.heap s.heap [] → lv_has ls maxL (lv_args 0 av) →
      (∀ (v : Int32) (w' : va_W) (H : Heap) (locs : List Loc) (pc : Nat) (ls : Array Slot), post v w' → va_P D vwCl w' H → va_D A w' → va_S A s.heap H locs → decode cc pc = .ok (.ireturn, 1) → W p l e (mq_R fr mc ms lo) s m args below meth c H locs mc ms Q (F0 m pc ls [.int v])) →
      W p l e (mq_R fr mc ms lo) s m args below meth c s.heap [] 0 0 Q (F0 m 0 ls [])) : kq_i l D tys y ws fr mc ms lo av w post :=
  kq_of hy hw hn (fun p e s m below meth c A ls hx hb hr hts hown hlocks hml hnm hN hka hA hP hK hD hS hl => body p e s m _ below meth c A _ ls hx hb hts hown hml hnm hN hka hA hP hK hD hS hl (fun v w' H locs pc ls hq hP hD hS hdg => mq_iret hx hb hr hlocks hq hP hK hD hS hdg))
theorem kq_z_of {l : Launch} {D : va_G} {tys : List (ClassId × FieldType)} {y : MethodName} {ws ws' : List Cond} {fr mc ms lo : Nat} {av : List Value} {w : va_W} {post : Int32 → va_W → Prop} {cc : ByteArray} {maxL : Nat} (hy : plainName y.cls = true) (hw : ws = Cond.code y cc maxL (some .boolean) :: ws') (hn : (lg_sl av).length ≤ maxL)
    (body : ∀ (p : Program) (e : Env) (s : State) (m : MethodId) (args : Array Value) (below : List Frame) (meth : Method) (c : Code) (A : Nat → Prop) (Q : State → Prop) (ls : Array Slot), p.tables.exec = Jvm.exec → c.code = cc → (∀ w ∈ ws, w.before args s = true) → s.vm.findClass y.cls = some m.cls → c.maxLocals = maxL → meth.name = y.name → nst s → ka A s s.heap → (∀ q : Nat, s.heap.size ≤ q → A q) → va_P D vwCl w s.heap → va_K D vwCl tys s → va_D A w → va_S A s.heap s.heap [] → lv_has ls maxL (lv_args 0 av) →
      (∀ (v : Int32) (w' : va_W) (H : Heap) (locs : List Loc) (pc : Nat) (ls : Array Slot), narrow .boolean (.int v) = .int v → post v w' → va_P D vwCl w' H → va_D A w' → va_S A s.heap H locs → decode cc pc = .ok (.ireturn, 1) → W p l e (mq_R fr mc ms lo) s m args below meth c H locs mc ms Q (F0 m pc ls [.int v])) →
      W p l e (mq_R fr mc ms lo) s m args below meth c s.heap [] 0 0 Q (F0 m 0 ls [])) : kq_i l D tys y ws fr mc ms lo av w post :=
  kq_of hy hw hn (fun p e s m below meth c A ls hx hb hr hts hown hlocks hml hnm hN hka hA hP hK hD hS hl => body p e s m _ below meth c A _ ls hx hb hts hown hml hnm hN hka hA hP hK hD hS hl (fun v w' H locs pc ls hn hq hP hD hS hdg => mq_zret hx hb hr hlocks hn hq hP hK hD hS hdg))
theorem kq_v_of {l : Launch} {D : va_G} {tys : List (ClassId × FieldType)} {y : MethodName} {ws ws' : List Cond} {fr mc ms lo : Nat} {av : List Value} {w : va_W} {post : va_W → Prop} {cc : ByteArray} {maxL : Nat} (hy : plainName y.cls = true) (hw : ws = Cond.code y cc maxL (none) :: ws') (hn : (lg_sl av).length ≤ maxL)
    (body : ∀ (p : Program) (e : Env) (s : State) (m : MethodId) (args : Array Value) (below : List Frame) (meth : Method) (c : Code) (A : Nat → Prop) (Q : State → Prop) (ls : Array Slot), p.tables.exec = Jvm.exec → c.code = cc → (∀ w ∈ ws, w.before args s = true) → s.vm.findClass y.cls = some m.cls → c.maxLocals = maxL → meth.name = y.name → nst s → ka A s s.heap → (∀ q : Nat, s.heap.size ≤ q → A q) → va_P D vwCl w s.heap → va_K D vwCl tys s → va_D A w → va_S A s.heap s.heap [] → lv_has ls maxL (lv_args 0 av) →
      (∀ (w' : va_W) (H : Heap) (locs : List Loc) (pc : Nat) (ls : Array Slot), post w' → va_P D vwCl w' H → va_D A w' → va_S A s.heap H locs → decode cc pc = .ok (.return_, 1) → W p l e (mq_R fr mc ms lo) s m args below meth c H locs mc ms Q (F0 m pc ls [])) →
      W p l e (mq_R fr mc ms lo) s m args below meth c s.heap [] 0 0 Q (F0 m 0 ls [])) : kq_v l D tys y ws fr mc ms lo av w post :=
  kq_of hy hw hn (fun p e s m below meth c A ls hx hb hr hts hown hlocks hml hnm hN hka hA hP hK hD hS hl => body p e s m _ below meth c A _ ls hx hb hts hown hml hnm hN hka hA hP hK hD hS hl (fun w' H locs pc ls hq hP hD hS hdg => mq_vret hx hb hr hlocks hq hP hK hD hS hdg))
theorem kq_r_of {l : Launch} {D : va_G} {tys : List (ClassId × FieldType)} {y : MethodName} {ws ws' : List Cond} {fr mc ms lo : Nat} {av : List Value} {w : va_W} {post : Option Nat → va_W → Prop} {cc : ByteArray} {maxL : Nat} {rt : FieldType} (hy : plainName y.cls = true) (hw : ws = Cond.code y cc maxL (some rt) :: ws') (hrt : (∃ n, rt = .object n) ∨ ∃ t, rt = .array t) (hn : (lg_sl av).length ≤ maxL)
    (body : ∀ (p : Program) (e : Env) (s : State) (m : MethodId) (args : Array Value) (below : List Frame) (meth : Method) (c : Code) (A : Nat → Prop) (Q : State → Prop) (ls : Array Slot), p.tables.exec = Jvm.exec → c.code = cc → (∀ w ∈ ws, w.before args s = true) → s.vm.findClass y.cls = some m.cls → c.maxLocals = maxL → meth.name = y.name → nst s → ka A s s.heap → (∀ q : Nat, s.heap.size ≤ q → A q) → va_P D vwCl w s.heap → va_K D vwCl tys s → va_D A w → va_S A s.heap s.heap [] → lv_has ls maxL (lv_args 0 av) →
      (∀ (v : Option Nat) (w' : va_W) (H : Heap) (locs : List Loc) (pc : Nat) (ls : Array Slot), post v w' → va_P D vwCl w' H → va_D A w' → va_S A s.heap H locs → decode cc pc = .ok (.areturn, 1) → W p l e (mq_R fr mc ms lo) s m args below meth c H locs mc ms Q (F0 m pc ls [va_rf v])) →
      W p l e (mq_R fr mc ms lo) s m args below meth c s.heap [] 0 0 Q (F0 m 0 ls [])) : kq_r l D tys y ws fr mc ms lo av w post :=
  kq_of hy hw hn (fun p e s m below meth c A ls hx hb hr hts hown hlocks hml hnm hN hka hA hP hK hD hS hl => body p e s m _ below meth c A _ ls hx hb hts hown hml hnm hN hka hA hP hK hD hS hl (fun v w' H locs pc ls hq hP hD hS hdg => kq_rret hx hb hr hrt hlocks hq hP hK hD hS hdg))
/-! ===== the rules of contracts ===== -/
theorem room_le {s : State} {pl : Platform} {r r' : Room} (h1 : r.frames ≤ r'.frames) (h2 : r.cells ≤ r'.cells) (h3 : r.slots ≤ r'.slots) (h4 : r.locals ≤ r'.locals) (h : s.hasRoom pl r' = true) : s.hasRoom pl r = true := by
  simp only [State.hasRoom, Bool.and_eq_true, decide_eq_true_eq] at h ⊢
  obtain ⟨⟨⟨⟨a, b1, b2, b3, b4, b5⟩, c⟩, d⟩, e⟩ := h
  exact ⟨⟨⟨⟨by omega, by omega, by omega, by omega, by omega, b5⟩, by omega⟩, by omega⟩, e⟩
theorem Met.cs {l : Launch} {y : MethodName} {ws : List Cond} {rm rm' : Room} {Pc Pc' : Array Value → State → Prop} {Qc Qc' : Array Value → State → Outcome → State → Prop} {mc ms mc' ms' : Nat} {free free' : Addr → Prop} (h : Met l y ws rm Pc Qc mc ms free) (h1 : rm.frames ≤ rm'.frames) (h2 : rm.cells ≤ rm'.cells) (h3 : rm.slots ≤ rm'.slots) (h4 : rm.locals ≤ rm'.locals) (hmc : mc ≤ mc') (hms : ms ≤ ms') (hP : ∀ a s, Pc' a s → Pc a s) (hQ : ∀ a s o t, Pc' a s → Qc a s o t → Qc' a s o t) (hf : ∀ q, free q → free' q) : Met l y ws rm' Pc' Qc' mc' ms' free' := by
  intro p e ha hc hk s m args below hfr happ hp hk'
  have happ2 : (headSpec ws rm).appliesLoose y e.platform s = true := by
    rw [Spec.appliesLoose_iff hfr] at happ ⊢
    obtain ⟨a, b, c, d, e', f, g, i⟩ := happ
    exact ⟨a, b, c, d, e', f, room_le h1 h2 h3 h4 g, i⟩
  obtain ⟨n, o, g1, g2, g3, g4, L, g5, g6⟩ := h p e ha hc hk s m args below hfr happ2 (hP _ _ hp) trivial
  exact ⟨n, o, g1, g2, g3, hQ _ _ _ _ hp g4, L, ⟨g5.1, g5.2.1, g5.2.2.1, g5.2.2.2.1, Nat.le_trans g5.2.2.2.2.1 (Nat.add_le_add_left hmc _), g5.2.2.2.2.2.1, Nat.le_trans g5.2.2.2.2.2.2.1 hms, g5.2.2.2.2.2.2.2⟩, fun q hq => hf _ (g6 q hq)⟩
theorem va_A.app {w wr w0 : va_W} {sz q : Nat} (hp : w0.Perm (w ++ wr)) (h : va_A w sz q) : va_A w0 sz q := by
  rcases h with ⟨k, e, h⟩ | h
  · have hm : (q, e) ∈ w0 := hp.mem_iff.mpr (List.mem_append.mpr (Or.inl (List.mem_of_getElem? h)))
    obtain ⟨i, hi⟩ := List.getElem?_of_mem hm
    exact Or.inl ⟨i, e, hi⟩
  · exact Or.inr h
theorem ka_narrow {A B : Nat → Prop} {s : State} {H : Heap} (h : ka A s H) (hF : ∀ q : Nat, B q → A q) : ka B s H := by
  obtain ⟨t, h1, h2⟩ := h
  exact ⟨t, h1.narrow hF, h2.narrow hF⟩
theorem lift_back {D : va_G} {tys : List (ClassId × FieldType)} {w wr w0 u : va_W} {s t : State} (hp : w0.Perm (w ++ wr)) (hP : va_P D vwCl w0 s.heap) (hD : va_D (fun _ => True) w0) (hB : mq_B D tys (va_A w s.heap.size) u t) (hF : va_F (va_A w s.heap.size) s t) : mq_B D tys (va_A w0 s.heap.size) (u ++ wr) t ∧ va_F (va_A w0 s.heap.size) s t := by
  obtain ⟨b1, b2, b3⟩ := hB
  have hP2 := hP.perm hp
  have hD2 : va_D (va_A w0 s.heap.size) (w ++ wr) := (va_D.self hD).perm hp
  obtain ⟨j1, j2⟩ := fr_join hP2 hD2 hF.2 (fun q h => va_A.app hp h) b1 b3
  exact ⟨⟨j1, b2, j2⟩, hF.1, fun q h1 h2 => hF.2 q h1 (fun h => h2 (va_A.app hp h))⟩
/-- the contract of a method over some cells, as one over more cells: the rest stays; more room; less behind -/
theorem nn_l {l : Launch} {D : va_G} {tys : List (ClassId × FieldType)} {y : MethodName} {ws : List Cond} {fr mc ms lo fr' mc' ms' lo' : Nat} {av : List Value} {w wr w0 : va_W} {post post' : Int64 → va_W → Prop} (h : nq_l l D tys y ws fr mc ms lo av w post) (hp : w0.Perm (w ++ wr)) (h1 : fr ≤ fr') (h2 : mc ≤ mc') (h3 : ms ≤ ms') (h4 : lo ≤ lo') (hq : ∀ r w1, post r w1 → ∃ w2 : va_W, (w1 ++ wr).Perm w2 ∧ post' r w2) : nq_l l D tys y ws fr' mc' ms' lo' av w0 post' := by
  intro sz
  refine Met.cs (h sz) h1 h2 h3 h4 h2 h3 (fun a s hp' => ?_) (fun a s o t hp' hq' => ?_) (fun q hf => va_A.app hp hf)
  · obtain ⟨e, hsz, hP, hK, hD, hN⟩ := hp'
    have hP2 := hP.perm hp
    have hD2 := hD.perm hp
    exact ⟨e, hsz, hP2.left, hK, hD2.left, hN⟩
  · obtain ⟨e, hsz, hP, hK, hD, hN⟩ := hp'
    subst hsz
    obtain ⟨⟨r, u, ho, hpo, hB⟩, hF⟩ := hq'
    obtain ⟨j1, j2⟩ := lift_back hp hP hD hB hF
    obtain ⟨w2, hpw, hp2⟩ := hq r u hpo
    exact ⟨⟨r, w2, ho, hp2, j1.1.perm hpw, j1.2.1, j1.2.2.perm hpw⟩, j2⟩
/-- the contract of a method over some cells, as one over more cells: the rest stays; more room; less behind -/
theorem nk_l {l : Launch} {D : va_G} {tys : List (ClassId × FieldType)} {y : MethodName} {ws : List Cond} {fr mc ms lo fr' mc' ms' lo' : Nat} {av : List Value} {w wr w0 : va_W} {post post' : Int64 → va_W → Prop} (h : nq_l l D tys y ws fr mc ms lo av w post) (hp : w0.Perm (w ++ wr)) (h1 : fr ≤ fr') (h2 : mc ≤ mc') (h3 : ms ≤ ms') (h4 : lo ≤ lo') (hq : ∀ r w1, post r w1 → ∃ w2 : va_W, (w1 ++ wr).Perm w2 ∧ post' r w2) : kq_l l D tys y ws fr' mc' ms' lo' av w0 post' := by
  intro sz
  refine Met.cs (h sz) h1 h2 h3 h4 h2 h3 (fun a s hp' => ?_) (fun a s o t hp' hq' => ?_) (fun q hf => va_A.app hp hf)
  · obtain ⟨e, hsz, hP, hK, hD, hN, hka⟩ := hp'
    have hP2 := hP.perm hp
    have hD2 := hD.perm hp
    exact ⟨e, hsz, hP2.left, hK, hD2.left, hN⟩
  · obtain ⟨e, hsz, hP, hK, hD, hN, hka⟩ := hp'
    subst hsz
    obtain ⟨⟨r, u, ho, hpo, hB⟩, hF⟩ := hq'
    obtain ⟨j1, j2⟩ := lift_back hp hP hD hB hF
    obtain ⟨w2, hpw, hp2⟩ := hq r u hpo
    exact ⟨⟨r, w2, ho, hp2, j1.1.perm hpw, j1.2.1, j1.2.2.perm hpw⟩, j2⟩
/-- the contract of a method over some cells, as one over more cells: the rest stays; more room; less behind -/
theorem kk_l {l : Launch} {D : va_G} {tys : List (ClassId × FieldType)} {y : MethodName} {ws : List Cond} {fr mc ms lo fr' mc' ms' lo' : Nat} {av : List Value} {w wr w0 : va_W} {post post' : Int64 → va_W → Prop} (h : kq_l l D tys y ws fr mc ms lo av w post) (hp : w0.Perm (w ++ wr)) (h1 : fr ≤ fr') (h2 : mc ≤ mc') (h3 : ms ≤ ms') (h4 : lo ≤ lo') (hq : ∀ r w1, post r w1 → ∃ w2 : va_W, (w1 ++ wr).Perm w2 ∧ post' r w2) : kq_l l D tys y ws fr' mc' ms' lo' av w0 post' := by
  intro sz
  refine Met.cs (h sz) h1 h2 h3 h4 h2 h3 (fun a s hp' => ?_) (fun a s o t hp' hq' => ?_) (fun q hf => va_A.app hp hf)
  · obtain ⟨e, hsz, hP, hK, hD, hN, hka⟩ := hp'
    have hP2 := hP.perm hp
    have hD2 := hD.perm hp
    exact ⟨e, hsz, hP2.left, hK, hD2.left, hN, ka_narrow hka (fun q g => va_A.app hp g)⟩
  · obtain ⟨e, hsz, hP, hK, hD, hN, hka⟩ := hp'
    subst hsz
    obtain ⟨⟨r, u, ho, hpo, hB⟩, hF⟩ := hq'
    obtain ⟨j1, j2⟩ := lift_back hp hP hD hB hF
    obtain ⟨w2, hpw, hp2⟩ := hq r u hpo
    exact ⟨⟨r, w2, ho, hp2, j1.1.perm hpw, j1.2.1, j1.2.2.perm hpw⟩, j2⟩
/-- the contract of a method over some cells, as one over more cells: the rest stays; more room; less behind -/
theorem nn_i {l : Launch} {D : va_G} {tys : List (ClassId × FieldType)} {y : MethodName} {ws : List Cond} {fr mc ms lo fr' mc' ms' lo' : Nat} {av : List Value} {w wr w0 : va_W} {post post' : Int32 → va_W → Prop} (h : nq_i l D tys y ws fr mc ms lo av w post) (hp : w0.Perm (w ++ wr)) (h1 : fr ≤ fr') (h2 : mc ≤ mc') (h3 : ms ≤ ms') (h4 : lo ≤ lo') (hq : ∀ r w1, post r w1 → ∃ w2 : va_W, (w1 ++ wr).Perm w2 ∧ post' r w2) : nq_i l D tys y ws fr' mc' ms' lo' av w0 post' := by
  intro sz
  refine Met.cs (h sz) h1 h2 h3 h4 h2 h3 (fun a s hp' => ?_) (fun a s o t hp' hq' => ?_) (fun q hf => va_A.app hp hf)
  · obtain ⟨e, hsz, hP, hK, hD, hN⟩ := hp'
    have hP2 := hP.perm hp
    have hD2 := hD.perm hp
    exact ⟨e, hsz, hP2.left, hK, hD2.left, hN⟩
  · obtain ⟨e, hsz, hP, hK, hD, hN⟩ := hp'
    subst hsz
    obtain ⟨⟨r, u, ho, hpo, hB⟩, hF⟩ := hq'
    obtain ⟨j1, j2⟩ := lift_back hp hP hD hB hF
    obtain ⟨w2, hpw, hp2⟩ := hq r u hpo
    exact ⟨⟨r, w2, ho, hp2, j1.1.perm hpw, j1.2.1, j1.2.2.perm hpw⟩, j2⟩
/-- the contract of a method over some cells, as one over more cells: the rest stays; more room; less behind -/
theorem nk_i {l : Launch} {D : va_G} {tys : List (ClassId × FieldType)} {y : MethodName} {ws : List Cond} {fr mc ms lo fr' mc' ms' lo' : Nat} {av : List Value} {w wr w0 : va_W} {post post' : Int32 → va_W → Prop} (h : nq_i l D tys y ws fr mc ms lo av w post) (hp : w0.Perm (w ++ wr)) (h1 : fr ≤ fr') (h2 : mc ≤ mc') (h3 : ms ≤ ms') (h4 : lo ≤ lo') (hq : ∀ r w1, post r w1 → ∃ w2 : va_W, (w1 ++ wr).Perm w2 ∧ post' r w2) : kq_i l D tys y ws fr' mc' ms' lo' av w0 post' := by
  intro sz
  refine Met.cs (h sz) h1 h2 h3 h4 h2 h3 (fun a s hp' => ?_) (fun a s o t hp' hq' => ?_) (fun q hf => va_A.app hp hf)
  · obtain ⟨e, hsz, hP, hK, hD, hN, hka⟩ := hp'
    have hP2 := hP.perm hp
    have hD2 := hD.perm hp
    exact ⟨e, hsz, hP2.left, hK, hD2.left, hN⟩
  · obtain ⟨e, hsz, hP, hK, hD, hN, hka⟩ := hp'
    subst hsz
    obtain ⟨⟨r, u, ho, hpo, hB⟩, hF⟩ := hq'
    obtain ⟨j1, j2⟩ := lift_back hp hP hD hB hF
    obtain ⟨w2, hpw, hp2⟩ := hq r u hpo
    exact ⟨⟨r, w2, ho, hp2, j1.1.perm hpw, j1.2.1, j1.2.2.perm hpw⟩, j2⟩
/-- the contract of a method over some cells, as one over more cells: the rest stays; more room; less behind -/
theorem kk_i {l : Launch} {D : va_G} {tys : List (ClassId × FieldType)} {y : MethodName} {ws : List Cond} {fr mc ms lo fr' mc' ms' lo' : Nat} {av : List Value} {w wr w0 : va_W} {post post' : Int32 → va_W → Prop} (h : kq_i l D tys y ws fr mc ms lo av w post) (hp : w0.Perm (w ++ wr)) (h1 : fr ≤ fr') (h2 : mc ≤ mc') (h3 : ms ≤ ms') (h4 : lo ≤ lo') (hq : ∀ r w1, post r w1 → ∃ w2 : va_W, (w1 ++ wr).Perm w2 ∧ post' r w2) : kq_i l D tys y ws fr' mc' ms' lo' av w0 post' := by
  intro sz
  refine Met.cs (h sz) h1 h2 h3 h4 h2 h3 (fun a s hp' => ?_) (fun a s o t hp' hq' => ?_) (fun q hf => va_A.app hp hf)
  · obtain ⟨e, hsz, hP, hK, hD, hN, hka⟩ := hp'
    have hP2 := hP.perm hp
    have hD2 := hD.perm hp
    exact ⟨e, hsz, hP2.left, hK, hD2.left, hN, ka_narrow hka (fun q g => va_A.app hp g)⟩
  · obtain ⟨e, hsz, hP, hK, hD, hN, hka⟩ := hp'
    subst hsz
    obtain ⟨⟨r, u, ho, hpo, hB⟩, hF⟩ := hq'
    obtain ⟨j1, j2⟩ := lift_back hp hP hD hB hF
    obtain ⟨w2, hpw, hp2⟩ := hq r u hpo
    exact ⟨⟨r, w2, ho, hp2, j1.1.perm hpw, j1.2.1, j1.2.2.perm hpw⟩, j2⟩
/-- the contract of a method over some cells, as one over more cells: the rest stays; more room; less behind -/
theorem nn_v {l : Launch} {D : va_G} {tys : List (ClassId × FieldType)} {y : MethodName} {ws : List Cond} {fr mc ms lo fr' mc' ms' lo' : Nat} {av : List Value} {w wr w0 : va_W} {post post' : va_W → Prop} (h : nq_v l D tys y ws fr mc ms lo av w post) (hp : w0.Perm (w ++ wr)) (h1 : fr ≤ fr') (h2 : mc ≤ mc') (h3 : ms ≤ ms') (h4 : lo ≤ lo') (hq : ∀ w1, post w1 → ∃ w2 : va_W, (w1 ++ wr).Perm w2 ∧ post' w2) : nq_v l D tys y ws fr' mc' ms' lo' av w0 post' := by
  intro sz
  refine Met.cs (h sz) h1 h2 h3 h4 h2 h3 (fun a s hp' => ?_) (fun a s o t hp' hq' => ?_) (fun q hf => va_A.app hp hf)
  · obtain ⟨e, hsz, hP, hK, hD, hN⟩ := hp'
    have hP2 := hP.perm hp
    have hD2 := hD.perm hp
    exact ⟨e, hsz, hP2.left, hK, hD2.left, hN⟩
  · obtain ⟨e, hsz, hP, hK, hD, hN⟩ := hp'
    subst hsz
    obtain ⟨⟨u, ho, hpo, hB⟩, hF⟩ := hq'
    obtain ⟨j1, j2⟩ := lift_back hp hP hD hB hF
    obtain ⟨w2, hpw, hp2⟩ := hq u hpo
    exact ⟨⟨w2, ho, hp2, j1.1.perm hpw, j1.2.1, j1.2.2.perm hpw⟩, j2⟩
/-- the contract of a method over some cells, as one over more cells: the rest stays; more room; less behind -/
theorem nk_v {l : Launch} {D : va_G} {tys : List (ClassId × FieldType)} {y : MethodName} {ws : List Cond} {fr mc ms lo fr' mc' ms' lo' : Nat} {av : List Value} {w wr w0 : va_W} {post post' : va_W → Prop} (h : nq_v l D tys y ws fr mc ms lo av w post) (hp : w0.Perm (w ++ wr)) (h1 : fr ≤ fr') (h2 : mc ≤ mc') (h3 : ms ≤ ms') (h4 : lo ≤ lo') (hq : ∀ w1, post w1 → ∃ w2 : va_W, (w1 ++ wr).Perm w2 ∧ post' w2) : kq_v l D tys y ws fr' mc' ms' lo' av w0 post' := by
  intro sz
  refine Met.cs (h sz) h1 h2 h3 h4 h2 h3 (fun a s hp' => ?_) (fun a s o t hp' hq' => ?_) (fun q hf => va_A.app hp hf)
  · obtain ⟨e, hsz, hP, hK, hD, hN, hka⟩ := hp'
    have hP2 := hP.perm hp
    have hD2 := hD.perm hp
    exact ⟨e, hsz, hP2.left, hK, hD2.left, hN⟩
  · obtain ⟨e, hsz, hP, hK, hD, hN, hka⟩ := hp'
    subst hsz
    obtain ⟨⟨u, ho, hpo, hB⟩, hF⟩ := hq'
    obtain ⟨j1, j2⟩ := lift_back hp hP hD hB hF
    obtain ⟨w2, hpw, hp2⟩ := hq u hpo
    exact ⟨⟨w2, ho, hp2, j1.1.perm hpw, j1.2.1, j1.2.2.perm hpw⟩, j2⟩
/-- the contract of a method over some cells, as one over more cells: the rest stays; more room; less behind -/
theorem kk_v {l : Launch} {D : va_G} {tys : List (ClassId × FieldType)} {y : MethodName} {ws : List Cond} {fr mc ms lo fr' mc' ms' lo' : Nat} {av : List Value} {w wr w0 : va_W} {post post' : va_W → Prop} (h : kq_v l D tys y ws fr mc ms lo av w post) (hp : w0.Perm (w ++ wr)) (h1 : fr ≤ fr') (h2 : mc ≤ mc') (h3 : ms ≤ ms') (h4 : lo ≤ lo') (hq : ∀ w1, post w1 → ∃ w2 : va_W, (w1 ++ wr).Perm w2 ∧ post' w2) : kq_v l D tys y ws fr' mc' ms' lo' av w0 post' := by
  intro sz
  refine Met.cs (h sz) h1 h2 h3 h4 h2 h3 (fun a s hp' => ?_) (fun a s o t hp' hq' => ?_) (fun q hf => va_A.app hp hf)
  · obtain ⟨e, hsz, hP, hK, hD, hN, hka⟩ := hp'
    have hP2 := hP.perm hp
    have hD2 := hD.perm hp
    exact ⟨e, hsz, hP2.left, hK, hD2.left, hN, ka_narrow hka (fun q g => va_A.app hp g)⟩
  · obtain ⟨e, hsz, hP, hK, hD, hN, hka⟩ := hp'
    subst hsz
    obtain ⟨⟨u, ho, hpo, hB⟩, hF⟩ := hq'
    obtain ⟨j1, j2⟩ := lift_back hp hP hD hB hF
    obtain ⟨w2, hpw, hp2⟩ := hq u hpo
    exact ⟨⟨w2, ho, hp2, j1.1.perm hpw, j1.2.1, j1.2.2.perm hpw⟩, j2⟩
