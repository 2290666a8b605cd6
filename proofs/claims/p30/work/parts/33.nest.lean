/-! ===== contracts of the class: with the words of nest mates ===== -/
def nF : List (String × Nat × String × String × String × String) := [("CornDesk$Past", 25, "CornDesk$Step", "act", "I", "CornDesk"), ("CornDesk", 343, "CornDesk$Step", "act", "I", "CornDesk"), ("CornDesk$Past", 28, "CornDesk$Step", "which", "I", "CornDesk"), ("CornDesk", 348, "CornDesk$Step", "which", "I", "CornDesk"), ("CornDesk$Picture", 34, "CornDesk$Step", "row", "[I", "CornDesk"), ("CornDesk$Form", 22, "CornDesk$Step", "row", "[I", "CornDesk"), ("CornDesk", 358, "CornDesk$Step", "row", "[I", "CornDesk"), ("CornDesk", 314, "CornDesk$Sheet", "numbers", "[I", "CornDesk"), ("CornDesk$Mark", 45, "CornDesk$Picture", "number", "I", "CornDesk"), ("CornDesk", 164, "CornDesk$Mark", "kind", "I", "CornDesk"), ("CornDesk$Groups", 66, "CornDesk$Mark", "kind", "I", "CornDesk"), ("CornDesk$Groups", 57, "CornDesk$Mark", "size", "I", "CornDesk"), ("CornDesk$Groups", 63, "CornDesk$Mark", "gates", "I", "CornDesk"), ("CornDesk$Flight", 33, "CornDesk$Field", "hours", "I", "CornDesk")]
def nM : List (String × Nat × MethodName × String) := [("CornDesk", 23, ⟨"CornDesk$Groups", "<init>", "()V"⟩, "CornDesk"), ("CornDesk", 30, ⟨"CornDesk$Form", "<init>", "()V"⟩, "CornDesk"), ("CornDesk", 50, ⟨"CornDesk$Flight", "<init>", "()V"⟩, "CornDesk"), ("CornDesk$Past", 17, ⟨"CornDesk$Step", "<init>", "()V"⟩, "CornDesk"), ("CornDesk", 68, ⟨"CornDesk$Sheet", "<init>", "()V"⟩, "CornDesk"), ("CornDesk$Picture", 9, ⟨"CornDesk$Line", "<init>", "()V"⟩, "CornDesk"), ("CornDesk$Form", 48, ⟨"CornDesk", "isWithin", "(III)Z"⟩, "CornDesk"), ("CornDesk$Table", 24, ⟨"CornDesk", "isLevel", "(I)Z"⟩, "CornDesk"), ("CornDesk$Field", 67, ⟨"CornDesk", "part", "(JJZ)J"⟩, "CornDesk"), ("CornDesk$Field", 46, ⟨"CornDesk$Table", "cell", "(III)I"⟩, "CornDesk"), ("CornDesk$Sheet", 38, ⟨"CornDesk", "isSign", "(I)Z"⟩, "CornDesk")]
def nO : List String := ["CornDesk$Picture", "CornDesk$Mark", "CornDesk$Field", "CornDesk$Sheet", "CornDesk$Step"]
def nst (U : State) : Prop := (∀ q ∈ nF, va_Nw (.fieldLinkNest q.1 q.2.1 q.2.2.1 q.2.2.2.1 q.2.2.2.2.1 q.2.2.2.2.2) U) ∧ (∀ q ∈ nM, va_Nw (.methodLinkNest q.1 q.2.1 q.2.2.1 q.2.2.2) U) ∧ ∀ q ∈ nO, va_AO q U
theorem nst_warm {s U : State} (hW : s.WarmedH U.vm) (h : nst s) : nst U := ⟨fun q hq => va_Nw.warmF hW (h.1 q hq), fun q hq => va_Nw.warmM hW (h.2.1 q hq), fun q hq => (h.2.2 q hq).moved hW.alike⟩
theorem nst_same {u U : State} (e : u.vm = U.vm) (h : nst u) : nst U := ⟨fun q hq => va_Nw.same rfl e (h.1 q hq), fun q hq => va_Nw.same rfl e (h.2.1 q hq), fun q hq => (h.2.2 q hq).moved (by rw [e]; exact Vm.Alike.refl U.vm)⟩
theorem nst_o {s : State} (h : nst s) {C : String} (hm : C ∈ nO) : va_AO C s := h.2.2 _ hm
theorem nst_f {s : State} (h : nst s) {a : String} {i : Nat} {b n d g : String} (hm : (a, i, b, n, d, g) ∈ nF) {args : Array Value} : (Cond.fieldLinkNest a i b n d g).before args s = true := va_Nw.use rfl (h.1 _ hm)
theorem nst_m {s : State} (h : nst s) {a : String} {i : Nat} {y : MethodName} {g : String} (hm : (a, i, y, g) ∈ nM) : va_Nw (.methodLinkNest a i y g) s := h.2.1 _ hm
def nq_Pc (D : va_G) (tys : List (ClassId × FieldType)) (av : List Value) (w : va_W) (sz : Nat) : Array Value → State → Prop := va_Pc av (fun U => U.heap.size = sz ∧ va_P D vwCl w U.heap ∧ va_K D vwCl tys U ∧ va_D (fun _ => True) w ∧ nst U)
/-- a method's contract over a world; QQ says what it answers -/
def nq (l : Launch) (D : va_G) (tys : List (ClassId × FieldType)) (y : MethodName) (ws : List Cond) (fr mc ms lo : Nat) (av : List Value) (w : va_W) (QQ : (va_W → State → Prop) → (Nat → Prop) → Array Value → State → Outcome → State → Prop) : Prop :=
  ∀ sz : Nat, Met l y ws (mq_R fr mc ms lo) (nq_Pc D tys av w sz) (QQ (mq_B D tys (va_A w sz)) (va_A w sz)) mc ms (va_A w sz)
abbrev nq_l (l : Launch) (D : va_G) (tys : List (ClassId × FieldType)) (y : MethodName) (ws : List Cond) (fr mc ms lo : Nat) (av : List Value) (w : va_W) (post : Int64 → va_W → Prop) : Prop := nq l D tys y ws fr mc ms lo av w (fun B A => va_Ql post B A)
abbrev nq_i (l : Launch) (D : va_G) (tys : List (ClassId × FieldType)) (y : MethodName) (ws : List Cond) (fr mc ms lo : Nat) (av : List Value) (w : va_W) (post : Int32 → va_W → Prop) : Prop := nq l D tys y ws fr mc ms lo av w (fun B A => va_Qi post B A)
abbrev nq_v (l : Launch) (D : va_G) (tys : List (ClassId × FieldType)) (y : MethodName) (ws : List Cond) (fr mc ms lo : Nat) (av : List Value) (w : va_W) (post : va_W → Prop) : Prop := nq l D tys y ws fr mc ms lo av w (fun B A => va_Qv post B A)
abbrev nq_r (l : Launch) (D : va_G) (tys : List (ClassId × FieldType)) (y : MethodName) (ws : List Cond) (fr mc ms lo : Nat) (av : List Value) (w : va_W) (post : Option Nat → va_W → Prop) : Prop := nq l D tys y ws fr mc ms lo av w (fun B A => va_Qq post B A)
set_option maxHeartbeats 1000000 in
theorem nq_of {l : Launch} {D : va_G} {tys : List (ClassId × FieldType)} {y : MethodName} {ws ws' : List Cond} {fr mc ms lo : Nat} {av : List Value} {w : va_W} {QQ : (va_W → State → Prop) → (Nat → Prop) → Array Value → State → Outcome → State → Prop} {cc : ByteArray} {maxL : Nat} {ret : Option FieldType} (hy : plainName y.cls = true) (hw : ws = Cond.code y cc maxL ret :: ws') (hn : (lg_sl av).length ≤ maxL)
    (body : ∀ (p : Program) (e : Env) (s : State) (m : MethodId) (below : List Frame) (meth : Method) (c : Code) (A : Nat → Prop) (ls : Array Slot), p.tables.exec = Jvm.exec → c.code = cc → meth.sig.returnType = ret → (∀ w ∈ ws, w.before av.toArray s = true) → s.vm.findClass y.cls = some m.cls → meth.locks = false → c.maxLocals = maxL → meth.name = y.name → nst s → (∀ q : Nat, s.heap.size ≤ q → A q) → va_P D vwCl w s.heap → va_K D vwCl tys s → va_D A w → va_S A s.heap s.heap [] → lv_has ls maxL (lv_args 0 av) → W p l e (mq_R fr mc ms lo) s m av.toArray below meth c s.heap [] 0 0 (MQ below (QQ (mq_B D tys A) A) av.toArray s mc ms A) (F0 m 0 ls [])) : nq l D tys y ws fr mc ms lo av w QQ := by
  intro sz
  refine Met.ofW (cc := cc) (maxL := maxL) (ret := ret) hy hw ?_
  intro p e s m args below meth c s₁ B hml hv
  obtain ⟨rfl, hsz, hP, hK, hD0, hN⟩ := hv
  subst hsz
  rw [lg_entry_eq]
  exact body p e s m below meth c (va_A w s.heap.size) _ B.exec B.bytes B.returns (atoms_spec (ws := ws) B.pre) (findClass_of_methodNamed B.named) B.notSynchronized hml ((name_of_methodNamed B.named B.method).1) hN (fun q h => Or.inr h) hP hK hD0.self va_S.rf (lv_entry av (n := maxL) hn)
section NQC
variable {p : Program} {l : Launch} {e : Env} {R : Room} {s : State} {m : MethodId} {args : Array Value} {below : List Frame} {meth : Method} {c : Code} {H : Heap} {locs : List Loc} {cells slots : Nat} {Q : State → Prop}
variable {D : va_G} {tys : List (ClassId × FieldType)} {y : MethodName} {bytes cc : ByteArray} {maxL nL mc ms n index fr lo : Nat} {ret : Option FieldType} {ws : List Cond} {Ts : List Cond} {own C host : String} {b : Addr} {As rest st0 : List Value} {pc : Nat} {ls : Array Slot} {A : Nat → Prop} {H0 : Heap} {w wr : va_W}
theorem nq_blind (D : va_G) (tys : List (ClassId × FieldType)) (av : List Value) (w : va_W) (sz : Nat) : FrameBlind (nq_Pc D tys av w sz) := fun a U g mk q => by
  obtain ⟨q0, q1, qP, qK, qD, qN⟩ := q
  exact ⟨q0, q1, qP, va_K.moved (u := U) (U := U.calling g mk a) (Vm.Alike.refl U.vm) qK, qD, nst_same rfl qN⟩
theorem nq_preS {av : List Value} (hP : va_P D vwCl w H) (hK : va_K D vwCl tys s) (hD : va_D A w) (hN : nst s) : PreS s H (nq_Pc D tys av w H.size) av :=
  ⟨nq_blind D tys av w H.size, fun U hU hW => ⟨rfl, by rw [hU], by rw [hU]; exact hP, va_K.moved hW.alike hK, hD.weaken (fun _ _ _ _ => trivial), nst_warm hW hN⟩⟩
theorem nq_preV {ci k0 N : Nat} {T : u_T} {fs : List Value} (hc : vwCl[ci]? = some (C, T, N)) (he : w[k0]? = some (b, .inr (ci, fs))) (hP : va_P D vwCl w H) (hK : va_K D vwCl tys s) (hD : va_D A w) (hN : nst s) : PreV s H C b (nq_Pc D tys (.ref b :: As) w H.size) As :=
  ⟨nq_blind D tys (.ref b :: As) w H.size, va_recv hK hP hc he, fun U hU hW => ⟨rfl, by rw [hU], by rw [hU]; exact hP, va_K.moved hW.alike hK, hD.weaken (fun _ _ _ _ => trivial), nst_warm hW hN⟩⟩
theorem nq_Vl {post : Int64 → va_W → Prop} {ci k0 N : Nat} {T : u_T} {fs : List Value} (S : CallFix p m c cc nL s args Ts own) (hM : nq_l l D tys y ws fr mc ms lo (.ref b :: As) w post) (cw : CallW R s args own C index y bytes maxL ret ws (mq_R fr mc ms lo) mc ms n) (hc : vwCl[ci]? = some (C, T, N)) (he : w[k0]? = some (b, .inr (ci, fs))) (hP : va_P D vwCl (w ++ wr) H) (hK : va_K D vwCl tys s) (hD : va_D A (w ++ wr)) (hN : nst s) (hS : va_S A H0 H locs) (hA : ∀ q : Nat, H0.size ≤ q → A q) (hn : As.length = n) (hl : ls.size = nL) (hst : st0 = As.reverse ++ .ref b :: rest) (hW : (rest.map fun v => v.category).sum ≤ 8) (hdg : decode cc pc = .ok (.invokevirtual index, 3)) (hf : cells + mc ≤ R.cells ∧ slots + ms ≤ R.slots)
    (kk : ∀ (r : Int64) (w' : va_W) (H1 : Heap) (locs1 : List Loc), post r w' → va_P D vwCl (w' ++ wr) H1 → va_D A (w' ++ wr) → va_S A H0 H1 locs1 → W p l e R s m args below meth c H1 locs1 (cells + mc) (slots + ms) Q (F0 m (pc + 3) ls (.long r :: rest))): W p l e R s m args below meth c H locs cells slots Q (F0 m pc ls st0) := by
  have hF := mq_free hD.left hS hA
  refine va_calll (va_runV (As := As) (rest := rest) S (hM H.size) cw (nq_preV hc he hP.left hK hD.left hN) rfl hn hl hst (lv_room hW) hdg hf) hS (fun q _ h => hF q h) hF (fun r u t H1 locs1 ht hvm hp hB hz hk hS1 => ?_)
  obtain ⟨hP1, hK1, hD1⟩ := hB
  rw [ht] at hP1
  obtain ⟨hP2, hD2⟩ := fr_join hP hD hk hF hP1 hD1
  exact kk r u H1 locs1 hp hP2 hD2 hS1
theorem nq_Sl {post : Int64 → va_W → Prop} (S : CallFix p m c cc nL s args Ts own) (hM : nq_l l D tys y ws fr mc ms lo As w post) (cw : CallB R s args own index y bytes maxL ret ws (mq_R fr mc ms lo) mc ms n ∧ (Cond.static y).before args s = true) (hP : va_P D vwCl (w ++ wr) H) (hK : va_K D vwCl tys s) (hD : va_D A (w ++ wr)) (hN : nst s) (hS : va_S A H0 H locs) (hA : ∀ q : Nat, H0.size ≤ q → A q) (hn : As.length = n) (hl : ls.size = nL) (hst : st0 = As.reverse ++ rest) (hW : (rest.map fun v => v.category).sum ≤ 8) (hdg : decode cc pc = .ok (.invokestatic index, 3)) (hf : cells + mc ≤ R.cells ∧ slots + ms ≤ R.slots)
    (kk : ∀ (r : Int64) (w' : va_W) (H1 : Heap) (locs1 : List Loc), post r w' → va_P D vwCl (w' ++ wr) H1 → va_D A (w' ++ wr) → va_S A H0 H1 locs1 → W p l e R s m args below meth c H1 locs1 (cells + mc) (slots + ms) Q (F0 m (pc + 3) ls (.long r :: rest))): W p l e R s m args below meth c H locs cells slots Q (F0 m pc ls st0) := by
  have hF := mq_free hD.left hS hA
  refine va_calll (va_runS (As := As) (rest := rest) S (hM H.size) cw (nq_preS hP.left hK hD.left hN) rfl hn hl hst (lv_room hW) hdg hf) hS (fun q _ h => hF q h) hF (fun r u t H1 locs1 ht hvm hp hB hz hk hS1 => ?_)
  obtain ⟨hP1, hK1, hD1⟩ := hB
  rw [ht] at hP1
  obtain ⟨hP2, hD2⟩ := fr_join hP hD hk hF hP1 hD1
  exact kk r u H1 locs1 hp hP2 hD2 hS1
theorem nq_SNl {post : Int64 → va_W → Prop} (S : CallFix p m c cc nL s args Ts own) (hM : nq_l l D tys y ws fr mc ms lo As w post) (cw : va_CN R s args own index y host bytes maxL ret ws (mq_R fr mc ms lo) mc ms n ∧ (Cond.static y).before args s = true ∧ True) (hP : va_P D vwCl (w ++ wr) H) (hK : va_K D vwCl tys s) (hD : va_D A (w ++ wr)) (hN : nst s) (hS : va_S A H0 H locs) (hA : ∀ q : Nat, H0.size ≤ q → A q) (hn : As.length = n) (hl : ls.size = nL) (hst : st0 = As.reverse ++ rest) (hW : (rest.map fun v => v.category).sum ≤ 8) (hdg : decode cc pc = .ok (.invokestatic index, 3)) (hf : cells + mc ≤ R.cells ∧ slots + ms ≤ R.slots)
    (kk : ∀ (r : Int64) (w' : va_W) (H1 : Heap) (locs1 : List Loc), post r w' → va_P D vwCl (w' ++ wr) H1 → va_D A (w' ++ wr) → va_S A H0 H1 locs1 → W p l e R s m args below meth c H1 locs1 (cells + mc) (slots + ms) Q (F0 m (pc + 3) ls (.long r :: rest))): W p l e R s m args below meth c H locs cells slots Q (F0 m pc ls st0) := by
  have hF := mq_free hD.left hS hA
  refine va_calll (va_runSN (As := As) (rest := rest) S (hM H.size) cw (nq_preS hP.left hK hD.left hN) rfl hn hl hst (lv_room hW) hdg hf) hS (fun q _ h => hF q h) hF (fun r u t H1 locs1 ht hvm hp hB hz hk hS1 => ?_)
  obtain ⟨hP1, hK1, hD1⟩ := hB
  rw [ht] at hP1
  obtain ⟨hP2, hD2⟩ := fr_join hP hD hk hF hP1 hD1
  exact kk r u H1 locs1 hp hP2 hD2 hS1
theorem nq_Vi {post : Int32 → va_W → Prop} {ci k0 N : Nat} {T : u_T} {fs : List Value} (S : CallFix p m c cc nL s args Ts own) (hM : nq_i l D tys y ws fr mc ms lo (.ref b :: As) w post) (cw : CallW R s args own C index y bytes maxL ret ws (mq_R fr mc ms lo) mc ms n) (hc : vwCl[ci]? = some (C, T, N)) (he : w[k0]? = some (b, .inr (ci, fs))) (hP : va_P D vwCl (w ++ wr) H) (hK : va_K D vwCl tys s) (hD : va_D A (w ++ wr)) (hN : nst s) (hS : va_S A H0 H locs) (hA : ∀ q : Nat, H0.size ≤ q → A q) (hn : As.length = n) (hl : ls.size = nL) (hst : st0 = As.reverse ++ .ref b :: rest) (hW : (rest.map fun v => v.category).sum ≤ 8) (hdg : decode cc pc = .ok (.invokevirtual index, 3)) (hf : cells + mc ≤ R.cells ∧ slots + ms ≤ R.slots)
    (kk : ∀ (r : Int32) (w' : va_W) (H1 : Heap) (locs1 : List Loc), post r w' → va_P D vwCl (w' ++ wr) H1 → va_D A (w' ++ wr) → va_S A H0 H1 locs1 → W p l e R s m args below meth c H1 locs1 (cells + mc) (slots + ms) Q (F0 m (pc + 3) ls (.int r :: rest))): W p l e R s m args below meth c H locs cells slots Q (F0 m pc ls st0) := by
  have hF := mq_free hD.left hS hA
  refine va_calli (va_runV (As := As) (rest := rest) S (hM H.size) cw (nq_preV hc he hP.left hK hD.left hN) rfl hn hl hst (lv_room hW) hdg hf) hS (fun q _ h => hF q h) hF (fun r u t H1 locs1 ht hvm hp hB hz hk hS1 => ?_)
  obtain ⟨hP1, hK1, hD1⟩ := hB
  rw [ht] at hP1
  obtain ⟨hP2, hD2⟩ := fr_join hP hD hk hF hP1 hD1
  exact kk r u H1 locs1 hp hP2 hD2 hS1
theorem nq_Si {post : Int32 → va_W → Prop} (S : CallFix p m c cc nL s args Ts own) (hM : nq_i l D tys y ws fr mc ms lo As w post) (cw : CallB R s args own index y bytes maxL ret ws (mq_R fr mc ms lo) mc ms n ∧ (Cond.static y).before args s = true) (hP : va_P D vwCl (w ++ wr) H) (hK : va_K D vwCl tys s) (hD : va_D A (w ++ wr)) (hN : nst s) (hS : va_S A H0 H locs) (hA : ∀ q : Nat, H0.size ≤ q → A q) (hn : As.length = n) (hl : ls.size = nL) (hst : st0 = As.reverse ++ rest) (hW : (rest.map fun v => v.category).sum ≤ 8) (hdg : decode cc pc = .ok (.invokestatic index, 3)) (hf : cells + mc ≤ R.cells ∧ slots + ms ≤ R.slots)
    (kk : ∀ (r : Int32) (w' : va_W) (H1 : Heap) (locs1 : List Loc), post r w' → va_P D vwCl (w' ++ wr) H1 → va_D A (w' ++ wr) → va_S A H0 H1 locs1 → W p l e R s m args below meth c H1 locs1 (cells + mc) (slots + ms) Q (F0 m (pc + 3) ls (.int r :: rest))): W p l e R s m args below meth c H locs cells slots Q (F0 m pc ls st0) := by
  have hF := mq_free hD.left hS hA
  refine va_calli (va_runS (As := As) (rest := rest) S (hM H.size) cw (nq_preS hP.left hK hD.left hN) rfl hn hl hst (lv_room hW) hdg hf) hS (fun q _ h => hF q h) hF (fun r u t H1 locs1 ht hvm hp hB hz hk hS1 => ?_)
  obtain ⟨hP1, hK1, hD1⟩ := hB
  rw [ht] at hP1
  obtain ⟨hP2, hD2⟩ := fr_join hP hD hk hF hP1 hD1
  exact kk r u H1 locs1 hp hP2 hD2 hS1
theorem nq_SNi {post : Int32 → va_W → Prop} (S : CallFix p m c cc nL s args Ts own) (hM : nq_i l D tys y ws fr mc ms lo As w post) (cw : va_CN R s args own index y host bytes maxL ret ws (mq_R fr mc ms lo) mc ms n ∧ (Cond.static y).before args s = true ∧ True) (hP : va_P D vwCl (w ++ wr) H) (hK : va_K D vwCl tys s) (hD : va_D A (w ++ wr)) (hN : nst s) (hS : va_S A H0 H locs) (hA : ∀ q : Nat, H0.size ≤ q → A q) (hn : As.length = n) (hl : ls.size = nL) (hst : st0 = As.reverse ++ rest) (hW : (rest.map fun v => v.category).sum ≤ 8) (hdg : decode cc pc = .ok (.invokestatic index, 3)) (hf : cells + mc ≤ R.cells ∧ slots + ms ≤ R.slots)
    (kk : ∀ (r : Int32) (w' : va_W) (H1 : Heap) (locs1 : List Loc), post r w' → va_P D vwCl (w' ++ wr) H1 → va_D A (w' ++ wr) → va_S A H0 H1 locs1 → W p l e R s m args below meth c H1 locs1 (cells + mc) (slots + ms) Q (F0 m (pc + 3) ls (.int r :: rest))): W p l e R s m args below meth c H locs cells slots Q (F0 m pc ls st0) := by
  have hF := mq_free hD.left hS hA
  refine va_calli (va_runSN (As := As) (rest := rest) S (hM H.size) cw (nq_preS hP.left hK hD.left hN) rfl hn hl hst (lv_room hW) hdg hf) hS (fun q _ h => hF q h) hF (fun r u t H1 locs1 ht hvm hp hB hz hk hS1 => ?_)
  obtain ⟨hP1, hK1, hD1⟩ := hB
  rw [ht] at hP1
  obtain ⟨hP2, hD2⟩ := fr_join hP hD hk hF hP1 hD1
  exact kk r u H1 locs1 hp hP2 hD2 hS1
theorem nq_Vv {post : va_W → Prop} {ci k0 N : Nat} {T : u_T} {fs : List Value} (S : CallFix p m c cc nL s args Ts own) (hM : nq_v l D tys y ws fr mc ms lo (.ref b :: As) w post) (cw : CallW R s args own C index y bytes maxL ret ws (mq_R fr mc ms lo) mc ms n) (hc : vwCl[ci]? = some (C, T, N)) (he : w[k0]? = some (b, .inr (ci, fs))) (hP : va_P D vwCl (w ++ wr) H) (hK : va_K D vwCl tys s) (hD : va_D A (w ++ wr)) (hN : nst s) (hS : va_S A H0 H locs) (hA : ∀ q : Nat, H0.size ≤ q → A q) (hn : As.length = n) (hl : ls.size = nL) (hst : st0 = As.reverse ++ .ref b :: rest) (hW : (rest.map fun v => v.category).sum ≤ 8) (hdg : decode cc pc = .ok (.invokevirtual index, 3)) (hf : cells + mc ≤ R.cells ∧ slots + ms ≤ R.slots)
    (kk : ∀ (w' : va_W) (H1 : Heap) (locs1 : List Loc), post w' → va_P D vwCl (w' ++ wr) H1 → va_D A (w' ++ wr) → va_S A H0 H1 locs1 → W p l e R s m args below meth c H1 locs1 (cells + mc) (slots + ms) Q (F0 m (pc + 3) ls (rest))): W p l e R s m args below meth c H locs cells slots Q (F0 m pc ls st0) := by
  have hF := mq_free hD.left hS hA
  refine va_callv (va_runV (As := As) (rest := rest) S (hM H.size) cw (nq_preV hc he hP.left hK hD.left hN) rfl hn hl hst (lv_room hW) hdg hf) hS (fun q _ h => hF q h) hF (fun u t H1 locs1 ht hvm hp hB hz hk hS1 => ?_)
  obtain ⟨hP1, hK1, hD1⟩ := hB
  rw [ht] at hP1
  obtain ⟨hP2, hD2⟩ := fr_join hP hD hk hF hP1 hD1
  exact kk u H1 locs1 hp hP2 hD2 hS1
theorem nq_Sv {post : va_W → Prop} (S : CallFix p m c cc nL s args Ts own) (hM : nq_v l D tys y ws fr mc ms lo As w post) (cw : CallB R s args own index y bytes maxL ret ws (mq_R fr mc ms lo) mc ms n ∧ (Cond.static y).before args s = true) (hP : va_P D vwCl (w ++ wr) H) (hK : va_K D vwCl tys s) (hD : va_D A (w ++ wr)) (hN : nst s) (hS : va_S A H0 H locs) (hA : ∀ q : Nat, H0.size ≤ q → A q) (hn : As.length = n) (hl : ls.size = nL) (hst : st0 = As.reverse ++ rest) (hW : (rest.map fun v => v.category).sum ≤ 8) (hdg : decode cc pc = .ok (.invokestatic index, 3)) (hf : cells + mc ≤ R.cells ∧ slots + ms ≤ R.slots)
    (kk : ∀ (w' : va_W) (H1 : Heap) (locs1 : List Loc), post w' → va_P D vwCl (w' ++ wr) H1 → va_D A (w' ++ wr) → va_S A H0 H1 locs1 → W p l e R s m args below meth c H1 locs1 (cells + mc) (slots + ms) Q (F0 m (pc + 3) ls (rest))): W p l e R s m args below meth c H locs cells slots Q (F0 m pc ls st0) := by
  have hF := mq_free hD.left hS hA
  refine va_callv (va_runS (As := As) (rest := rest) S (hM H.size) cw (nq_preS hP.left hK hD.left hN) rfl hn hl hst (lv_room hW) hdg hf) hS (fun q _ h => hF q h) hF (fun u t H1 locs1 ht hvm hp hB hz hk hS1 => ?_)
  obtain ⟨hP1, hK1, hD1⟩ := hB
  rw [ht] at hP1
  obtain ⟨hP2, hD2⟩ := fr_join hP hD hk hF hP1 hD1
  exact kk u H1 locs1 hp hP2 hD2 hS1
theorem nq_SNv {post : va_W → Prop} (S : CallFix p m c cc nL s args Ts own) (hM : nq_v l D tys y ws fr mc ms lo As w post) (cw : va_CN R s args own index y host bytes maxL ret ws (mq_R fr mc ms lo) mc ms n ∧ (Cond.static y).before args s = true ∧ True) (hP : va_P D vwCl (w ++ wr) H) (hK : va_K D vwCl tys s) (hD : va_D A (w ++ wr)) (hN : nst s) (hS : va_S A H0 H locs) (hA : ∀ q : Nat, H0.size ≤ q → A q) (hn : As.length = n) (hl : ls.size = nL) (hst : st0 = As.reverse ++ rest) (hW : (rest.map fun v => v.category).sum ≤ 8) (hdg : decode cc pc = .ok (.invokestatic index, 3)) (hf : cells + mc ≤ R.cells ∧ slots + ms ≤ R.slots)
    (kk : ∀ (w' : va_W) (H1 : Heap) (locs1 : List Loc), post w' → va_P D vwCl (w' ++ wr) H1 → va_D A (w' ++ wr) → va_S A H0 H1 locs1 → W p l e R s m args below meth c H1 locs1 (cells + mc) (slots + ms) Q (F0 m (pc + 3) ls (rest))): W p l e R s m args below meth c H locs cells slots Q (F0 m pc ls st0) := by
  have hF := mq_free hD.left hS hA
  refine va_callv (va_runSN (As := As) (rest := rest) S (hM H.size) cw (nq_preS hP.left hK hD.left hN) rfl hn hl hst (lv_room hW) hdg hf) hS (fun q _ h => hF q h) hF (fun u t H1 locs1 ht hvm hp hB hz hk hS1 => ?_)
  obtain ⟨hP1, hK1, hD1⟩ := hB
  rw [ht] at hP1
  obtain ⟨hP2, hD2⟩ := fr_join hP hD hk hF hP1 hD1
  exact kk u H1 locs1 hp hP2 hD2 hS1
theorem nq_Iv {post : va_W → Prop} (S : CallFix p m c cc nL s args Ts own) (hM : nq_v l D tys y ws fr mc ms lo (.ref b :: As) w post) (cw : CallB R s args own index y bytes maxL none ws (mq_R fr mc ms lo) mc ms n ∧ y.name = "<init>" ∧ (Cond.instanceMethod y).before args s = true) (hP : va_P D vwCl (w ++ wr) H) (hK : va_K D vwCl tys s) (hD : va_D A (w ++ wr)) (hN : nst s) (hS : va_S A H0 H locs) (hA : ∀ q : Nat, H0.size ≤ q → A q) (hn : As.length = n) (hl : ls.size = nL) (hst : st0 = As.reverse ++ .ref b :: rest) (hW : (rest.map fun v => v.category).sum ≤ 8) (hdg : decode cc pc = .ok (.invokespecial index, 3)) (hf : cells + mc ≤ R.cells ∧ slots + ms ≤ R.slots)
    (kk : ∀ (w' : va_W) (H1 : Heap) (locs1 : List Loc), post w' → va_P D vwCl (w' ++ wr) H1 → va_D A (w' ++ wr) → va_S A H0 H1 locs1 → W p l e R s m args below meth c H1 locs1 (cells + mc) (slots + ms) Q (F0 m (pc + 3) ls (rest))): W p l e R s m args below meth c H locs cells slots Q (F0 m pc ls st0) := by
  have hF := mq_free hD.left hS hA
  refine va_callv (va_runI (As := As) (rest := rest) S (hM H.size) cw (nq_preS hP.left hK hD.left hN) rfl hn hl hst (lv_room hW) hdg hf) hS (fun q _ h => hF q h) hF (fun u t H1 locs1 ht hvm hp hB hz hk hS1 => ?_)
  obtain ⟨hP1, hK1, hD1⟩ := hB
  rw [ht] at hP1
  obtain ⟨hP2, hD2⟩ := fr_join hP hD hk hF hP1 hD1
  exact kk u H1 locs1 hp hP2 hD2 hS1
theorem nq_INv {post : va_W → Prop} (S : CallFix p m c cc nL s args Ts own) (hM : nq_v l D tys y ws fr mc ms lo (.ref b :: As) w post) (cw : va_CN R s args own index y host bytes maxL none ws (mq_R fr mc ms lo) mc ms n ∧ y.name = "<init>" ∧ (Cond.instanceMethod y).before args s = true) (hP : va_P D vwCl (w ++ wr) H) (hK : va_K D vwCl tys s) (hD : va_D A (w ++ wr)) (hN : nst s) (hS : va_S A H0 H locs) (hA : ∀ q : Nat, H0.size ≤ q → A q) (hn : As.length = n) (hl : ls.size = nL) (hst : st0 = As.reverse ++ .ref b :: rest) (hW : (rest.map fun v => v.category).sum ≤ 8) (hdg : decode cc pc = .ok (.invokespecial index, 3)) (hf : cells + mc ≤ R.cells ∧ slots + ms ≤ R.slots)
    (kk : ∀ (w' : va_W) (H1 : Heap) (locs1 : List Loc), post w' → va_P D vwCl (w' ++ wr) H1 → va_D A (w' ++ wr) → va_S A H0 H1 locs1 → W p l e R s m args below meth c H1 locs1 (cells + mc) (slots + ms) Q (F0 m (pc + 3) ls (rest))): W p l e R s m args below meth c H locs cells slots Q (F0 m pc ls st0) := by
  have hF := mq_free hD.left hS hA
  refine va_callv (va_runIN (As := As) (rest := rest) S (hM H.size) cw (nq_preS hP.left hK hD.left hN) rfl hn hl hst (lv_room hW) hdg hf) hS (fun q _ h => hF q h) hF (fun u t H1 locs1 ht hvm hp hB hz hk hS1 => ?_)
  obtain ⟨hP1, hK1, hD1⟩ := hB
  rw [ht] at hP1
  obtain ⟨hP2, hD2⟩ := fr_join hP hD hk hF hP1 hD1
  exact kk u H1 locs1 hp hP2 hD2 hS1
theorem nq_Vr {post : Option Nat → va_W → Prop} {ci k0 N : Nat} {T : u_T} {fs : List Value} (S : CallFix p m c cc nL s args Ts own) (hM : nq_r l D tys y ws fr mc ms lo (.ref b :: As) w post) (cw : CallW R s args own C index y bytes maxL ret ws (mq_R fr mc ms lo) mc ms n) (hc : vwCl[ci]? = some (C, T, N)) (he : w[k0]? = some (b, .inr (ci, fs))) (hP : va_P D vwCl (w ++ wr) H) (hK : va_K D vwCl tys s) (hD : va_D A (w ++ wr)) (hN : nst s) (hS : va_S A H0 H locs) (hA : ∀ q : Nat, H0.size ≤ q → A q) (hn : As.length = n) (hl : ls.size = nL) (hst : st0 = As.reverse ++ .ref b :: rest) (hW : (rest.map fun v => v.category).sum ≤ 8) (hdg : decode cc pc = .ok (.invokevirtual index, 3)) (hf : cells + mc ≤ R.cells ∧ slots + ms ≤ R.slots)
    (kk : ∀ (r : Option Nat) (w' : va_W) (H1 : Heap) (locs1 : List Loc), post r w' → va_P D vwCl (w' ++ wr) H1 → va_D A (w' ++ wr) → va_S A H0 H1 locs1 → W p l e R s m args below meth c H1 locs1 (cells + mc) (slots + ms) Q (F0 m (pc + 3) ls (va_rf r :: rest))): W p l e R s m args below meth c H locs cells slots Q (F0 m pc ls st0) := by
  have hF := mq_free hD.left hS hA
  refine va_callq (va_runV (As := As) (rest := rest) S (hM H.size) cw (nq_preV hc he hP.left hK hD.left hN) rfl hn hl hst (lv_room hW) hdg hf) hS (fun q _ h => hF q h) hF (fun r u t H1 locs1 ht hvm hp hB hz hk hS1 => ?_)
  obtain ⟨hP1, hK1, hD1⟩ := hB
  rw [ht] at hP1
  obtain ⟨hP2, hD2⟩ := fr_join hP hD hk hF hP1 hD1
  exact kk r u H1 locs1 hp hP2 hD2 hS1
theorem nq_Sr {post : Option Nat → va_W → Prop} (S : CallFix p m c cc nL s args Ts own) (hM : nq_r l D tys y ws fr mc ms lo As w post) (cw : CallB R s args own index y bytes maxL ret ws (mq_R fr mc ms lo) mc ms n ∧ (Cond.static y).before args s = true) (hP : va_P D vwCl (w ++ wr) H) (hK : va_K D vwCl tys s) (hD : va_D A (w ++ wr)) (hN : nst s) (hS : va_S A H0 H locs) (hA : ∀ q : Nat, H0.size ≤ q → A q) (hn : As.length = n) (hl : ls.size = nL) (hst : st0 = As.reverse ++ rest) (hW : (rest.map fun v => v.category).sum ≤ 8) (hdg : decode cc pc = .ok (.invokestatic index, 3)) (hf : cells + mc ≤ R.cells ∧ slots + ms ≤ R.slots)
    (kk : ∀ (r : Option Nat) (w' : va_W) (H1 : Heap) (locs1 : List Loc), post r w' → va_P D vwCl (w' ++ wr) H1 → va_D A (w' ++ wr) → va_S A H0 H1 locs1 → W p l e R s m args below meth c H1 locs1 (cells + mc) (slots + ms) Q (F0 m (pc + 3) ls (va_rf r :: rest))): W p l e R s m args below meth c H locs cells slots Q (F0 m pc ls st0) := by
  have hF := mq_free hD.left hS hA
  refine va_callq (va_runS (As := As) (rest := rest) S (hM H.size) cw (nq_preS hP.left hK hD.left hN) rfl hn hl hst (lv_room hW) hdg hf) hS (fun q _ h => hF q h) hF (fun r u t H1 locs1 ht hvm hp hB hz hk hS1 => ?_)
  obtain ⟨hP1, hK1, hD1⟩ := hB
  rw [ht] at hP1
  obtain ⟨hP2, hD2⟩ := fr_join hP hD hk hF hP1 hD1
  exact kk r u H1 locs1 hp hP2 hD2 hS1
theorem nq_SNr {post : Option Nat → va_W → Prop} (S : CallFix p m c cc nL s args Ts own) (hM : nq_r l D tys y ws fr mc ms lo As w post) (cw : va_CN R s args own index y host bytes maxL ret ws (mq_R fr mc ms lo) mc ms n ∧ (Cond.static y).before args s = true ∧ True) (hP : va_P D vwCl (w ++ wr) H) (hK : va_K D vwCl tys s) (hD : va_D A (w ++ wr)) (hN : nst s) (hS : va_S A H0 H locs) (hA : ∀ q : Nat, H0.size ≤ q → A q) (hn : As.length = n) (hl : ls.size = nL) (hst : st0 = As.reverse ++ rest) (hW : (rest.map fun v => v.category).sum ≤ 8) (hdg : decode cc pc = .ok (.invokestatic index, 3)) (hf : cells + mc ≤ R.cells ∧ slots + ms ≤ R.slots)
    (kk : ∀ (r : Option Nat) (w' : va_W) (H1 : Heap) (locs1 : List Loc), post r w' → va_P D vwCl (w' ++ wr) H1 → va_D A (w' ++ wr) → va_S A H0 H1 locs1 → W p l e R s m args below meth c H1 locs1 (cells + mc) (slots + ms) Q (F0 m (pc + 3) ls (va_rf r :: rest))): W p l e R s m args below meth c H locs cells slots Q (F0 m pc ls st0) := by
  have hF := mq_free hD.left hS hA
  refine va_callq (va_runSN (As := As) (rest := rest) S (hM H.size) cw (nq_preS hP.left hK hD.left hN) rfl hn hl hst (lv_room hW) hdg hf) hS (fun q _ h => hF q h) hF (fun r u t H1 locs1 ht hvm hp hB hz hk hS1 => ?_)
  obtain ⟨hP1, hK1, hD1⟩ := hB
  rw [ht] at hP1
  obtain ⟨hP2, hD2⟩ := fr_join hP hD hk hF hP1 hD1
  exact kk r u H1 locs1 hp hP2 hD2 hS1
theorem nq_rret {post : Option Nat → va_W → Prop} {v : Option Nat} {w' : va_W} {rt : FieldType} (hx : p.tables.exec = Jvm.exec) (hb : c.code = cc) (hr : meth.sig.returnType = some rt) (hrt : (∃ n, rt = .object n) ∨ ∃ t, rt = .array t) (hlocks : meth.locks = false) (hq : post v w') (hP : va_P D vwCl w' H) (hK : va_K D vwCl tys s) (hD : va_D A w') (hS : va_S A s.heap H locs) (hdg : decode cc pc = .ok (.areturn, 1)) : W p l e R s m args below meth c H locs cells slots (MQ below (va_Qq post (mq_B D tys A) A) args s cells slots A) (F0 m pc ls [va_rf v]) :=
  W.aret (v := va_rf v) hx hb hr hrt (va_rf_or v) (fun t ht hW => ⟨⟨v, w', rfl, hq, by rw [ht]; exact hP, va_K.moved hW.alike hK, hD⟩, hS.F ht⟩) hS.2.2 hdg
end NQC
theorem nq_l_of {l : Launch} {D : va_G} {tys : List (ClassId × FieldType)} {y : MethodName} {ws ws' : List Cond} {fr mc ms lo : Nat} {av : List Value} {w : va_W} {post : Int64 → va_W → Prop} {cc : ByteArray} {maxL : Nat} (hy : plainName y.cls = true) (hw : ws = Cond.code y cc maxL (some .long) :: ws') (hn : (lg_sl av).length ≤ maxL)
    (body : ∀ (p : Program) (e : Env) (s : State) (m : MethodId) (args : Array Value) (below : List Frame) (meth : Method) (c : Code) (A : Nat → Prop) (Q : State → Prop) (ls : Array Slot), p.tables.exec = Jvm.exec → c.code = cc → (∀ w ∈ ws, w.before args s = true) → s.vm.findClass y.cls = some m.cls → c.maxLocals = maxL → meth.name = y.name → nst s → (∀ q : Nat, s.heap.size ≤ q → A q) → va_P D vwCl w s.heap → va_K D vwCl tys s → va_D A w → va_S A s.heap s.heap [] → lv_has ls maxL (lv_args 0 av) →
      (∀ (v : Int64) (w' : va_W) (H : Heap) (locs : List Loc) (pc : Nat) (ls : Array Slot), post v w' → va_P D vwCl w' H → va_D A w' → va_S A s.heap H locs → decode cc pc = .ok (.lreturn, 1) → W p l e (mq_R fr mc ms lo) s m args below meth c H locs mc ms Q (F0 m pc ls [.long v])) →
      W p l e (mq_R fr mc ms lo) s m args below meth c s.heap [] 0 0 Q (F0 m 0 ls [])) : nq_l l D tys y ws fr mc ms lo av w post :=
  nq_of hy hw hn (fun p e s m below meth c A ls hx hb hr hts hown hlocks hml hnm hN hA hP hK hD hS hl => body p e s m _ below meth c A _ ls hx hb hts hown hml hnm hN hA hP hK hD hS hl (fun v w' H locs pc ls hq hP hD hS hdg => mq_lret hx hb hr hlocks hq hP hK hD hS hdg))
theorem nq_i_of {l : Launch} {D : va_G} {tys : List (ClassId × FieldType)} {y : MethodName} {ws ws' : List Cond} {fr mc ms lo : Nat} {av : List Value} {w : va_W} {post : Int32 → va_W → Prop} {cc : ByteArray} {maxL : Nat} (hy : plainName y.cls = true) (hw : ws = Cond.code y cc maxL (some .int) :: ws') (hn : (lg_sl av).length ≤ maxL)
    (body : ∀ (p : Program) (e : Env) (s : State) (m : MethodId) (args : Array Value) (below : List Frame) (meth : Method) (c : Code) (A : Nat → Prop) (Q : State → Prop) (ls : Array Slot), p.tables.exec = Jvm.exec → c.code = cc → (∀ w ∈ ws, w.before args s = true) → s.vm.findClass y.cls = some m.cls → c.maxLocals = maxL → meth.name = y.name → nst s → (∀ q : Nat, s.heap.size ≤ q → A q) → va_P D vwCl w s.heap → va_K D vwCl tys s → va_D A w → va_S A s.heap s.heap [] → lv_has ls maxL (lv_args 0 av) →
      (∀ (v : Int32) (w' : va_W) (H : Heap) (locs : List Loc) (pc : Nat) (ls : Array Slot), post v w' → va_P D vwCl w' H → va_D A w' → va_S A s.heap H locs → decode cc pc = .ok (.ireturn, 1) → W p l e (mq_R fr mc ms lo) s m args below meth c H locs mc ms Q (F0 m pc ls [.int v])) →
      W p l e (mq_R fr mc ms lo) s m args below meth c s.heap [] 0 0 Q (F0 m 0 ls [])) : nq_i l D tys y ws fr mc ms lo av w post :=
  nq_of hy hw hn (fun p e s m below meth c A ls hx hb hr hts hown hlocks hml hnm hN hA hP hK hD hS hl => body p e s m _ below meth c A _ ls hx hb hts hown hml hnm hN hA hP hK hD hS hl (fun v w' H locs pc ls hq hP hD hS hdg => mq_iret hx hb hr hlocks hq hP hK hD hS hdg))
theorem nq_z_of {l : Launch} {D : va_G} {tys : List (ClassId × FieldType)} {y : MethodName} {ws ws' : List Cond} {fr mc ms lo : Nat} {av : List Value} {w : va_W} {post : Int32 → va_W → Prop} {cc : ByteArray} {maxL : Nat} (hy : plainName y.cls = true) (hw : ws = Cond.code y cc maxL (some .boolean) :: ws') (hn : (lg_sl av).length ≤ maxL)
    (body : ∀ (p : Program) (e : Env) (s : State) (m : MethodId) (args : Array Value) (below : List Frame) (meth : Method) (c : Code) (A : Nat → Prop) (Q : State → Prop) (ls : Array Slot), p.tables.exec = Jvm.exec → c.code = cc → (∀ w ∈ ws, w.before args s = true) → s.vm.findClass y.cls = some m.cls → c.maxLocals = maxL → meth.name = y.name → nst s → (∀ q : Nat, s.heap.size ≤ q → A q) → va_P D vwCl w s.heap → va_K D vwCl tys s → va_D A w → va_S A s.heap s.heap [] → lv_has ls maxL (lv_args 0 av) →
      (∀ (v : Int32) (w' : va_W) (H : Heap) (locs : List Loc) (pc : Nat) (ls : Array Slot), narrow .boolean (.int v) = .int v → post v w' → va_P D vwCl w' H → va_D A w' → va_S A s.heap H locs → decode cc pc = .ok (.ireturn, 1) → W p l e (mq_R fr mc ms lo) s m args below meth c H locs mc ms Q (F0 m pc ls [.int v])) →
      W p l e (mq_R fr mc ms lo) s m args below meth c s.heap [] 0 0 Q (F0 m 0 ls [])) : nq_i l D tys y ws fr mc ms lo av w post :=
  nq_of hy hw hn (fun p e s m below meth c A ls hx hb hr hts hown hlocks hml hnm hN hA hP hK hD hS hl => body p e s m _ below meth c A _ ls hx hb hts hown hml hnm hN hA hP hK hD hS hl (fun v w' H locs pc ls hn hq hP hD hS hdg => mq_zret hx hb hr hlocks hn hq hP hK hD hS hdg))
theorem nq_v_of {l : Launch} {D : va_G} {tys : List (ClassId × FieldType)} {y : MethodName} {ws ws' : List Cond} {fr mc ms lo : Nat} {av : List Value} {w : va_W} {post : va_W → Prop} {cc : ByteArray} {maxL : Nat} (hy : plainName y.cls = true) (hw : ws = Cond.code y cc maxL (none) :: ws') (hn : (lg_sl av).length ≤ maxL)
    (body : ∀ (p : Program) (e : Env) (s : State) (m : MethodId) (args : Array Value) (below : List Frame) (meth : Method) (c : Code) (A : Nat → Prop) (Q : State → Prop) (ls : Array Slot), p.tables.exec = Jvm.exec → c.code = cc → (∀ w ∈ ws, w.before args s = true) → s.vm.findClass y.cls = some m.cls → c.maxLocals = maxL → meth.name = y.name → nst s → (∀ q : Nat, s.heap.size ≤ q → A q) → va_P D vwCl w s.heap → va_K D vwCl tys s → va_D A w → va_S A s.heap s.heap [] → lv_has ls maxL (lv_args 0 av) →
      (∀ (w' : va_W) (H : Heap) (locs : List Loc) (pc : Nat) (ls : Array Slot), post w' → va_P D vwCl w' H → va_D A w' → va_S A s.heap H locs → decode cc pc = .ok (.return_, 1) → W p l e (mq_R fr mc ms lo) s m args below meth c H locs mc ms Q (F0 m pc ls [])) →
      W p l e (mq_R fr mc ms lo) s m args below meth c s.heap [] 0 0 Q (F0 m 0 ls [])) : nq_v l D tys y ws fr mc ms lo av w post :=
  nq_of hy hw hn (fun p e s m below meth c A ls hx hb hr hts hown hlocks hml hnm hN hA hP hK hD hS hl => body p e s m _ below meth c A _ ls hx hb hts hown hml hnm hN hA hP hK hD hS hl (fun w' H locs pc ls hq hP hD hS hdg => mq_vret hx hb hr hlocks hq hP hK hD hS hdg))
theorem nq_r_of {l : Launch} {D : va_G} {tys : List (ClassId × FieldType)} {y : MethodName} {ws ws' : List Cond} {fr mc ms lo : Nat} {av : List Value} {w : va_W} {post : Option Nat → va_W → Prop} {cc : ByteArray} {maxL : Nat} {rt : FieldType} (hy : plainName y.cls = true) (hw : ws = Cond.code y cc maxL (some rt) :: ws') (hrt : (∃ n, rt = .object n) ∨ ∃ t, rt = .array t) (hn : (lg_sl av).length ≤ maxL)
    (body : ∀ (p : Program) (e : Env) (s : State) (m : MethodId) (args : Array Value) (below : List Frame) (meth : Method) (c : Code) (A : Nat → Prop) (Q : State → Prop) (ls : Array Slot), p.tables.exec = Jvm.exec → c.code = cc → (∀ w ∈ ws, w.before args s = true) → s.vm.findClass y.cls = some m.cls → c.maxLocals = maxL → meth.name = y.name → nst s → (∀ q : Nat, s.heap.size ≤ q → A q) → va_P D vwCl w s.heap → va_K D vwCl tys s → va_D A w → va_S A s.heap s.heap [] → lv_has ls maxL (lv_args 0 av) →
      (∀ (v : Option Nat) (w' : va_W) (H : Heap) (locs : List Loc) (pc : Nat) (ls : Array Slot), post v w' → va_P D vwCl w' H → va_D A w' → va_S A s.heap H locs → decode cc pc = .ok (.areturn, 1) → W p l e (mq_R fr mc ms lo) s m args below meth c H locs mc ms Q (F0 m pc ls [va_rf v])) →
      W p l e (mq_R fr mc ms lo) s m args below meth c s.heap [] 0 0 Q (F0 m 0 ls [])) : nq_r l D tys y ws fr mc ms lo av w post :=
  nq_of hy hw hn (fun p e s m below meth c A ls hx hb hr hts hown hlocks hml hnm hN hA hP hK hD hS hl => body p e s m _ below meth c A _ ls hx hb hts hown hml hnm hN hA hP hK hD hS hl (fun v w' H locs pc ls hq hP hD hS hdg => nq_rret hx hb hr hrt hlocks hq hP hK hD hS hdg))
theorem va_P.perm {D : va_G} {cl : List vw_C} {w w' : va_W} {H : Heap} (h : va_P D cl w H) (e : w.Perm w') : va_P D cl w' H := fun k q hq => by
  have hm : q ∈ w := e.mem_iff.mpr (List.mem_of_getElem? hq)
  obtain ⟨i, hi⟩ := List.getElem?_of_mem hm
  exact h i q hi
theorem va_D.nd {A : Nat → Prop} {w : va_W} : va_D A w ↔ (w.map Prod.fst).Nodup ∧ ∀ q ∈ w, A q.1 := by
  constructor
  · intro h
    refine ⟨?_, fun q hq => ?_⟩
    · refine List.pairwise_iff_getElem.mpr ?_
      intro i j hi hj hij e
      rw [List.length_map] at hi hj
      rw [List.getElem_map, List.getElem_map] at e
      have := h.1 i j w[i] w[j] (List.getElem?_eq_getElem hi) (List.getElem?_eq_getElem hj) e
      omega
    · obtain ⟨i, hi⟩ := List.getElem?_of_mem hq
      exact h.2 i q hi
  · intro h
    refine ⟨fun i j p q hp hq e => ?_, fun k q hq => h.2 q (List.mem_of_getElem? hq)⟩
    have hn := List.pairwise_iff_getElem.mp h.1
    obtain ⟨hi, ei⟩ := List.getElem?_eq_some_iff.mp hp
    obtain ⟨hj, ej⟩ := List.getElem?_eq_some_iff.mp hq
    have hi2 : i < (w.map Prod.fst).length := by rw [List.length_map]; exact hi
    have hj2 : j < (w.map Prod.fst).length := by rw [List.length_map]; exact hj
    have e1 : (w.map Prod.fst)[i] = (w.map Prod.fst)[j] := by rw [List.getElem_map, List.getElem_map, ei, ej, e]
    rcases Nat.lt_trichotomy i j with g | g | g
    · exact absurd e1 (hn i j hi2 hj2 g)
    · exact g
    · exact absurd e1.symm (hn j i hj2 hi2 g)
theorem va_D.perm {A : Nat → Prop} {w w' : va_W} (h : va_D A w) (e : w.Perm w') : va_D A w' := by
  rw [va_D.nd] at h ⊢
  exact ⟨(e.map Prod.fst).nodup_iff.mp h.1, fun q hq => h.2 q (e.mem_iff.mpr hq)⟩
