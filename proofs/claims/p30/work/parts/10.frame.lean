/-! ===== the frame of a contract: a method over a world w comes to a world w' ===== -/
def mq_Pc (D : va_G) (tys : List (ClassId × FieldType)) (av : List Value) (w : va_W) (sz : Nat) : Array Value → State → Prop := va_Pc av (fun U => U.heap.size = sz ∧ va_P D vwCl w U.heap ∧ va_K D vwCl tys U ∧ va_D (fun _ => True) w)
def mq_B (D : va_G) (tys : List (ClassId × FieldType)) (A : Nat → Prop) (w : va_W) (t : State) : Prop := va_P D vwCl w t.heap ∧ va_K D vwCl tys t ∧ va_D A w
abbrev mq_R (fr mc ms lo : Nat) : Room := { frames := fr, cells := mc, slots := ms, locals := lo }
/-- a method's contract over a world; QQ says what it answers -/
def mq (l : Launch) (D : va_G) (tys : List (ClassId × FieldType)) (y : MethodName) (ws : List Cond) (fr mc ms lo : Nat) (av : List Value) (w : va_W) (QQ : (va_W → State → Prop) → (Nat → Prop) → Array Value → State → Outcome → State → Prop) : Prop :=
  ∀ sz : Nat, Met l y ws (mq_R fr mc ms lo) (mq_Pc D tys av w sz) (QQ (mq_B D tys (va_A w sz)) (va_A w sz)) mc ms (va_A w sz)
abbrev mq_l (l : Launch) (D : va_G) (tys : List (ClassId × FieldType)) (y : MethodName) (ws : List Cond) (fr mc ms lo : Nat) (av : List Value) (w : va_W) (post : Int64 → va_W → Prop) : Prop := mq l D tys y ws fr mc ms lo av w (fun B A => va_Ql post B A)
abbrev mq_i (l : Launch) (D : va_G) (tys : List (ClassId × FieldType)) (y : MethodName) (ws : List Cond) (fr mc ms lo : Nat) (av : List Value) (w : va_W) (post : Int32 → va_W → Prop) : Prop := mq l D tys y ws fr mc ms lo av w (fun B A => va_Qi post B A)
abbrev mq_v (l : Launch) (D : va_G) (tys : List (ClassId × FieldType)) (y : MethodName) (ws : List Cond) (fr mc ms lo : Nat) (av : List Value) (w : va_W) (post : va_W → Prop) : Prop := mq l D tys y ws fr mc ms lo av w (fun B A => va_Qv post B A)
set_option maxHeartbeats 1000000 in
theorem mq_of {l : Launch} {D : va_G} {tys : List (ClassId × FieldType)} {y : MethodName} {ws ws' : List Cond} {fr mc ms lo : Nat} {av : List Value} {w : va_W} {QQ : (va_W → State → Prop) → (Nat → Prop) → Array Value → State → Outcome → State → Prop} {cc : ByteArray} {maxL : Nat} {ret : Option FieldType} (hy : plainName y.cls = true) (hw : ws = Cond.code y cc maxL ret :: ws') (hn : (lg_sl av).length ≤ maxL)
    (body : ∀ (p : Program) (e : Env) (s : State) (m : MethodId) (below : List Frame) (meth : Method) (c : Code) (A : Nat → Prop) (ls : Array Slot), p.tables.exec = Jvm.exec → c.code = cc → meth.sig.returnType = ret → (∀ w ∈ ws, w.before av.toArray s = true) → s.vm.findClass y.cls = some m.cls → meth.locks = false → c.maxLocals = maxL → meth.name = y.name → (∀ q : Nat, s.heap.size ≤ q → A q) → va_P D vwCl w s.heap → va_K D vwCl tys s → va_D A w → va_S A s.heap s.heap [] → lv_has ls maxL (lv_args 0 av) → W p l e (mq_R fr mc ms lo) s m av.toArray below meth c s.heap [] 0 0 (MQ below (QQ (mq_B D tys A) A) av.toArray s mc ms A) (F0 m 0 ls [])) : mq l D tys y ws fr mc ms lo av w QQ := by
  intro sz
  refine Met.ofW (cc := cc) (maxL := maxL) (ret := ret) hy hw ?_
  intro p e s m args below meth c s₁ B hml hv
  obtain ⟨rfl, hsz, hP, hK, hD0⟩ := hv
  subst hsz
  rw [lg_entry_eq]
  exact body p e s m below meth c (va_A w s.heap.size) _ B.exec B.bytes B.returns (atoms_spec (ws := ws) B.pre) (findClass_of_methodNamed B.named) B.notSynchronized hml ((name_of_methodNamed B.named B.method).1) (fun q h => Or.inr h) hP hK hD0.self va_S.rf (lv_entry av (n := maxL) hn)
section MQC
variable {p : Program} {l : Launch} {e : Env} {R : Room} {s : State} {m : MethodId} {args : Array Value} {below : List Frame} {meth : Method} {c : Code} {H : Heap} {locs : List Loc} {cells slots : Nat} {Q : State → Prop}
variable {D : va_G} {tys : List (ClassId × FieldType)} {y : MethodName} {bytes cc : ByteArray} {maxL nL mc ms n index fr lo : Nat} {ret : Option FieldType} {ws : List Cond} {Ts : List Cond} {own C : String} {b : Addr} {As rest st0 : List Value} {pc : Nat} {ls : Array Slot} {A : Nat → Prop} {H0 : Heap} {w : va_W}
theorem mq_blind (D : va_G) (tys : List (ClassId × FieldType)) (av : List Value) (w : va_W) (sz : Nat) : FrameBlind (mq_Pc D tys av w sz) := fun a U g mk q => by
  obtain ⟨q0, q1, qP, qK, qD⟩ := q
  exact ⟨q0, q1, qP, va_K.moved (u := U) (U := U.calling g mk a) (Vm.Alike.refl U.vm) qK, qD⟩
theorem mq_preS {av : List Value} (hP : va_P D vwCl w H) (hK : va_K D vwCl tys s) (hD : va_D A w) : PreS s H (mq_Pc D tys av w H.size) av :=
  ⟨mq_blind D tys av w H.size, fun U hU hW => ⟨rfl, by rw [hU], by rw [hU]; exact hP, va_K.moved hW.alike hK, hD.weaken (fun _ _ _ _ => trivial)⟩⟩
theorem mq_preV {ci k0 N : Nat} {T : u_T} {fs : List Value} (hc : vwCl[ci]? = some (C, T, N)) (he : w[k0]? = some (b, .inr (ci, fs))) (hP : va_P D vwCl w H) (hK : va_K D vwCl tys s) (hD : va_D A w) : PreV s H C b (mq_Pc D tys (.ref b :: As) w H.size) As :=
  ⟨mq_blind D tys (.ref b :: As) w H.size, va_recv hK hP hc he, fun U hU hW => ⟨rfl, by rw [hU], by rw [hU]; exact hP, va_K.moved hW.alike hK, hD.weaken (fun _ _ _ _ => trivial)⟩⟩
theorem mq_free (hD : va_D A w) (hS : va_S A H0 H locs) (hA : ∀ q : Nat, H0.size ≤ q → A q) : ∀ q : Nat, va_A w H.size q → A q := by
  intro q h
  rcases h with ⟨k, e, h⟩ | h
  · exact hD.2 k (q, e) h
  · exact hA q (Nat.le_trans hS.1 h)
/-- what stands behind a call whose world is the whole world of the caller -/
theorem mq_back {w' : va_W} {t : State} {H1 : Heap} (hF : ∀ q : Nat, va_A w H.size q → A q) (ht : t.heap = H1) (hB : mq_B D tys (va_A w H.size) w' t) : va_P D vwCl w' H1 ∧ va_D A w' := by
  obtain ⟨hP1, hK1, hD1⟩ := hB
  rw [ht] at hP1
  exact ⟨hP1, hD1.weaken (fun _ q _ h => hF q.1 h)⟩
theorem mq_Vl {post : Int64 → va_W → Prop} {ci k0 N : Nat} {T : u_T} {fs : List Value} (S : CallFix p m c cc nL s args Ts own) (hM : mq_l l D tys y ws fr mc ms lo (.ref b :: As) w post) (cw : CallW R s args own C index y bytes maxL ret ws (mq_R fr mc ms lo) mc ms n) (hc : vwCl[ci]? = some (C, T, N)) (he : w[k0]? = some (b, .inr (ci, fs))) (hP : va_P D vwCl w H) (hK : va_K D vwCl tys s) (hD : va_D A w) (hS : va_S A H0 H locs) (hA : ∀ q : Nat, H0.size ≤ q → A q) (hn : As.length = n) (hl : ls.size = nL) (hst : st0 = As.reverse ++ .ref b :: rest) (hW : (rest.map fun v => v.category).sum ≤ 8) (hdg : decode cc pc = .ok (.invokevirtual index, 3)) (hf : cells + mc ≤ R.cells ∧ slots + ms ≤ R.slots)
    (kk : ∀ (r : Int64) (w' : va_W) (H1 : Heap) (locs1 : List Loc), post r w' → va_P D vwCl w' H1 → va_D A w' → va_S A H0 H1 locs1 → W p l e R s m args below meth c H1 locs1 (cells + mc) (slots + ms) Q (F0 m (pc + 3) ls (.long r :: rest))) : W p l e R s m args below meth c H locs cells slots Q (F0 m pc ls st0) := by
  have hF := mq_free hD hS hA
  refine va_calll (va_runV (As := As) (rest := rest) S (hM H.size) cw (mq_preV hc he hP hK hD) rfl hn hl hst (lv_room hW) hdg hf) hS (fun q _ h => hF q h) hF (fun r u t H1 locs1 ht hvm hp hB hz hk hS1 => ?_)
  obtain ⟨hP1, hD1⟩ := mq_back hF ht hB
  exact kk r u H1 locs1 hp hP1 hD1 hS1
theorem mq_Vi {post : Int32 → va_W → Prop} {ci k0 N : Nat} {T : u_T} {fs : List Value} (S : CallFix p m c cc nL s args Ts own) (hM : mq_i l D tys y ws fr mc ms lo (.ref b :: As) w post) (cw : CallW R s args own C index y bytes maxL ret ws (mq_R fr mc ms lo) mc ms n) (hc : vwCl[ci]? = some (C, T, N)) (he : w[k0]? = some (b, .inr (ci, fs))) (hP : va_P D vwCl w H) (hK : va_K D vwCl tys s) (hD : va_D A w) (hS : va_S A H0 H locs) (hA : ∀ q : Nat, H0.size ≤ q → A q) (hn : As.length = n) (hl : ls.size = nL) (hst : st0 = As.reverse ++ .ref b :: rest) (hW : (rest.map fun v => v.category).sum ≤ 8) (hdg : decode cc pc = .ok (.invokevirtual index, 3)) (hf : cells + mc ≤ R.cells ∧ slots + ms ≤ R.slots)
    (kk : ∀ (r : Int32) (w' : va_W) (H1 : Heap) (locs1 : List Loc), post r w' → va_P D vwCl w' H1 → va_D A w' → va_S A H0 H1 locs1 → W p l e R s m args below meth c H1 locs1 (cells + mc) (slots + ms) Q (F0 m (pc + 3) ls (.int r :: rest))) : W p l e R s m args below meth c H locs cells slots Q (F0 m pc ls st0) := by
  have hF := mq_free hD hS hA
  refine va_calli (va_runV (As := As) (rest := rest) S (hM H.size) cw (mq_preV hc he hP hK hD) rfl hn hl hst (lv_room hW) hdg hf) hS (fun q _ h => hF q h) hF (fun r u t H1 locs1 ht hvm hp hB hz hk hS1 => ?_)
  obtain ⟨hP1, hD1⟩ := mq_back hF ht hB
  exact kk r u H1 locs1 hp hP1 hD1 hS1
theorem mq_Vv {post : va_W → Prop} {ci k0 N : Nat} {T : u_T} {fs : List Value} (S : CallFix p m c cc nL s args Ts own) (hM : mq_v l D tys y ws fr mc ms lo (.ref b :: As) w post) (cw : CallW R s args own C index y bytes maxL ret ws (mq_R fr mc ms lo) mc ms n) (hc : vwCl[ci]? = some (C, T, N)) (he : w[k0]? = some (b, .inr (ci, fs))) (hP : va_P D vwCl w H) (hK : va_K D vwCl tys s) (hD : va_D A w) (hS : va_S A H0 H locs) (hA : ∀ q : Nat, H0.size ≤ q → A q) (hn : As.length = n) (hl : ls.size = nL) (hst : st0 = As.reverse ++ .ref b :: rest) (hW : (rest.map fun v => v.category).sum ≤ 8) (hdg : decode cc pc = .ok (.invokevirtual index, 3)) (hf : cells + mc ≤ R.cells ∧ slots + ms ≤ R.slots)
    (kk : ∀ (w' : va_W) (H1 : Heap) (locs1 : List Loc), post w' → va_P D vwCl w' H1 → va_D A w' → va_S A H0 H1 locs1 → W p l e R s m args below meth c H1 locs1 (cells + mc) (slots + ms) Q (F0 m (pc + 3) ls rest)) : W p l e R s m args below meth c H locs cells slots Q (F0 m pc ls st0) := by
  have hF := mq_free hD hS hA
  refine va_callv (va_runV (As := As) (rest := rest) S (hM H.size) cw (mq_preV hc he hP hK hD) rfl hn hl hst (lv_room hW) hdg hf) hS (fun q _ h => hF q h) hF (fun u t H1 locs1 ht hvm hp hB hz hk hS1 => ?_)
  obtain ⟨hP1, hD1⟩ := mq_back hF ht hB
  exact kk u H1 locs1 hp hP1 hD1 hS1
/-- a static method over no cells: the caller's world stays -/
def mq_keep {w0 : va_W} {H1 : Heap} (hP : va_P D vwCl w H) (hw : w0 = []) (hk : ∀ q : Nat, q < H.size → ¬ va_A w0 H.size q → H1[q]? = H[q]?) : va_P D vwCl w H1 := hP.kept (fun k q hq => hk q.1 (hP k q hq).lt (fun h => by
  subst hw
  rcases h with ⟨k2, e, h⟩ | h
  · simp at h
  · exact absurd (hP k q hq).lt (Nat.not_lt.mpr h)))
theorem mq_nil (H : Heap) : va_P D vwCl [] H := fun k q h => by simp at h
theorem mq_nilD (A : Nat → Prop) : va_D A [] := ⟨fun i j p q h => by simp at h, fun k q h => by simp at h⟩
theorem mq_Si {post : Int32 → va_W → Prop} (S : CallFix p m c cc nL s args Ts own) (hM : mq_i l D tys y ws fr 0 0 lo As [] post) (cw : CallB R s args own index y bytes maxL ret ws (mq_R fr 0 0 lo) 0 0 n ∧ (Cond.static y).before args s = true) (hP : va_P D vwCl w H) (hK : va_K D vwCl tys s) (hS : va_S A H0 H locs) (hA : ∀ q : Nat, H0.size ≤ q → A q) (hn : As.length = n) (hl : ls.size = nL) (hst : st0 = As.reverse ++ rest) (hW : (rest.map fun v => v.category).sum ≤ 8) (hdg : decode cc pc = .ok (.invokestatic index, 3)) (hf : cells ≤ R.cells ∧ slots ≤ R.slots)
    (kk : ∀ (r : Int32) (w' : va_W) (H1 : Heap) (locs1 : List Loc), post r w' → va_P D vwCl w H1 → va_S A H0 H1 locs1 → W p l e R s m args below meth c H1 locs1 cells slots Q (F0 m (pc + 3) ls (.int r :: rest))) : W p l e R s m args below meth c H locs cells slots Q (F0 m pc ls st0) := by
  have hF := mq_free (w := []) (mq_nilD A) hS hA
  refine va_calli (va_runS (As := As) (rest := rest) S (hM H.size) cw (mq_preS (A := A) (mq_nil H) hK (mq_nilD A)) rfl hn hl hst (lv_room hW) hdg hf) hS (fun q _ h => hF q h) hF (fun r u t H1 locs1 ht hvm hp hB hz hk hS1 => ?_)
  exact kk r u H1 locs1 hp (mq_keep hP rfl hk) hS1
theorem mq_Sl {post : Int64 → va_W → Prop} (S : CallFix p m c cc nL s args Ts own) (hM : mq_l l D tys y ws fr 0 0 lo As [] post) (cw : CallB R s args own index y bytes maxL ret ws (mq_R fr 0 0 lo) 0 0 n ∧ (Cond.static y).before args s = true) (hP : va_P D vwCl w H) (hK : va_K D vwCl tys s) (hS : va_S A H0 H locs) (hA : ∀ q : Nat, H0.size ≤ q → A q) (hn : As.length = n) (hl : ls.size = nL) (hst : st0 = As.reverse ++ rest) (hW : (rest.map fun v => v.category).sum ≤ 8) (hdg : decode cc pc = .ok (.invokestatic index, 3)) (hf : cells ≤ R.cells ∧ slots ≤ R.slots)
    (kk : ∀ (r : Int64) (w' : va_W) (H1 : Heap) (locs1 : List Loc), post r w' → va_P D vwCl w H1 → va_S A H0 H1 locs1 → W p l e R s m args below meth c H1 locs1 cells slots Q (F0 m (pc + 3) ls (.long r :: rest))) : W p l e R s m args below meth c H locs cells slots Q (F0 m pc ls st0) := by
  have hF := mq_free (w := []) (mq_nilD A) hS hA
  refine va_calll (va_runS (As := As) (rest := rest) S (hM H.size) cw (mq_preS (A := A) (mq_nil H) hK (mq_nilD A)) rfl hn hl hst (lv_room hW) hdg hf) hS (fun q _ h => hF q h) hF (fun r u t H1 locs1 ht hvm hp hB hz hk hS1 => ?_)
  exact kk r u H1 locs1 hp (mq_keep hP rfl hk) hS1
/-- the ends of a method -/
theorem mq_lret {post : Int64 → va_W → Prop} {v : Int64} {w' : va_W} (hx : p.tables.exec = Jvm.exec) (hb : c.code = cc) (hr : meth.sig.returnType = some .long) (hlocks : meth.locks = false) (hq : post v w') (hP : va_P D vwCl w' H) (hK : va_K D vwCl tys s) (hD : va_D A w') (hS : va_S A s.heap H locs) (hdg : decode cc pc = .ok (.lreturn, 1)) : W p l e R s m args below meth c H locs cells slots (MQ below (va_Ql post (mq_B D tys A) A) args s cells slots A) (F0 m pc ls [.long v]) :=
  W.lret (v := v) hx hb hr (fun t ht hW => ⟨⟨v, w', rfl, hq, by rw [ht]; exact hP, va_K.moved hW.alike hK, hD⟩, hS.F ht⟩) hS.2.2 hdg
theorem mq_iret {post : Int32 → va_W → Prop} {v : Int32} {w' : va_W} (hx : p.tables.exec = Jvm.exec) (hb : c.code = cc) (hr : meth.sig.returnType = some .int) (hlocks : meth.locks = false) (hq : post v w') (hP : va_P D vwCl w' H) (hK : va_K D vwCl tys s) (hD : va_D A w') (hS : va_S A s.heap H locs) (hdg : decode cc pc = .ok (.ireturn, 1)) : W p l e R s m args below meth c H locs cells slots (MQ below (va_Qi post (mq_B D tys A) A) args s cells slots A) (F0 m pc ls [.int v]) :=
  W.iret (v := v) hx hb hr (fun t ht hW => ⟨⟨v, w', rfl, hq, by rw [ht]; exact hP, va_K.moved hW.alike hK, hD⟩, hS.F ht⟩) hS.2.2 hdg
theorem mq_zret {post : Int32 → va_W → Prop} {v : Int32} {w' : va_W} (hx : p.tables.exec = Jvm.exec) (hb : c.code = cc) (hr : meth.sig.returnType = some .boolean) (hlocks : meth.locks = false) (hn : narrow .boolean (.int v) = .int v) (hq : post v w') (hP : va_P D vwCl w' H) (hK : va_K D vwCl tys s) (hD : va_D A w') (hS : va_S A s.heap H locs) (hdg : decode cc pc = .ok (.ireturn, 1)) : W p l e R s m args below meth c H locs cells slots (MQ below (va_Qi post (mq_B D tys A) A) args s cells slots A) (F0 m pc ls [.int v]) :=
  W.zret (v := v) hx hb hr hn (fun t ht hW => ⟨⟨v, w', rfl, hq, by rw [ht]; exact hP, va_K.moved hW.alike hK, hD⟩, hS.F ht⟩) hS.2.2 hdg
theorem mq_vret {post : va_W → Prop} {w' : va_W} (hx : p.tables.exec = Jvm.exec) (hb : c.code = cc) (hr : meth.sig.returnType = none) (hlocks : meth.locks = false) (hq : post w') (hP : va_P D vwCl w' H) (hK : va_K D vwCl tys s) (hD : va_D A w') (hS : va_S A s.heap H locs) (hdg : decode cc pc = .ok (.return_, 1)) : W p l e R s m args below meth c H locs cells slots (MQ below (va_Qv post (mq_B D tys A) A) args s cells slots A) (F0 m pc ls []) :=
  W.vret hx hb hr (fun t ht hW => ⟨⟨w', rfl, hq, by rw [ht]; exact hP, va_K.moved hW.alike hK, hD⟩, hS.F ht⟩) hS.2.2 hdg
end MQC
/-- the entry of a method: the machine at its first instruction, any end Q that its own end reaches -/
theorem mq_l_of {l : Launch} {D : va_G} {tys : List (ClassId × FieldType)} {y : MethodName} {ws ws' : List Cond} {fr mc ms lo : Nat} {av : List Value} {w : va_W} {post : Int64 → va_W → Prop} {cc : ByteArray} {maxL : Nat} (hy : plainName y.cls = true) (hw : ws = Cond.code y cc maxL (some .long) :: ws') (hn : (lg_sl av).length ≤ maxL)
    (body : ∀ (p : Program) (e : Env) (s : State) (m : MethodId) (args : Array Value) (below : List Frame) (meth : Method) (c : Code) (A : Nat → Prop) (Q : State → Prop) (ls : Array Slot), p.tables.exec = Jvm.exec → c.code = cc → (∀ w ∈ ws, w.before args s = true) → s.vm.findClass y.cls = some m.cls → c.maxLocals = maxL → meth.name = y.name → (∀ q : Nat, s.heap.size ≤ q → A q) → va_P D vwCl w s.heap → va_K D vwCl tys s → va_D A w → va_S A s.heap s.heap [] → lv_has ls maxL (lv_args 0 av) →
      (∀ (v : Int64) (w' : va_W) (H : Heap) (locs : List Loc) (pc : Nat) (ls : Array Slot), post v w' → va_P D vwCl w' H → va_D A w' → va_S A s.heap H locs → decode cc pc = .ok (.lreturn, 1) → W p l e (mq_R fr mc ms lo) s m args below meth c H locs mc ms Q (F0 m pc ls [.long v])) →
      W p l e (mq_R fr mc ms lo) s m args below meth c s.heap [] 0 0 Q (F0 m 0 ls [])) : mq_l l D tys y ws fr mc ms lo av w post :=
  mq_of hy hw hn (fun p e s m below meth c A ls hx hb hr hts hown hlocks hml hnm hA hP hK hD hS hl => body p e s m _ below meth c A _ ls hx hb hts hown hml hnm hA hP hK hD hS hl (fun v w' H locs pc ls hq hP hD hS hdg => mq_lret hx hb hr hlocks hq hP hK hD hS hdg))
theorem mq_i_of {l : Launch} {D : va_G} {tys : List (ClassId × FieldType)} {y : MethodName} {ws ws' : List Cond} {fr mc ms lo : Nat} {av : List Value} {w : va_W} {post : Int32 → va_W → Prop} {cc : ByteArray} {maxL : Nat} (hy : plainName y.cls = true) (hw : ws = Cond.code y cc maxL (some .int) :: ws') (hn : (lg_sl av).length ≤ maxL)
    (body : ∀ (p : Program) (e : Env) (s : State) (m : MethodId) (args : Array Value) (below : List Frame) (meth : Method) (c : Code) (A : Nat → Prop) (Q : State → Prop) (ls : Array Slot), p.tables.exec = Jvm.exec → c.code = cc → (∀ w ∈ ws, w.before args s = true) → s.vm.findClass y.cls = some m.cls → c.maxLocals = maxL → meth.name = y.name → (∀ q : Nat, s.heap.size ≤ q → A q) → va_P D vwCl w s.heap → va_K D vwCl tys s → va_D A w → va_S A s.heap s.heap [] → lv_has ls maxL (lv_args 0 av) →
      (∀ (v : Int32) (w' : va_W) (H : Heap) (locs : List Loc) (pc : Nat) (ls : Array Slot), post v w' → va_P D vwCl w' H → va_D A w' → va_S A s.heap H locs → decode cc pc = .ok (.ireturn, 1) → W p l e (mq_R fr mc ms lo) s m args below meth c H locs mc ms Q (F0 m pc ls [.int v])) →
      W p l e (mq_R fr mc ms lo) s m args below meth c s.heap [] 0 0 Q (F0 m 0 ls [])) : mq_i l D tys y ws fr mc ms lo av w post :=
  mq_of hy hw hn (fun p e s m below meth c A ls hx hb hr hts hown hlocks hml hnm hA hP hK hD hS hl => body p e s m _ below meth c A _ ls hx hb hts hown hml hnm hA hP hK hD hS hl (fun v w' H locs pc ls hq hP hD hS hdg => mq_iret hx hb hr hlocks hq hP hK hD hS hdg))
theorem mq_z_of {l : Launch} {D : va_G} {tys : List (ClassId × FieldType)} {y : MethodName} {ws ws' : List Cond} {fr mc ms lo : Nat} {av : List Value} {w : va_W} {post : Int32 → va_W → Prop} {cc : ByteArray} {maxL : Nat} (hy : plainName y.cls = true) (hw : ws = Cond.code y cc maxL (some .boolean) :: ws') (hn : (lg_sl av).length ≤ maxL)
    (body : ∀ (p : Program) (e : Env) (s : State) (m : MethodId) (args : Array Value) (below : List Frame) (meth : Method) (c : Code) (A : Nat → Prop) (Q : State → Prop) (ls : Array Slot), p.tables.exec = Jvm.exec → c.code = cc → (∀ w ∈ ws, w.before args s = true) → s.vm.findClass y.cls = some m.cls → c.maxLocals = maxL → meth.name = y.name → (∀ q : Nat, s.heap.size ≤ q → A q) → va_P D vwCl w s.heap → va_K D vwCl tys s → va_D A w → va_S A s.heap s.heap [] → lv_has ls maxL (lv_args 0 av) →
      (∀ (v : Int32) (w' : va_W) (H : Heap) (locs : List Loc) (pc : Nat) (ls : Array Slot), narrow .boolean (.int v) = .int v → post v w' → va_P D vwCl w' H → va_D A w' → va_S A s.heap H locs → decode cc pc = .ok (.ireturn, 1) → W p l e (mq_R fr mc ms lo) s m args below meth c H locs mc ms Q (F0 m pc ls [.int v])) →
      W p l e (mq_R fr mc ms lo) s m args below meth c s.heap [] 0 0 Q (F0 m 0 ls [])) : mq_i l D tys y ws fr mc ms lo av w post :=
  mq_of hy hw hn (fun p e s m below meth c A ls hx hb hr hts hown hlocks hml hnm hA hP hK hD hS hl => body p e s m _ below meth c A _ ls hx hb hts hown hml hnm hA hP hK hD hS hl (fun v w' H locs pc ls hn hq hP hD hS hdg => mq_zret hx hb hr hlocks hn hq hP hK hD hS hdg))
theorem mq_v_of {l : Launch} {D : va_G} {tys : List (ClassId × FieldType)} {y : MethodName} {ws ws' : List Cond} {fr mc ms lo : Nat} {av : List Value} {w : va_W} {post : va_W → Prop} {cc : ByteArray} {maxL : Nat} (hy : plainName y.cls = true) (hw : ws = Cond.code y cc maxL (none) :: ws') (hn : (lg_sl av).length ≤ maxL)
    (body : ∀ (p : Program) (e : Env) (s : State) (m : MethodId) (args : Array Value) (below : List Frame) (meth : Method) (c : Code) (A : Nat → Prop) (Q : State → Prop) (ls : Array Slot), p.tables.exec = Jvm.exec → c.code = cc → (∀ w ∈ ws, w.before args s = true) → s.vm.findClass y.cls = some m.cls → c.maxLocals = maxL → meth.name = y.name → (∀ q : Nat, s.heap.size ≤ q → A q) → va_P D vwCl w s.heap → va_K D vwCl tys s → va_D A w → va_S A s.heap s.heap [] → lv_has ls maxL (lv_args 0 av) →
      (∀ (w' : va_W) (H : Heap) (locs : List Loc) (pc : Nat) (ls : Array Slot), post w' → va_P D vwCl w' H → va_D A w' → va_S A s.heap H locs → decode cc pc = .ok (.return_, 1) → W p l e (mq_R fr mc ms lo) s m args below meth c H locs mc ms Q (F0 m pc ls [])) →
      W p l e (mq_R fr mc ms lo) s m args below meth c s.heap [] 0 0 Q (F0 m 0 ls [])) : mq_v l D tys y ws fr mc ms lo av w post :=
  mq_of hy hw hn (fun p e s m below meth c A ls hx hb hr hts hown hlocks hml hnm hA hP hK hD hS hl => body p e s m _ below meth c A _ ls hx hb hts hown hml hnm hA hP hK hD hS hl (fun w' H locs pc ls hq hP hD hS hdg => mq_vret hx hb hr hlocks hq hP hK hD hS hdg))
