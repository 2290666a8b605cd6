section AC
variable {p : Program} {l : Launch} {e : Env} {R : Room} {s : State} {m : MethodId} {args : Array Value} {below : List Frame} {meth : Method} {c : Code} {H : Heap} {locs : List Loc} {cells slots : Nat} {Q : State → Prop}
variable {pc : Nat} {ls : Array Slot} {rest : List Value} {D : va_G} {cl : List vw_C} {tys : List (ClassId × FieldType)} {ws : va_W} {a : Nat} {A : Nat → Prop} {H0 : Heap}
theorem lc_copy {cc : ByteArray} (hx : p.tables.exec = Jvm.exec) (hb : c.code = cc) (hml : c.maxLocals = ls.size) {own : String} {index : Nat} (hown : s.vm.findClass own = some m.cls) (hlink : (Cond.methodLink own index arraycopyName).before args s = true) (hnat : (Cond.native arraycopyName).before args s = true) (hstat : (Cond.static arraycopyName).before args s = true) (hini : (Cond.initialized "java/lang/System").before args s = true)
    (hK : va_K D cl tys s) (hP : va_P D cl ws H) (hD : va_D A ws) (hS : va_S A H0 H locs) (q0 q1 : Nat) {a0 : Nat} {c0 : ClassId} {n0 n1 : Nat} {f g : Nat → Int32} (ha0 : ws[q0]? = some (a0, .inl (c0, n0, .inl f))) (ha1 : ws[q1]? = some (a, .inl (c0, n1, .inl g))) (t0 : Nat) (ht : tys[t0]? = some (c0, .int))
    {sp dp n : Nat} (hn0 : n0 < 2 ^ 31) (hn1 : n1 < 2 ^ 31) (h4 : sp + n ≤ n0) (h5 : dp + n ≤ n1)
    (hframes : 1 ≤ R.frames) (hlocals : (rest.map fun v => v.category).sum + (nativeFrameWords "java/lang/System" "arraycopy" 5 + 11) ≤ R.locals) (hdg : decode cc pc = .ok (.invokestatic index, 3))
    (kk : ∀ (H1 : Heap) (locs1 : List Loc), va_P D cl (ws.set q1 (a, .inl (c0, n1, .inl (va_cpy f g sp dp n)))) H1 → va_D A (ws.set q1 (a, .inl (c0, n1, .inl (va_cpy f g sp dp n)))) → va_S A H0 H1 locs1 → W p l e R s m args below meth c H1 locs1 cells slots Q (F0 m (pc + 3) ls rest)) : W p l e R s m args below meth c H locs cells slots Q (F0 m pc ls (.int (nI n) :: .int (nI dp) :: .ref a :: .int (nI sp) :: .ref a0 :: rest)) := by
  have e1 : (nI sp).toNatClampNeg = sp := nI_clamp (by omega)
  have e2 : (nI dp).toNatClampNeg = dp := nI_clamp (by omega)
  have e3 : (nI n).toNatClampNeg = n := nI_clamp (by omega)
  refine va_copyi hx hb hml hown hlink hnat hstat hini hK hP hD hS q0 q1 t0 t0 ha0 ha1 ht ht rfl (nI_pos (by omega)) (nI_pos (by omega)) (nI_pos (by omega)) (by rw [e1, e3]; exact h4) (by rw [e2, e3]; exact h5) (fun _ _ => rfl) hframes hlocals hdg (fun H1 locs1 hP1 hD1 hS1 => ?_)
  rw [e1, e2, e3] at hP1 hD1
  exact kk H1 locs1 hP1 hD1 hS1
end AC
theorem cpy_nA (f g : Nat → Nat) (sp dp n : Nat) : va_cpy (nA f) (nA g) sp dp n = nA (va_cpy f g sp dp n) := by
  funext k
  simp only [va_cpy, nA]
  split <;> rfl
set_option maxHeartbeats 4000000 in
set_option maxRecDepth 100000 in
theorem qX2_saveTo (l : Launch) (D : va_G) (cy : Nat → ClassId) (m0 : Nat) (sA : Nat) (ct : Nat) (rA : Nat) (SG : Nat → Nat) (RO : Nat → Nat) (s0 : Nat) (ac : Nat) (wh : Nat) (rw0 : Nat) (RW : Nat → Nat)  (hc : ct ≤ 12) : nq_v l D (cT cy) yX2_saveTo wsX2_saveTo 1 0 0 60 [.ref (m0), .ref (s0)] ([(m0, .inr (2, [.ref (sA), .int (nI (ct)), .ref (rA)])), (sA, .inl (cy 0, 12, .inl (nA SG))), (rA, .inl (cy 0, 7, .inl (nA RO))), (s0, .inr (9, [.int (nI (ac)), .int (nI (wh)), .ref (rw0)])), (rw0, .inl (cy 0, 12, .inl (nA RW)))]) (fun w1 => w1 = [(m0, .inr (2, [.ref (sA), .int (nI (ct)), .ref (rA)])), (sA, .inl (cy 0, 12, .inl (nA SG))), (rA, .inl (cy 0, 7, .inl (nA RO))), (s0, .inr (9, [.int (nI (ac)), .int (nI (wh)), .ref (rw0)])), (rw0, .inl (cy 0, 12, .inl (nA (va_cpy SG RW 0 0 ct))))]) := by
  refine nq_v_of (cc := cX2_saveTo) (maxL := 2) (by decide) rfl (Nat.le_of_ble_eq_true rfl) ?_
  intro p e s m args below meth c A Q ls hx hb hts hown hml hnm hN hA hP hK hD hS hl hret
  have hown : s.vm.findClass RX2 = some m.cls := hown
  have hinX2 : ∀ w ∈ u_ws RX2 TX2 3, w ∈ wsX2_saveTo := by decide +kernel
  have hinX9 : ∀ w ∈ u_ws RX9 TX9 3, w ∈ wsX2_saveTo := by decide +kernel
  have hl : lv_has ls 2 [(0, .ref (m0)), (1, .ref (s0))] := hl
  have hP : va_P D vwCl ([(m0, .inr (2, [.ref (sA), .int (nI (ct)), .ref (rA)])), (sA, .inl (cy 0, 12, .inl (nA SG))), (rA, .inl (cy 0, 7, .inl (nA RO))), (s0, .inr (9, [.int (nI (ac)), .int (nI (wh)), .ref (rw0)])), (rw0, .inl (cy 0, 12, .inl (nA RW)))]) s.heap := hP
  refine lv_aload_n hx hb dX2_saveTo_0 rfl (lv_at hl 0 rfl) ?_
  refine va_get (D := D) (ci := 2) (v := .ref (sA)) (C := RX2) (T := TX2) (N := 3) hx hb hts hinX2 hown hK hP 0 rfl rfl 0 (by decide) (hts (.fieldLink RX2 9 "CornDesk$Form" "signs" "[I") (by decide +kernel)) (fun _ h9 => h9) rfl dX2_saveTo_1 ?_
  refine lv_iconst (v := (nI (0))) hx hb dX2_saveTo_4 (by decide) ?_
  refine lv_aload_n hx hb dX2_saveTo_5 rfl (lv_at hl 1 rfl) ?_
  refine va_getN (D := D) (ci := 9) (v := .ref (rw0)) (C := RX9) (T := TX9) (N := 3) hx hb hts hinX9 hown hK hP 3 rfl rfl 2 (by decide) (nst_f (a := "CornDesk$Form") (i := 22) (b := "CornDesk$Step") (n := "row") (d := "[I") (g := "CornDesk") hN (by decide)) (fun _ h9 => h9) rfl dX2_saveTo_6 ?_
  refine lv_iconst (v := (nI (0))) hx hb dX2_saveTo_9 (by decide) ?_
  refine lv_aload_n hx hb dX2_saveTo_10 rfl (lv_at hl 0 rfl) ?_
  refine va_get (D := D) (ci := 2) (v := .int (nI (ct))) (C := RX2) (T := TX2) (N := 3) hx hb hts hinX2 hown hK hP 0 rfl rfl 1 (by decide) (hts (.fieldLink RX2 18 "CornDesk$Form" "count" "I") (by decide +kernel)) (fun _ h9 => h9) rfl dX2_saveTo_11 ?_
  refine lc_copy hx hb (hml.trans hl.1.symm) hown (hts (.methodLink RX2 25 arraycopyName) (by decide +kernel)) (hts (.native arraycopyName) (by decide +kernel)) (hts (.static arraycopyName) (by decide +kernel)) (hts (.initialized "java/lang/System") (by decide +kernel)) hK hP hD hS 1 4 rfl rfl 0 rfl (by decide) (by decide) (by omega) (by omega) (Nat.le_of_ble_eq_true rfl) (by decide +kernel) dX2_saveTo_14 (fun H locs hP hD hS => ?_)
  rw [cpy_nA] at hP hD
  have hP : va_P D vwCl ([(m0, .inr (2, [.ref (sA), .int (nI (ct)), .ref (rA)])), (sA, .inl (cy 0, 12, .inl (nA SG))), (rA, .inl (cy 0, 7, .inl (nA RO))), (s0, .inr (9, [.int (nI (ac)), .int (nI (wh)), .ref (rw0)])), (rw0, .inl (cy 0, 12, .inl (nA (va_cpy SG RW 0 0 ct))))]) H := hP
  have hD : va_D A ([(m0, .inr (2, [.ref (sA), .int (nI (ct)), .ref (rA)])), (sA, .inl (cy 0, 12, .inl (nA SG))), (rA, .inl (cy 0, 7, .inl (nA RO))), (s0, .inr (9, [.int (nI (ac)), .int (nI (wh)), .ref (rw0)])), (rw0, .inl (cy 0, 12, .inl (nA (va_cpy SG RW 0 0 ct))))]) := hD
  exact hret _ _ _ _ _ rfl hP hD hS dX2_saveTo_17
