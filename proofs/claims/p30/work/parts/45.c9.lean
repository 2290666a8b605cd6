section AC
variable {p : Program} {l : Launch} {e : Env} {R : Room} {s : State} {m : MethodId} {args : Array Value} {below : List Frame} {meth : Method} {c : Code} {H : Heap} {locs : List Loc} {cells slots : Nat} {Q : State → Prop}
variable {pc : Nat} {ls : Array Slot} {rest : List Value} {D : va_G} {cl : List vw_C} {tys : List (ClassId × FieldType)} {ws : va_W} {a : Nat} {A : Nat → Prop} {H0 : Heap}
theorem lc_copy {cc : ByteArray} (hx : p.tables.exec = Jvm.exec) (hb : c.code = cc) (hml : c.maxLocals = ls.size) {own : String} {index : Nat} (hown : s.vm.findClass own = some m.cls) (hlink : (Cond.methodLink own index arraycopyName).before args s = true) (hnat : (Cond.native arraycopyName).before args s = true) (hstat : (Cond.static arraycopyName).before args s = true) (hini : (Cond.initialized "java/lang/System").before args s = true)
    (hK : va_K D cl tys s) (hP : va_P D cl ws H) (hD : va_D A ws) (hS : va_S A H0 H locs) (q0 q1 : Nat) {a0 : Nat} {c0 : ClassId} {n0 n1 : Nat} {f g : Nat → Int32} (ha0 : ws[q0]? = some (a0, .inl (c0, n0, .inl f))) (ha1 : ws[q1]? = some (a, .inl (c0, n1, .inl g))) (t0 : Nat) (ht : tys[t0]? = some (c0, .int))
    {sp dp n : Nat} (hn0 : n0 < 2 ^ 31) (hn1 : n1 < 2 ^ 31) (h4 : sp + n ≤ n0) (h5 : dp + n ≤ n1)
    (hframes : 1 ≤ R.frames) (hlocals : (rest.map fun v => v.category).sum + (nativeFrameWords "java/lang/System" "arraycopy" 5 + 11) ≤ R.locals) (hdg : decode cc pc = .ok (.invokestatic index, 3))
    (kk : ∀ (H1 : Heap) (locs1 : List Loc), va_P D cl (ws.set q1 (a, .inl (c0, n1, .inl (va_cpy f g sp dp n)))) H1 → va_D A (ws.set q1 (a, .inl (c0, n1, .inl (va_cpy f g sp dp n)))) → va_S A H0 H1 locs1 → W p l e R s m args below meth c H1 locs1 cells slots Q (F0 m (pc + 3) ls rest)) : W p l e R s m args below meth c H locs cells slots Q (F0 m pc ls (.int (nI n) :: .int (nI dp) :: .ref a :: .int (nI sp) :: .ref a0 :: rest)) := by
  have e1 : (nI sp).toNatClampNeg = sp := nI_clamp (by omega)
  have e2 : (nI dp).toNatClampNeg = dp := nI_clamp (by omega)
  have e3 : (nI n).toNatClampNeg = n := nI_clamp (by omega)
  refine va_copyi hx hb hml hown hlink hnat hstat hini hK hP hD hS q0 q1 t0 t0 ha0 ha1 ht ht rfl (nI_pos (by omega)) (nI_pos (by omega)) (nI_pos (by omega)) (by rw [e1, e3]; exact h4) (by rw [e2, e3]; exact h5) (fun _ _ => rfl) hframes hlocals hdg (fun H1 locs1 hP1 hD1 hS1 => ?_)
  rw [e1, e2, e3] at hP1 hD1
  exact kk H1 locs1 hP1 hD1 hS1
end AC
theorem cpy_nA (f g : Nat → Nat) (sp dp n : Nat) : va_cpy (nA f) (nA g) sp dp n = nA (va_cpy f g sp dp n) := by
  funext k
  simp only [va_cpy, nA]
  split <;> rfl
set_option maxHeartbeats 4000000 in
set_option maxRecDepth 100000 in
theorem qX2_saveTo (l : Launch) (D : va_G) (cy : Nat → ClassId) (m0 : Nat) (sA : Nat) (ct : Nat) (rA : Nat) (SG : Nat → Nat) (RO : Nat → Nat) (s0 : Nat) (ac : Nat) (wh : Nat) (rw0 : Nat) (RW : Nat → Nat)  (hc : ct ≤ 12) : nq_v l D (cT cy) yX2_saveTo wsX2_saveTo 1 0 0 30 [.ref (m0), .ref (s0)] ([(m0, .inr (2, [.ref (sA), .int (nI (ct)), .ref (rA)])), (sA, .inl (cy 0, 12, .inl (nA SG))), (rA, .inl (cy 0, 7, .inl (nA RO))), (s0, .inr (9, [.int (nI (ac)), .int (nI (wh)), .ref (rw0)])), (rw0, .inl (cy 0, 12, .inl (nA RW)))]) (fun w1 => w1 = [(m0, .inr (2, [.ref (sA), .int (nI (ct)), .ref (rA)])), (sA, .inl (cy 0, 12, .inl (nA SG))), (rA, .inl (cy 0, 7, .inl (nA RO))), (s0, .inr (9, [.int (nI (ac)), .int (nI (wh)), .ref (rw0)])), (rw0, .inl (cy 0, 12, .inl (nA (va_cpy SG RW 0 0 ct))))]) := by
  refine nq_v_of (cc := cX2_saveTo) (maxL := 2) (by decide) rfl (Nat.le_of_ble_eq_true rfl) ?_
  intro p e s m args below meth c A Q ls hx hb hts hown hml hnm hN hA hP hK hD hS hl hret
  have hown : s.vm.findClass RX2 = some m.cls := hown
  have hinX2 : ∀ w ∈ u_ws RX2 TX2 3, w ∈ wsX2_saveTo := by decide +kernel
  have hinX9 : ∀ w ∈ u_ws RX9 TX9 3, w ∈ wsX2_saveTo := by decide +kernel
  have hl : lv_has ls 2 [(0, .ref (m0)), (1, .ref (s0))] := hl
  have hP : va_P D vwCl ([(m0, .inr (2, [.ref (sA), .int (nI (ct)), .ref (rA)])), (sA, .inl (cy 0, 12, .inl (nA SG))), (rA, .inl (cy 0, 7, .inl (nA RO))), (s0, .inr (9, [.int (nI (ac)), .int (nI (wh)), .ref (rw0)])), (rw0, .inl (cy 0, 12, .inl (nA RW)))]) s.heap := hP
  refine lv_aload_n hx hb dX2_saveTo_0 rfl (lv_at hl 0 rfl) ?_
  refine va_get (D := D) (ci := 2) (v := .ref (sA)) (C := RX2) (T := TX2) (N := 3) hx hb hts hinX2 hown hK hP 0 rfl rfl 0 (by decide) (hts (.fieldLink RX2 9 "CornDesk$Form" "signs" "[I") (by decide +kernel)) (fun _ h9 => h9) rfl dX2_saveTo_1 ?_
  refine lv_iconst (v := (nI (0))) hx hb dX2_saveTo_4 (by decide) ?_
  refine lv_aload_n hx hb dX2_saveTo_5 rfl (lv_at hl 1 rfl) ?_
  refine va_getN (D := D) (ci := 9) (v := .ref (rw0)) (C := RX9) (T := TX9) (N := 3) hx hb hts hinX9 hown hK hP 3 rfl rfl 2 (by decide) (nst_f (a := "CornDesk$Form") (i := 22) (b := "CornDesk$Step") (n := "row") (d := "[I") (g := "CornDesk") hN (by decide)) (fun _ h9 => h9) rfl dX2_saveTo_6 ?_
  refine lv_iconst (v := (nI (0))) hx hb dX2_saveTo_9 (by decide) ?_
  refine lv_aload_n hx hb dX2_saveTo_10 rfl (lv_at hl 0 rfl) ?_
  refine va_get (D := D) (ci := 2) (v := .int (nI (ct))) (C := RX2) (T := TX2) (N := 3) hx hb hts hinX2 hown hK hP 0 rfl rfl 1 (by decide) (hts (.fieldLink RX2 18 "CornDesk$Form" "count" "I") (by decide +kernel)) (fun _ h9 => h9) rfl dX2_saveTo_11 ?_
  refine lc_copy hx hb (hml.trans hl.1.symm) hown (hts (.methodLink RX2 25 arraycopyName) (by decide +kernel)) (hts (.native arraycopyName) (by decide +kernel)) (hts (.static arraycopyName) (by decide +kernel)) (hts (.initialized "java/lang/System") (by decide +kernel)) hK hP hD hS 1 4 rfl rfl 0 rfl (by decide) (by decide) (by omega) (by omega) (Nat.le_of_ble_eq_true rfl) (by decide +kernel) dX2_saveTo_14 (fun H locs hP hD hS => ?_)
  rw [cpy_nA] at hP hD
  have hP : va_P D vwCl ([(m0, .inr (2, [.ref (sA), .int (nI (ct)), .ref (rA)])), (sA, .inl (cy 0, 12, .inl (nA SG))), (rA, .inl (cy 0, 7, .inl (nA RO))), (s0, .inr (9, [.int (nI (ac)), .int (nI (wh)), .ref (rw0)])), (rw0, .inl (cy 0, 12, .inl (nA (va_cpy SG RW 0 0 ct))))]) H := hP
  have hD : va_D A ([(m0, .inr (2, [.ref (sA), .int (nI (ct)), .ref (rA)])), (sA, .inl (cy 0, 12, .inl (nA SG))), (rA, .inl (cy 0, 7, .inl (nA RO))), (s0, .inr (9, [.int (nI (ac)), .int (nI (wh)), .ref (rw0)])), (rw0, .inl (cy 0, 12, .inl (nA (va_cpy SG RW 0 0 ct))))]) := hD
  exact hret _ _ _ _ _ rfl hP hD hS dX2_saveTo_17
set_option maxHeartbeats 4000000 in
set_option maxRecDepth 100000 in
theorem qX8_take (l : Launch) (D : va_G) (cy : Nat → ClassId) (h0 : Nat) (nb : Nat) (bt : Nat) (ct : Nat) (NU : Nat → Int32) (h1 : Nat) (nc : Nat) (bu : Nat) (cu : Nat) (NV : Nat → Int32) (f : Nat) (w : Nat) (k : Nat) (hc : ct ≤ 16) (hc2 : cu ≤ 16) (g1 : f + k ≤ cu) (g2 : w + k ≤ ct) : nq_v l D (cT cy) yX8_take wsX8_take 1 0 0 30 [.ref (h0), .ref (h1), .int (nI (f)), .int (nI (w)), .int (nI (k))] ([(h0, .inr (8, [.ref (nb), .int (nI (bt)), .int (nI (ct))])), (nb, .inl (cy 0, 16, .inl NU)), (h1, .inr (8, [.ref (nc), .int (nI (bu)), .int (nI (cu))])), (nc, .inl (cy 0, 16, .inl NV))]) (fun w1 => w1 = [(h0, .inr (8, [.ref (nb), .int (nI (bt)), .int (nI (ct))])), (nb, .inl (cy 0, 16, .inl (va_cpy NV NU f w k))), (h1, .inr (8, [.ref (nc), .int (nI (bu)), .int (nI (cu))])), (nc, .inl (cy 0, 16, .inl NV))]) := by
  refine nq_v_of (cc := cX8_take) (maxL := 5) (by decide) rfl (Nat.le_of_ble_eq_true rfl) ?_
  intro p e s m args below meth c A Q ls hx hb hts hown hml hnm hN hA hP hK hD hS hl hret
  have hown : s.vm.findClass RX8 = some m.cls := hown
  have hinX8 : ∀ w ∈ u_ws RX8 TX8 3, w ∈ wsX8_take := by decide +kernel
  have hl : lv_has ls 5 [(0, .ref (h0)), (1, .ref (h1)), (2, .int (nI (f))), (3, .int (nI (w))), (4, .int (nI (k)))] := hl
  have hP : va_P D vwCl ([(h0, .inr (8, [.ref (nb), .int (nI (bt)), .int (nI (ct))])), (nb, .inl (cy 0, 16, .inl NU)), (h1, .inr (8, [.ref (nc), .int (nI (bu)), .int (nI (cu))])), (nc, .inl (cy 0, 16, .inl NV))]) s.heap := hP
  refine lv_aload_n hx hb dX8_take_0 rfl (lv_at hl 1 rfl) ?_
  refine lv_iload_n hx hb dX8_take_1 rfl (lv_at hl 2 rfl) ?_
  refine lv_iload hx hb dX8_take_2 (lv_at hl 4 rfl) ?_
  have hP := hP.sub (ws' := [(h1, .inr (8, [.ref (nc), .int (nI (bu)), .int (nI (cu))])), (nc, .inl (cy 0, 16, .inl NV)), (h0, .inr (8, [.ref (nb), .int (nI (bt)), .int (nI (ct))])), (nb, .inl (cy 0, 16, .inl NU))]) [2, 3, 0, 1] rfl
  have hD := hD.sub (ws' := [(h1, .inr (8, [.ref (nc), .int (nI (bu)), .int (nI (cu))])), (nc, .inl (cy 0, 16, .inl NV)), (h0, .inr (8, [.ref (nb), .int (nI (bt)), .int (nI (ct))])), (nb, .inl (cy 0, 16, .inl NU))]) [2, 3, 0, 1] (by decide) rfl
  refine nq_Vi (As := [.int (nI (f)), .int (nI (k))]) (rest := []) (w := [(h1, .inr (8, [.ref (nc), .int (nI (bu)), .int (nI (cu))])), (nc, .inl (cy 0, 16, .inl NV))]) (wr := [(h0, .inr (8, [.ref (nb), .int (nI (bt)), .int (nI (ct))])), (nb, .inl (cy 0, 16, .inl NU))]) (ci := 8) (k0 := 0) ⟨hx, hb, hml, hown, hts⟩ (qX8_hasRun l D cy h1 nc bu cu NV (nI (f)) (nI (k)) ) (cwV 2 hts gX8_take_X8_hasRun rfl rfl rfl (by decide +kernel) ⟨Nat.le_of_ble_eq_true rfl, Nat.le_of_ble_eq_true rfl⟩) rfl rfl hP hK hD hN hS hA rfl hl.1 rfl (Nat.le_of_ble_eq_true rfl) dX8_take_4 ⟨Nat.le_of_ble_eq_true rfl, Nat.le_of_ble_eq_true rfl⟩ (fun r w1 H locs hq hP hD hS => ?_)
  obtain ⟨rfl, rfl⟩ := hq
  have hP : va_P D vwCl ([(h1, .inr (8, [.ref (nc), .int (nI (bu)), .int (nI (cu))])), (nc, .inl (cy 0, 16, .inl NV)), (h0, .inr (8, [.ref (nb), .int (nI (bt)), .int (nI (ct))])), (nb, .inl (cy 0, 16, .inl NU))]) H := hP
  have hD : va_D A ([(h1, .inr (8, [.ref (nc), .int (nI (bu)), .int (nI (cu))])), (nc, .inl (cy 0, 16, .inl NV)), (h0, .inr (8, [.ref (nb), .int (nI (bt)), .int (nI (ct))])), (nb, .inl (cy 0, 16, .inl NU))]) := hD
  refine lb_if_eq (tgt := 35) hx hb dX8_take_7 (by decide) (fun c1 => ?_) (fun c1 => ?_)
  · exact absurd (hrI_nI hc2 g1) c1
  · have hP := hP.sub (ws' := [(h0, .inr (8, [.ref (nb), .int (nI (bt)), .int (nI (ct))])), (nb, .inl (cy 0, 16, .inl NU)), (h1, .inr (8, [.ref (nc), .int (nI (bu)), .int (nI (cu))])), (nc, .inl (cy 0, 16, .inl NV))]) [2, 3, 0, 1] rfl
    have hD := hD.sub (ws' := [(h0, .inr (8, [.ref (nb), .int (nI (bt)), .int (nI (ct))])), (nb, .inl (cy 0, 16, .inl NU)), (h1, .inr (8, [.ref (nc), .int (nI (bu)), .int (nI (cu))])), (nc, .inl (cy 0, 16, .inl NV))]) [2, 3, 0, 1] (by decide) rfl
    refine lv_aload_n hx hb dX8_take_10 rfl (lv_at hl 0 rfl) ?_
    refine lv_iload_n hx hb dX8_take_11 rfl (lv_at hl 3 rfl) ?_
    refine lv_iload hx hb dX8_take_12 (lv_at hl 4 rfl) ?_
    refine nq_Vi (As := [.int (nI (w)), .int (nI (k))]) (rest := []) (w := [(h0, .inr (8, [.ref (nb), .int (nI (bt)), .int (nI (ct))])), (nb, .inl (cy 0, 16, .inl NU))]) (wr := [(h1, .inr (8, [.ref (nc), .int (nI (bu)), .int (nI (cu))])), (nc, .inl (cy 0, 16, .inl NV))]) (ci := 8) (k0 := 0) ⟨hx, hb, hml, hown, hts⟩ (qX8_hasRun l D cy h0 nb bt ct NU (nI (w)) (nI (k)) ) (cwV 2 hts gX8_take_X8_hasRun rfl rfl rfl (by decide +kernel) ⟨Nat.le_of_ble_eq_true rfl, Nat.le_of_ble_eq_true rfl⟩) rfl rfl hP hK hD hN hS hA rfl hl.1 rfl (Nat.le_of_ble_eq_true rfl) dX8_take_14 ⟨Nat.le_of_ble_eq_true rfl, Nat.le_of_ble_eq_true rfl⟩ (fun r w1 H locs hq hP hD hS => ?_)
    obtain ⟨rfl, rfl⟩ := hq
    have hP : va_P D vwCl ([(h0, .inr (8, [.ref (nb), .int (nI (bt)), .int (nI (ct))])), (nb, .inl (cy 0, 16, .inl NU)), (h1, .inr (8, [.ref (nc), .int (nI (bu)), .int (nI (cu))])), (nc, .inl (cy 0, 16, .inl NV))]) H := hP
    have hD : va_D A ([(h0, .inr (8, [.ref (nb), .int (nI (bt)), .int (nI (ct))])), (nb, .inl (cy 0, 16, .inl NU)), (h1, .inr (8, [.ref (nc), .int (nI (bu)), .int (nI (cu))])), (nc, .inl (cy 0, 16, .inl NV))]) := hD
    refine lb_if_eq (tgt := 35) hx hb dX8_take_17 (by decide) (fun c2 => ?_) (fun c2 => ?_)
    · exact absurd (hrI_nI hc g2) c2
    · refine lv_aload_n hx hb dX8_take_20 rfl (lv_at hl 1 rfl) ?_
      refine va_get (D := D) (ci := 8) (v := .ref (nc)) (C := RX8) (T := TX8) (N := 3) hx hb hts hinX8 hown hK hP 2 rfl rfl 0 (by decide) (hts (.fieldLink RX8 9 "CornDesk$Sheet" "numbers" "[I") (by decide +kernel)) (fun _ h9 => h9) rfl dX8_take_21 ?_
      refine lv_iload_n hx hb dX8_take_24 rfl (lv_at hl 2 rfl) ?_
      refine lv_aload_n hx hb dX8_take_25 rfl (lv_at hl 0 rfl) ?_
      refine va_get (D := D) (ci := 8) (v := .ref (nb)) (C := RX8) (T := TX8) (N := 3) hx hb hts hinX8 hown hK hP 0 rfl rfl 0 (by decide) (hts (.fieldLink RX8 9 "CornDesk$Sheet" "numbers" "[I") (by decide +kernel)) (fun _ h9 => h9) rfl dX8_take_26 ?_
      refine lv_iload_n hx hb dX8_take_29 rfl (lv_at hl 3 rfl) ?_
      refine lv_iload hx hb dX8_take_30 (lv_at hl 4 rfl) ?_
      refine lc_copy hx hb (hml.trans hl.1.symm) hown (hts (.methodLink RX8 32 arraycopyName) (by decide +kernel)) (hts (.native arraycopyName) (by decide +kernel)) (hts (.static arraycopyName) (by decide +kernel)) (hts (.initialized "java/lang/System") (by decide +kernel)) hK hP hD hS 3 1 rfl rfl 0 rfl (by decide) (by decide) (by omega) (by omega) (Nat.le_of_ble_eq_true rfl) (by decide +kernel) dX8_take_32 (fun H locs hP hD hS => ?_)
      have hP : va_P D vwCl ([(h0, .inr (8, [.ref (nb), .int (nI (bt)), .int (nI (ct))])), (nb, .inl (cy 0, 16, .inl (va_cpy NV NU f w k))), (h1, .inr (8, [.ref (nc), .int (nI (bu)), .int (nI (cu))])), (nc, .inl (cy 0, 16, .inl NV))]) H := hP
      have hD : va_D A ([(h0, .inr (8, [.ref (nb), .int (nI (bt)), .int (nI (ct))])), (nb, .inl (cy 0, 16, .inl (va_cpy NV NU f w k))), (h1, .inr (8, [.ref (nc), .int (nI (bu)), .int (nI (cu))])), (nc, .inl (cy 0, 16, .inl NV))]) := hD
      exact hret _ _ _ _ _ rfl hP hD hS dX8_take_35
set_option maxHeartbeats 4000000 in
set_option maxRecDepth 100000 in
theorem qX8_take1 (l : Launch) (D : va_G) (cy : Nat → ClassId) (h0 : Nat) (nb : Nat) (bt : Nat) (ct : Nat) (NU : Nat → Int32) (f : Nat) (w : Nat) (k : Nat) (hc : ct ≤ 16) (g1 : f + k ≤ ct) (g2 : w + k ≤ ct) : nq_v l D (cT cy) yX8_take wsX8_take 1 0 0 30 [.ref (h0), .ref (h0), .int (nI (f)), .int (nI (w)), .int (nI (k))] ([(h0, .inr (8, [.ref (nb), .int (nI (bt)), .int (nI (ct))])), (nb, .inl (cy 0, 16, .inl NU))]) (fun w1 => w1 = [(h0, .inr (8, [.ref (nb), .int (nI (bt)), .int (nI (ct))])), (nb, .inl (cy 0, 16, .inl (va_cpy NU NU f w k)))]) := by
  refine nq_v_of (cc := cX8_take) (maxL := 5) (by decide) rfl (Nat.le_of_ble_eq_true rfl) ?_
  intro p e s m args below meth c A Q ls hx hb hts hown hml hnm hN hA hP hK hD hS hl hret
  have hown : s.vm.findClass RX8 = some m.cls := hown
  have hinX8 : ∀ w ∈ u_ws RX8 TX8 3, w ∈ wsX8_take := by decide +kernel
  have hl : lv_has ls 5 [(0, .ref (h0)), (1, .ref (h0)), (2, .int (nI (f))), (3, .int (nI (w))), (4, .int (nI (k)))] := hl
  have hP : va_P D vwCl ([(h0, .inr (8, [.ref (nb), .int (nI (bt)), .int (nI (ct))])), (nb, .inl (cy 0, 16, .inl NU))]) s.heap := hP
  refine lv_aload_n hx hb dX8_take_0 rfl (lv_at hl 1 rfl) ?_
  refine lv_iload_n hx hb dX8_take_1 rfl (lv_at hl 2 rfl) ?_
  refine lv_iload hx hb dX8_take_2 (lv_at hl 4 rfl) ?_
  refine nq_Vi (As := [.int (nI (f)), .int (nI (k))]) (rest := []) (w := [(h0, .inr (8, [.ref (nb), .int (nI (bt)), .int (nI (ct))])), (nb, .inl (cy 0, 16, .inl NU))]) (wr := []) (ci := 8) (k0 := 0) ⟨hx, hb, hml, hown, hts⟩ (qX8_hasRun l D cy h0 nb bt ct NU (nI (f)) (nI (k)) ) (cwV 2 hts gX8_take_X8_hasRun rfl rfl rfl (by decide +kernel) ⟨Nat.le_of_ble_eq_true rfl, Nat.le_of_ble_eq_true rfl⟩) rfl rfl hP hK hD hN hS hA rfl hl.1 rfl (Nat.le_of_ble_eq_true rfl) dX8_take_4 ⟨Nat.le_of_ble_eq_true rfl, Nat.le_of_ble_eq_true rfl⟩ (fun r w1 H locs hq hP hD hS => ?_)
  obtain ⟨rfl, rfl⟩ := hq
  have hP : va_P D vwCl ([(h0, .inr (8, [.ref (nb), .int (nI (bt)), .int (nI (ct))])), (nb, .inl (cy 0, 16, .inl NU))]) H := hP
  have hD : va_D A ([(h0, .inr (8, [.ref (nb), .int (nI (bt)), .int (nI (ct))])), (nb, .inl (cy 0, 16, .inl NU))]) := hD
  refine lb_if_eq (tgt := 35) hx hb dX8_take_7 (by decide) (fun c1 => ?_) (fun c1 => ?_)
  · exact absurd (hrI_nI hc g1) c1
  · refine lv_aload_n hx hb dX8_take_10 rfl (lv_at hl 0 rfl) ?_
    refine lv_iload_n hx hb dX8_take_11 rfl (lv_at hl 3 rfl) ?_
    refine lv_iload hx hb dX8_take_12 (lv_at hl 4 rfl) ?_
    refine nq_Vi (As := [.int (nI (w)), .int (nI (k))]) (rest := []) (w := [(h0, .inr (8, [.ref (nb), .int (nI (bt)), .int (nI (ct))])), (nb, .inl (cy 0, 16, .inl NU))]) (wr := []) (ci := 8) (k0 := 0) ⟨hx, hb, hml, hown, hts⟩ (qX8_hasRun l D cy h0 nb bt ct NU (nI (w)) (nI (k)) ) (cwV 2 hts gX8_take_X8_hasRun rfl rfl rfl (by decide +kernel) ⟨Nat.le_of_ble_eq_true rfl, Nat.le_of_ble_eq_true rfl⟩) rfl rfl hP hK hD hN hS hA rfl hl.1 rfl (Nat.le_of_ble_eq_true rfl) dX8_take_14 ⟨Nat.le_of_ble_eq_true rfl, Nat.le_of_ble_eq_true rfl⟩ (fun r w1 H locs hq hP hD hS => ?_)
    obtain ⟨rfl, rfl⟩ := hq
    have hP : va_P D vwCl ([(h0, .inr (8, [.ref (nb), .int (nI (bt)), .int (nI (ct))])), (nb, .inl (cy 0, 16, .inl NU))]) H := hP
    have hD : va_D A ([(h0, .inr (8, [.ref (nb), .int (nI (bt)), .int (nI (ct))])), (nb, .inl (cy 0, 16, .inl NU))]) := hD
    refine lb_if_eq (tgt := 35) hx hb dX8_take_17 (by decide) (fun c2 => ?_) (fun c2 => ?_)
    · exact absurd (hrI_nI hc g2) c2
    · refine lv_aload_n hx hb dX8_take_20 rfl (lv_at hl 1 rfl) ?_
      refine va_get (D := D) (ci := 8) (v := .ref (nb)) (C := RX8) (T := TX8) (N := 3) hx hb hts hinX8 hown hK hP 0 rfl rfl 0 (by decide) (hts (.fieldLink RX8 9 "CornDesk$Sheet" "numbers" "[I") (by decide +kernel)) (fun _ h9 => h9) rfl dX8_take_21 ?_
      refine lv_iload_n hx hb dX8_take_24 rfl (lv_at hl 2 rfl) ?_
      refine lv_aload_n hx hb dX8_take_25 rfl (lv_at hl 0 rfl) ?_
      refine va_get (D := D) (ci := 8) (v := .ref (nb)) (C := RX8) (T := TX8) (N := 3) hx hb hts hinX8 hown hK hP 0 rfl rfl 0 (by decide) (hts (.fieldLink RX8 9 "CornDesk$Sheet" "numbers" "[I") (by decide +kernel)) (fun _ h9 => h9) rfl dX8_take_26 ?_
      refine lv_iload_n hx hb dX8_take_29 rfl (lv_at hl 3 rfl) ?_
      refine lv_iload hx hb dX8_take_30 (lv_at hl 4 rfl) ?_
      refine lc_copy hx hb (hml.trans hl.1.symm) hown (hts (.methodLink RX8 32 arraycopyName) (by decide +kernel)) (hts (.native arraycopyName) (by decide +kernel)) (hts (.static arraycopyName) (by decide +kernel)) (hts (.initialized "java/lang/System") (by decide +kernel)) hK hP hD hS 1 1 rfl rfl 0 rfl (by decide) (by decide) (by omega) (by omega) (Nat.le_of_ble_eq_true rfl) (by decide +kernel) dX8_take_32 (fun H locs hP hD hS => ?_)
      have hP : va_P D vwCl ([(h0, .inr (8, [.ref (nb), .int (nI (bt)), .int (nI (ct))])), (nb, .inl (cy 0, 16, .inl (va_cpy NU NU f w k)))]) H := hP
      have hD : va_D A ([(h0, .inr (8, [.ref (nb), .int (nI (bt)), .int (nI (ct))])), (nb, .inl (cy 0, 16, .inl (va_cpy NU NU f w k)))]) := hD
      exact hret _ _ _ _ _ rfl hP hD hS dX8_take_35
set_option maxHeartbeats 4000000 in
set_option maxRecDepth 100000 in
theorem qX2_read (l : Launch) (D : va_G) (cy : Nat → ClassId) (fA : Nat) (FA : Nat → Nat) (v : Nat) (x : Nat) (y : Nat) (hsv : sg v) (hx9 : x < 2 ^ 31) (hy9 : y < 2 ^ 31) : nq_i l D (cT cy) yX2_read wsX2_read 1 0 0 22 [.int (nI (v)), .int (nI (x)), .int (nI (y)), .ref (fA)] ([(fA, .inl (cy 0, 4, .inl (nA FA)))]) (fun r w1 => r = nI (rdV (fun u => FA (u - 1)) v x y) ∧ w1 = [(fA, .inl (cy 0, 4, .inl (nA FA)))]) := by
  refine nq_i_of (cc := cX2_read) (maxL := 4) (by decide) rfl (Nat.le_of_ble_eq_true rfl) ?_
  intro p e s m args below meth c A Q ls hx hb hts hown hml hnm hN hA hP hK hD hS hl hret
  have hown : s.vm.findClass RX2 = some m.cls := hown
  have hl : lv_has ls 4 [(0, .int (nI (v))), (1, .int (nI (x))), (2, .int (nI (y))), (3, .ref (fA))] := hl
  have hP : va_P D vwCl ([(fA, .inl (cy 0, 4, .inl (nA FA)))]) s.heap := hP
  refine lv_iload_n hx hb dX2_read_0 rfl (lv_at hl 0 rfl) ?_
  have hvv : (nI v) = (nI v) := rfl
  by_cases hr : rg 20 24 (nI v)
  · obtain ⟨j, hj1, hj2, hj3⟩ := rg_of hr (by decide) (by decide)
    have hj3 := (nI_eq (by omega) (by omega)).mp hj3
    subst hj3
    rcases (show v = 20 ∨ v = 21 ∨ v = 22 ∨ v = 23 ∨ v = 24 by omega) with rfl | rfl | rfl | rfl | rfl
    · refine lv_tableIn (off := 35) (tgt := 36) hx hb dX2_read_1 (by decide) (by decide) (by decide) (by decide) ?_
      refine lv_iload_n hx hb dX2_read_36 rfl (lv_at hl 1 rfl) ?_
      refine lv_iload_n hx hb dX2_read_37 rfl (lv_at hl 2 rfl) ?_
      refine ln_icmp_ge (tgt := 45) hx hb dX2_read_38 (by decide) (by omega) (by omega) (fun c1 => ?_) (fun c1 => ?_)
      · refine lv_iconst (v := (nI (0))) hx hb dX2_read_45 (by decide) ?_
        exact hret _ _ _ _ _ _ ⟨congrArg nI (by rw [rdV, if_neg (by decide), if_neg (by decide), if_pos rfl, if_neg (by omega)]), rfl⟩ hP hD hS dX2_read_46
      · refine lv_iconst (v := (nI (1))) hx hb dX2_read_41 (by decide) ?_
        refine lv_goto (tgt := 46) hx hb dX2_read_42 (by decide) ?_
        exact hret _ _ _ _ _ _ ⟨congrArg nI (by rw [rdV, if_neg (by decide), if_neg (by decide), if_pos rfl, if_pos (by omega)]), rfl⟩ hP hD hS dX2_read_46
    · refine lv_tableIn (off := 46) (tgt := 47) hx hb dX2_read_1 (by decide) (by decide) (by decide) (by decide) ?_
      refine lv_iload_n hx hb dX2_read_47 rfl (lv_at hl 1 rfl) ?_
      refine lv_iload_n hx hb dX2_read_48 rfl (lv_at hl 2 rfl) ?_
      refine ln_icmp_ne (tgt := 56) hx hb dX2_read_49 (by decide) (by omega) (by omega) (fun c1 => ?_) (fun c1 => ?_)
      · refine lv_iconst (v := (nI (0))) hx hb dX2_read_56 (by decide) ?_
        exact hret _ _ _ _ _ _ ⟨congrArg nI (by rw [rdV, if_neg (by decide), if_neg (by decide), if_neg (by decide), if_pos rfl, if_neg (by omega)]), rfl⟩ hP hD hS dX2_read_57
      · refine lv_iconst (v := (nI (1))) hx hb dX2_read_52 (by decide) ?_
        refine lv_goto (tgt := 57) hx hb dX2_read_53 (by decide) ?_
        exact hret _ _ _ _ _ _ ⟨congrArg nI (by rw [rdV, if_neg (by decide), if_neg (by decide), if_neg (by decide), if_pos rfl, if_pos (by omega)]), rfl⟩ hP hD hS dX2_read_57
    · refine lv_tableIn (off := 57) (tgt := 58) hx hb dX2_read_1 (by decide) (by decide) (by decide) (by decide) ?_
      refine lv_iload_n hx hb dX2_read_58 rfl (lv_at hl 1 rfl) ?_
      refine ln_if_ne (tgt := 66) hx hb dX2_read_59 (by decide) (by omega) (fun c1 => ?_) (fun c1 => ?_)
      · refine lv_iconst (v := (nI (0))) hx hb dX2_read_66 (by decide) ?_
        exact hret _ _ _ _ _ _ ⟨congrArg nI (by rw [rdV, if_neg (by decide), if_neg (by decide), if_neg (by decide), if_neg (by decide), if_pos rfl, if_neg (by omega)]), rfl⟩ hP hD hS dX2_read_67
      · refine lv_iconst (v := (nI (1))) hx hb dX2_read_62 (by decide) ?_
        refine lv_goto (tgt := 67) hx hb dX2_read_63 (by decide) ?_
        exact hret _ _ _ _ _ _ ⟨congrArg nI (by rw [rdV, if_neg (by decide), if_neg (by decide), if_neg (by decide), if_neg (by decide), if_pos rfl, if_pos (by omega)]), rfl⟩ hP hD hS dX2_read_67
    · refine lv_tableIn (off := 67) (tgt := 68) hx hb dX2_read_1 (by decide) (by decide) (by decide) (by decide) ?_
      refine lv_iload_n hx hb dX2_read_68 rfl (lv_at hl 1 rfl) ?_
      refine ln_if_eq (tgt := 80) hx hb dX2_read_69 (by decide) (by omega) (fun c1 => ?_) (fun c1 => ?_)
      · refine lv_iconst (v := (nI (0))) hx hb dX2_read_80 (by decide) ?_
        exact hret _ _ _ _ _ _ ⟨congrArg nI (by rw [rdV, if_neg (by decide), if_neg (by decide), if_neg (by decide), if_neg (by decide), if_neg (by decide), if_pos rfl, if_neg (by omega)]), rfl⟩ hP hD hS dX2_read_81
      · refine lv_iload_n hx hb dX2_read_72 rfl (lv_at hl 2 rfl) ?_
        refine ln_if_eq (tgt := 80) hx hb dX2_read_73 (by decide) (by omega) (fun c2 => ?_) (fun c2 => ?_)
        · refine lv_iconst (v := (nI (0))) hx hb dX2_read_80 (by decide) ?_
          exact hret _ _ _ _ _ _ ⟨congrArg nI (by rw [rdV, if_neg (by decide), if_neg (by decide), if_neg (by decide), if_neg (by decide), if_neg (by decide), if_pos rfl, if_neg (by omega)]), rfl⟩ hP hD hS dX2_read_81
        · refine lv_iconst (v := (nI (1))) hx hb dX2_read_76 (by decide) ?_
          refine lv_goto (tgt := 81) hx hb dX2_read_77 (by decide) ?_
          exact hret _ _ _ _ _ _ ⟨congrArg nI (by rw [rdV, if_neg (by decide), if_neg (by decide), if_neg (by decide), if_neg (by decide), if_neg (by decide), if_pos rfl, if_pos (by omega)]), rfl⟩ hP hD hS dX2_read_81
    · refine lv_tableIn (off := 81) (tgt := 82) hx hb dX2_read_1 (by decide) (by decide) (by decide) (by decide) ?_
      refine lv_iload_n hx hb dX2_read_82 rfl (lv_at hl 1 rfl) ?_
      refine ln_if_ne (tgt := 90) hx hb dX2_read_83 (by decide) (by omega) (fun c1 => ?_) (fun c1 => ?_)
      · refine lv_iconst (v := (nI (1))) hx hb dX2_read_90 (by decide) ?_
        refine lv_goto (tgt := 95) hx hb dX2_read_91 (by decide) ?_
        exact hret _ _ _ _ _ _ ⟨congrArg nI (by rw [rdV, if_neg (by decide), if_neg (by decide), if_neg (by decide), if_neg (by decide), if_neg (by decide), if_neg (by decide), if_pos (by omega)]), rfl⟩ hP hD hS dX2_read_95
      · refine lv_iload_n hx hb dX2_read_86 rfl (lv_at hl 2 rfl) ?_
        refine ln_if_eq (tgt := 94) hx hb dX2_read_87 (by decide) (by omega) (fun c2 => ?_) (fun c2 => ?_)
        · refine lv_iconst (v := (nI (0))) hx hb dX2_read_94 (by decide) ?_
          exact hret _ _ _ _ _ _ ⟨congrArg nI (by rw [rdV, if_neg (by decide), if_neg (by decide), if_neg (by decide), if_neg (by decide), if_neg (by decide), if_neg (by decide), if_neg (by omega)]), rfl⟩ hP hD hS dX2_read_95
        · refine lv_iconst (v := (nI (1))) hx hb dX2_read_90 (by decide) ?_
          refine lv_goto (tgt := 95) hx hb dX2_read_91 (by decide) ?_
          exact hret _ _ _ _ _ _ ⟨congrArg nI (by rw [rdV, if_neg (by decide), if_neg (by decide), if_neg (by decide), if_neg (by decide), if_neg (by decide), if_neg (by decide), if_pos (by omega)]), rfl⟩ hP hD hS dX2_read_95
  · refine lv_tableOut (tgt := 96) hx hb dX2_read_1 (rg_out hr (by decide) (by decide)) (by decide) ?_
    refine lv_iload_n hx hb dX2_read_96 rfl (lv_at hl 0 rfl) ?_
    refine lv_iconst (v := (nI (1))) hx hb dX2_read_97 (by decide) ?_
    refine lv_aload_n hx hb dX2_read_98 rfl (lv_at hl 3 rfl) ?_
    refine va_alen hx hb hK hP 0 0 rfl rfl (v := nI 4) rfl dX2_read_99 ?_
    refine nq_SNi (As := [.int (nI (v)), .int (nI (1)), .int (nI (4))]) (rest := []) (w := []) (wr := [(fA, .inl (cy 0, 4, .inl (nA FA)))]) ⟨hx, hb, hml, hown, hts⟩ (qX11_isWithin l D cy  (nI (v)) (nI (1)) (nI (4)) ) ⟨va_cnB (host := "CornDesk") 3 hts ggX2_read_X11_isWithin rfl rfl rfl (nst_m hN (by decide)) (hts (.initialized RX11) (by decide +kernel)) (by decide +kernel) ⟨Nat.le_of_ble_eq_true rfl, Nat.le_of_ble_eq_true rfl⟩, hts (.static yX11_isWithin) (by decide +kernel), trivial⟩ hP hK hD hN hS hA rfl hl.1 rfl (Nat.le_of_ble_eq_true rfl) dX2_read_100 ⟨Nat.le_of_ble_eq_true rfl, Nat.le_of_ble_eq_true rfl⟩ (fun r w1 H locs hq hP hD hS => ?_)
    obtain ⟨rfl, rfl⟩ := hq
    have hP : va_P D vwCl ([(fA, .inl (cy 0, 4, .inl (nA FA)))]) H := hP
    have hD : va_D A ([(fA, .inl (cy 0, 4, .inl (nA FA)))]) := hD
    refine lb_if_eq (tgt := 114) hx hb dX2_read_103 (by decide) (fun c1 => ?_) (fun c1 => ?_)
    · have hv10 : 10 ≤ v ∧ v < 20 := by have h1 : ¬ (1 ≤ v ∧ v ≤ 4) := fun q => c1 (rg_nI q.1 q.2 (by decide)); have h2 : ¬ (20 ≤ v ∧ v ≤ 24) := fun q => hr (rg_nI q.1 q.2 (by decide)); omega
      refine lv_iload_n hx hb dX2_read_114 rfl (lv_at hl 0 rfl) ?_
      refine lv_bipush (v := (nI (10))) hx hb dX2_read_115 (by decide) ?_
      refine ln_isub hx hb dX2_read_117 (by omega) ?_
      exact hret _ _ _ _ _ _ ⟨congrArg nI (by rw [rdV, if_neg (by omega), if_pos hv10.2]), rfl⟩ hP hD hS dX2_read_118
    · obtain ⟨v9, q1, q2, q3⟩ := rg_of c1 (by decide) (by decide)
      have q3 := (nI_eq (by omega) (by omega)).mp q3
      refine lv_aload_n hx hb dX2_read_106 rfl (lv_at hl 3 rfl) ?_
      refine lv_iload_n hx hb dX2_read_107 rfl (lv_at hl 0 rfl) ?_
      refine lv_iconst (v := (nI (1))) hx hb dX2_read_108 (by decide) ?_
      refine ln_isub hx hb dX2_read_109 (by omega) ?_
      refine ln_iald hx hb hK hP 0 0 rfl rfl (by decide) (by omega) dX2_read_110 ?_
      refine lv_goto (tgt := 118) hx hb dX2_read_111 (by decide) ?_
      exact hret _ _ _ _ _ _ ⟨congrArg nI (by rw [rdV, if_pos (by omega)]), rfl⟩ hP hD hS dX2_read_118
