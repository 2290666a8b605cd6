theorem fdv_Z {z : Int} {b : Nat} (hz : z.natAbs < 2 ^ 61) (hb2 : b < 2 ^ 61) (hb0 : 0 < b) : fdv (lZ z) (lN b) = lZ (z / (b : Int)) := by
  have bq : (z.tdiv b).natAbs ≤ z.natAbs := by rw [Int.natAbs_tdiv]; exact Nat.div_le_self _ _
  have e1 : lZ z / lN b = lZ (z.tdiv b) := lZ_div (x := z) (y := (b : Int)) (by omega) (by omega)
  have e2 : lZ (z.tdiv b) * lN b = lZ (z.tdiv b * b) := by rw [lZ_N, lZ_mul]
  have e3 : (lZ z ^^^ lN b) < 0 ↔ z < 0 := by
    rw [xor_neg (x := lZ z) (y := lN b) (by rw [pk_lT (by omega)]; omega), lZ_T (by omega) (by omega)]
  have hm := Int.mul_tdiv_add_tmod z b
  rw [Int.mul_comm] at hm
  have hm1 := Int.tmod_lt_of_pos z (show (0 : Int) < b by omega)
  have hm2 := Int.lt_tmod_of_pos z (show (0 : Int) < b by omega)
  have e4 : lZ (z.tdiv b * b) = lZ z ↔ z.tmod b = 0 := by
    generalize z.tdiv b * b = q at hm ⊢
    rw [lZ_eq (by omega) (by omega)]
    omega
  rw [fdv, e1, e2, cutI hb0]
  by_cases h1 : z < 0
  · by_cases h2 : z.tmod b = 0
    · rw [if_neg (fun g => g.2 (e4.mpr h2)), if_neg (fun g => g.1 h2)]
    · rw [if_pos ⟨e3.mpr h1, fun g => h2 (e4.mp g)⟩, if_pos ⟨h2, h1⟩, lZ_1, lZ_sub]
  · rw [if_neg (fun g => h1 (e3.mp g.1)), if_neg (fun g => h1 g.2)]
section FDR
variable {p : Program} {l : Launch} {e : Env} {R : Room} {s : State} {m : MethodId} {args : Array Value} {below : List Frame} {meth : Method} {c : Code} {H : Heap} {locs : List Loc} {cells slots : Nat} {Q : State → Prop} {T : State}
variable {pc : Nat} {ls : Array Slot} {rest : List Value}
theorem va_fdV (X : Stand p l e R s m args below meth c T locs cells slots) (hexec : p.tables.exec = Jvm.exec) {own : String} {index : Nat} (hown : s.vm.findClass own = some m.cls)
    (hlink : (Cond.methodLink own index yJ9_floorDiv_f86c9).before args s = true) (hstat : (Cond.static yJ9_floorDiv_f86c9).before args s = true) (hinit : (Cond.initialized "java/lang/Math").before args s = true)
    (hcode : (Cond.code yJ9_floorDiv_f86c9 cJ9_floorDiv_f86c9 6 (some .long)).before args s = true)
    {g : JFrame} (hg : g.method = m) (hsize : g.locals.size = c.maxLocals) {a b : Int64} (hne : ¬ b = 0) {rest : List Value} (hstack : g.stack = .long b :: .long a :: rest) (hdg : decode c.code g.pc = .ok (.invokestatic index, 3))
    (hframes : 1 ≤ R.frames) (hlocals : 2 * g.monitorRoom + (rest.map fun v => v.category).sum + 17 ≤ R.locals) (hcells : cells ≤ R.cells) (hslots : slots ≤ R.slots) :
    ∃ vm', Stand p l e R s m args below meth c (T.setVm vm') locs cells slots ∧
      ∀ target, Steps p.tables e below ((T.setVm vm').setTop { g with pc := g.pc + 3, stack := .long (fdv a b) :: rest }) target → Steps p.tables e below (T.setTop g) target := by
  obtain ⟨v, T', X', ⟨first, t, hpost⟩, hstep⟩ := X.staticByContractV hexec hown hlink hstat hinit hcode (by decide)
    (fd_meets l a b hne)
    rfl rfl rfl rfl
    (fun args' first o s₂ h => by
      cases o with
      | returned r => exact ⟨r, rfl⟩
      | threw y =>
        have hz : (fd_spec a b).post.value args' first (some (.threw y)) s₂ [] = some true := by simpa [Cond.after, Cond.holds] using h
        exact absurd hz va_nvRet)
    hg hsize (argsL := [.long a, .long b]) (rest := rest)
    (fun sig hs => by
      have h : parseMethodDescriptor "(JJ)J" = some { parameters := [.long, .long], returnType := some .long } := by decide +kernel
      rw [show yJ9_floorDiv_f86c9.desc = "(JJ)J" from rfl, h] at hs
      rw [← Option.some.inj hs]; rfl)
    hstack hdg
    (fun vm' hW => by
      simp only [fd_spec, Cond.before_and, Bool.and_eq_true]
      refine ⟨?_, rfl, rfl, rfl, ?_, ?_⟩
      · have q := hcode
        rw [← Cond.code_setVm hW.alike] at q
        simp only [Cond.before, Cond.holds, Cond.value, State.methodNamed?, State.vm_setVm] at q ⊢
        exact q
      · simp [Cond.before, Cond.holds, Cond.value, Term.eval]
      · simp [Cond.before, Cond.holds, Cond.value, Term.eval])
    (by show 0 + 1 ≤ R.frames; omega) (by show 2 * g.monitorRoom + (rest.map fun v => v.category).sum + (6 + 11) + 0 ≤ R.locals; omega) (by show cells + 0 ≤ R.cells; omega) (by show slots + 0 ≤ R.slots; omega)
  refine ⟨T', X', fun target h => hstep target ?_⟩
  obtain rfl : v = some (.long (fdv a b)) := by
    rcases v with _ | w
    · simp [fd_spec, Cond.after, Cond.holds, Cond.value, Term.eval] at hpost
    · cases w <;> simp [fd_spec, Cond.after, Cond.holds, Cond.value, Term.eval] at hpost
      first | (simp [hpost]; done) | (rename_i r; by_cases hr : r = (fdv a b) <;> simp [hr] at hpost ⊢)
  exact h
theorem va_mfd {cc : ByteArray} (hexec : p.tables.exec = Jvm.exec) (hb : c.code = cc) (hml : c.maxLocals = ls.size) {own : String} {index : Nat} (hown : s.vm.findClass own = some m.cls) (hlink : (Cond.methodLink own index yJ9_floorDiv_f86c9).before args s = true) (hstat : (Cond.static yJ9_floorDiv_f86c9).before args s = true) (hini : (Cond.initialized "java/lang/Math").before args s = true) (hcode : (Cond.code yJ9_floorDiv_f86c9 cJ9_floorDiv_f86c9 6 (some .long)).before args s = true)
    (hframes : 1 ≤ R.frames) (hlocals : (rest.map fun v => v.category).sum + 17 ≤ R.locals) (hc : cells ≤ R.cells) (hs : slots ≤ R.slots) {x y : Int64} (hne : ¬ y = 0) (hdg : decode cc pc = .ok (.invokestatic index, 3))
    (kk : W p l e R s m args below meth c H locs cells slots Q (F0 m (pc + 3) ls (.long (fdv x y) :: rest))) : W p l e R s m args below meth c H locs cells slots Q (F0 m pc ls (.long y :: .long x :: rest)) := by
  intro T hT X
  obtain ⟨vm', X', st⟩ := va_fdV X hexec hown hlink hstat hini hcode (g := F0 m pc ls (.long y :: .long x :: rest)) rfl (by rw [hml]) (a := x) (b := y) hne (rest := rest) rfl (by rw [hb]; exact hdg) hframes (by show 2 * 0 + _ + 17 ≤ _; omega) hc hs
  obtain ⟨t, a1, b1⟩ := kk (T.setVm vm') hT X'
  exact ⟨t, st t a1, b1⟩
end FDR
theorem lg_cmp_le9 (x y : Int64) : lg_cmp x y ≤ 0 ↔ x ≤ y := by
  rw [← Int32.not_lt, lg_gt, Int64.not_lt]
set_option maxHeartbeats 4000000 in
set_option maxRecDepth 100000 in
theorem qX4_cutAt (l : Launch) (D : va_G) (cy : Nat → ClassId) (h : Nat) (f : Nat) (t : Nat) (n : Nat) (F : Nat → Nat) (T : Nat → Nat) (u : Nat) (hn : n ≤ 8) (hF : w9 F n) (hT : w9 T n) (h0 : 0 < vSp F n) (hu : u ≤ 999) : nq_l l D (cT cy) yX4_cutAt wsX4_cutAt 1 0 0 26 [.ref (h), .int (nI (u))] ([(h, .inr (4, [.ref (f), .ref (t), .int (nI (n)), .long (lZ (vBs F T n)), .long (lZ (vSl F T n)), .long (lZ (vSp F n)), .long (lZ (vSp T n)), .long (lN (vWo F T n))])), (f, .inl (cy 0, 8, .inl (nA F))), (t, .inl (cy 0, 8, .inl (nA T)))]) (fun r w1 => r = lZ (vUp F T n ((u : Nat) : Int) / (((vSp F n).toNat : Nat) : Int)) ∧ w1 = [(h, .inr (4, [.ref (f), .ref (t), .int (nI (n)), .long (lZ (vBs F T n)), .long (lZ (vSl F T n)), .long (lZ (vSp F n)), .long (lZ (vSp T n)), .long (lN (vWo F T n))])), (f, .inl (cy 0, 8, .inl (nA F))), (t, .inl (cy 0, 8, .inl (nA T)))]) := by
  refine nq_l_of (cc := cX4_cutAt) (maxL := 2) (by decide) rfl (Nat.le_of_ble_eq_true rfl) ?_
  intro p e s m args below meth c A Q ls hx hb hts hown hml hnm hN hA hP hK hD hS hl hret
  have hown : s.vm.findClass RX4 = some m.cls := hown
  have hinX4 : ∀ w ∈ u_ws RX4 TX4 8, w ∈ wsX4_cutAt := by decide +kernel
  have hl : lv_has ls 2 [(0, .ref (h)), (1, .int (nI (u)))] := hl
  have hP : va_P D vwCl ([(h, .inr (4, [.ref (f), .ref (t), .int (nI (n)), .long (lZ (vBs F T n)), .long (lZ (vSl F T n)), .long (lZ (vSp F n)), .long (lZ (vSp T n)), .long (lN (vWo F T n))])), (f, .inl (cy 0, 8, .inl (nA F))), (t, .inl (cy 0, 8, .inl (nA T)))]) s.heap := hP
  refine lv_aload_n hx hb dX4_cutAt_0 rfl (lv_at hl 0 rfl) ?_
  refine va_get (D := D) (ci := 4) (v := .long (lZ (vSp F n))) (C := RX4) (T := TX4) (N := 8) hx hb hts hinX4 hown hK hP 0 rfl rfl 5 (by decide) (hts (.fieldLink RX4 25 "CornDesk$Line" "spread" "J") (by decide +kernel)) (fun _ h9 => h9) rfl dX4_cutAt_1 ?_
  refine lv_lconst (v := 0) hx hb dX4_cutAt_4 (by decide) ?_
  refine W.lcmp hx hb dX4_cutAt_5 ?_
  refine lv_if_le (tgt := 24) hx hb dX4_cutAt_6 (by decide) (fun c1 => ?_) (fun c1 => ?_)
  · exact absurd ((lg_cmp_le9 _ _).mp c1) (Int64.not_le.mpr ((lZ_lt (x := 0) (y := vSp F n) (by decide) (by have := vSp_b hn hF; omega)).mpr h0))
  · have bS := vSp_b hn hF
    have bU := vUp_b hn hF hT (u := ((u : Nat) : Int)) (by omega)
    refine lv_aload_n hx hb dX4_cutAt_9 rfl (lv_at hl 0 rfl) ?_
    refine lv_iload_n hx hb dX4_cutAt_10 rfl (lv_at hl 1 rfl) ?_
    refine nq_Vl (As := [.int (nI (u))]) (rest := []) (w := [(h, .inr (4, [.ref (f), .ref (t), .int (nI (n)), .long (lZ (vBs F T n)), .long (lZ (vSl F T n)), .long (lZ (vSp F n)), .long (lZ (vSp T n)), .long (lN (vWo F T n))])), (f, .inl (cy 0, 8, .inl (nA F))), (t, .inl (cy 0, 8, .inl (nA T)))]) (wr := []) (ci := 4) (k0 := 0) ⟨hx, hb, hml, hown, hts⟩ (qX4_upperAt l D cy h f t n (lZ (vBs F T n)) (lZ (vSl F T n)) (lZ (vSp F n)) (lZ (vSp T n)) (lN (vWo F T n)) F T (nI (u)) ) (cwV 1 hts gX4_cutAt_X4_upperAt rfl rfl rfl (by decide +kernel) ⟨Nat.le_of_ble_eq_true rfl, Nat.le_of_ble_eq_true rfl⟩) rfl rfl hP hK hD hN hS hA rfl hl.1 rfl (Nat.le_of_ble_eq_true rfl) dX4_cutAt_11 ⟨Nat.le_of_ble_eq_true rfl, Nat.le_of_ble_eq_true rfl⟩ (fun r w1 H locs hq hP hD hS => ?_)
    obtain ⟨rfl, rfl⟩ := hq
    have hP : va_P D vwCl ([(h, .inr (4, [.ref (f), .ref (t), .int (nI (n)), .long (lZ (vBs F T n)), .long (lZ (vSl F T n)), .long (lZ (vSp F n)), .long (lZ (vSp T n)), .long (lN (vWo F T n))])), (f, .inl (cy 0, 8, .inl (nA F))), (t, .inl (cy 0, 8, .inl (nA T)))]) H := hP
    have hD : va_D A ([(h, .inr (4, [.ref (f), .ref (t), .int (nI (n)), .long (lZ (vBs F T n)), .long (lZ (vSl F T n)), .long (lZ (vSp F n)), .long (lZ (vSp T n)), .long (lN (vWo F T n))])), (f, .inl (cy 0, 8, .inl (nA F))), (t, .inl (cy 0, 8, .inl (nA T)))]) := hD
    refine ln_eql (y := (lZ (vUp F T n ((u : Nat) : Int)))) (by rw [nI_lZ (by omega), lZ_mul, lZ_add]; rfl) ?_
    refine lv_aload_n hx hb dX4_cutAt_14 rfl (lv_at hl 0 rfl) ?_
    refine va_get (D := D) (ci := 4) (v := .long (lZ (vSp F n))) (C := RX4) (T := TX4) (N := 8) hx hb hts hinX4 hown hK hP 0 rfl rfl 5 (by decide) (hts (.fieldLink RX4 25 "CornDesk$Line" "spread" "J") (by decide +kernel)) (fun _ h9 => h9) rfl dX4_cutAt_15 ?_
    refine ln_eql (y := (lN ((vSp F n).toNat))) (by rw [lZ_N, Int.toNat_of_nonneg (by omega)]) ?_
    refine va_mfd hx hb (hml.trans hl.1.symm) hown (hts (.methodLink RX4 39 yJ9_floorDiv_f86c9) (by decide +kernel)) (hts (.static yJ9_floorDiv_f86c9) (by decide +kernel)) (hts (.initialized "java/lang/Math") (by decide +kernel)) (hts (.code yJ9_floorDiv_f86c9 cJ9_floorDiv_f86c9 6 (some .long)) (by decide +kernel)) (Nat.le_of_ble_eq_true rfl) (Nat.le_of_ble_eq_true rfl) (Nat.le_of_ble_eq_true rfl) (Nat.le_of_ble_eq_true rfl) (fun q => by have := (lN0 (by omega)).mp q; omega) dX4_cutAt_18 ?_
    refine ln_eql (y := (lZ (vUp F T n ((u : Nat) : Int) / (((vSp F n).toNat : Nat) : Int)))) (fdv_Z (by omega) (by omega) (by omega)) ?_
    refine lv_goto (tgt := 25) hx hb dX4_cutAt_21 (by decide) ?_
    exact hret _ _ _ _ _ _ ⟨rfl, rfl⟩ hP hD hS dX4_cutAt_25
