/-- the cells of a step, and the steps there are -/
def stC (cy : Nat → ClassId) (sa ra AC WH : Nat → Nat) (RW : Nat → Nat → Nat) (i : Nat) : va_W := [(sa i, .inr (9, [.int (nI (AC i)), .int (nI (WH i)), .ref (ra i)])), (ra i, .inl (cy 0, 12, .inl (nA (RW i))))]
def stP (cy : Nat → ClassId) (sa ra AC WH : Nat → Nat) (RW : Nat → Nat → Nat) (n : Nat) : va_W := (List.range n).flatMap (stC cy sa ra AC WH RW)
abbrev stZ (cy : Nat → ClassId) (sa ra : Nat → Nat) (n : Nat) : va_W := stP cy sa ra (fun _ => 0) (fun _ => 0) (fun _ _ => 0) n
def stF (sa : Nat → Nat) (n : Nat) : Nat → Option Nat := fun j => if j < n then some (sa j) else none
theorem stF_0 (sa : Nat → Nat) : stF sa 0 = fun _ => none := by
  funext j
  exact if_neg (Nat.not_lt_zero j)
theorem stF_up (sa : Nat → Nat) (n q : Nat) : va_up (stF sa n) n (some q) = stF (fun j => if j = n then q else sa j) (n + 1) := by
  funext j
  simp only [va_up, stF]
  by_cases h : j = n
  · subst h; simp
  · by_cases h2 : j < n
    · rw [if_neg h, if_pos h2, if_pos (by omega)]; simp [h]
    · rw [if_neg h, if_neg h2, if_neg (by omega)]
theorem stZ_up (cy : Nat → ClassId) (sa ra : Nat → Nat) (n q r : Nat) : (stZ cy sa ra n) ++ [(q, .inr (9, [.int (nI 0), .int (nI 0), .ref r])), (r, .inl (cy 0, 12, .inl (nA (fun _ => 0))))] = stZ cy (fun j => if j = n then q else sa j) (fun j => if j = n then r else ra j) (n + 1) := by
  show stP _ _ _ _ _ _ n ++ _ = stP _ _ _ _ _ _ (n + 1)
  rw [stP, stP, pool_push, pool_cong (f' := stC cy (fun j => if j = n then q else sa j) (fun j => if j = n then r else ra j) (fun _ => 0) (fun _ => 0) (fun _ _ => 0)) (f := stC cy sa ra (fun _ => 0) (fun _ => 0) (fun _ _ => 0)) (fun j hj => by simp only [stC, if_neg (Nat.ne_of_lt hj)])]
  congr 1
  simp [stC]
theorem ap_perm {α : Type} (a t r : List α) : ((a ++ t) ++ r).Perm ((a ++ r) ++ t) := by
  rw [List.append_assoc, List.append_assoc]
  exact List.Perm.append_left a List.perm_append_comm
theorem W.cast9 {p : Program} {l : Launch} {e : Env} {R : Room} {s : State} {m : MethodId} {args : Array Value} {below : List Frame} {meth : Method} {c : Code} {H : Heap} {locs : List Loc} {c1 s1 c2 s2 : Nat} {Q : State → Prop} {g : JFrame} (h1 : c1 = c2) (h2 : s1 = s2) (h : W p l e R s m args below meth c H locs c1 s1 Q g) : W p l e R s m args below meth c H locs c2 s2 Q g := by
  subst h1; subst h2; exact h
set_option maxHeartbeats 4000000 in
set_option maxRecDepth 100000 in
theorem qX6_init (l : Launch) (D : va_G) (cy : Nat → ClassId) (pq : Nat)   : nq_v l D (cT cy) yX6_init wsX6_init 2 41 320 34 [.ref (pq)] ([(pq, .inr (6, [.null, .int (nI (0)), .int (nI (0))]))]) (fun w1 => ∃ (a : Nat) (sa ra : Nat → Nat), w1 = ([(pq, .inr (6, [.ref (a), .int (nI (0)), .int (nI (0))])), (a, .inl (cy 7, 20, .inr (.inr (.inr (.inr (stF sa 20))))))] : va_W) ++ stZ cy sa ra 20) := by
  refine nq_v_of (cc := cX6_init) (maxL := 2) (by decide) rfl (Nat.le_of_ble_eq_true rfl) ?_
  intro p e s m args below meth c A Q ls hx hb hts hown hml hnm hN hA hP hK hD hS hl hret
  have hown : s.vm.findClass RX6 = some m.cls := hown
  have hnm : meth.name = "<init>" := hnm
  have hinX6 : ∀ w ∈ u_ws RX6 TX6 3, w ∈ wsX6_init := by decide +kernel
  have hinX9 : ∀ w ∈ u_ws RX9 TX9 3, w ∈ wsX6_init := by decide +kernel
  have hl : lv_has ls 2 [(0, .ref (pq))] := hl
  have hP : va_P D vwCl ([(pq, .inr (6, [.null, .int (nI (0)), .int (nI (0))]))]) s.heap := hP
  refine lv_aload_n hx hb dX6_init_0 rfl (lv_at hl 0 rfl) ?_
  refine W.objInit hx hb hown (hts (.methodLink RX6 3 objectInit) (by decide +kernel)) (hts (.instanceMethod objectInit) (by decide +kernel)) (hts (.code objectInit ⟨#[0xb1]⟩ 1 none) (List.mem_cons_of_mem _ (by first | exact List.mem_append_left _ (List.mem_of_getElem? (i := 2) rfl) | exact List.mem_of_getElem? (i := 2) rfl))) rfl (by rw [hml]; exact hl.1) rfl dX6_init_1 (Nat.le_of_ble_eq_true rfl) (Nat.le_of_ble_eq_true rfl) ?_
  refine W.eq (g2 := F0 m 4 ls []) rfl ?_
  refine lv_aload_n hx hb dX6_init_4 rfl (lv_at hl 0 rfl) ?_
  refine lv_bipush (v := (nI (20))) hx hb dX6_init_5 (by decide) ?_
  refine mk_q hx hb hown (hts (.classLink RX6 9 RX9) (by decide +kernel)) (nst_o hN (by decide)) hK hP hD hS hA 7 rfl (by decide) (Nat.le_of_ble_eq_true rfl) (Nat.le_of_ble_eq_true rfl) dX6_init_7 (fun q_1 H hP hD hS => ?_)
  have hP : va_P D vwCl ([(pq, .inr (6, [.null, .int (nI (0)), .int (nI (0))])), (q_1, .inl (cy 7, 20, .inr (.inr (.inr (.inr (fun _ => none))))))]) H := hP
  have hD : va_D A ([(pq, .inr (6, [.null, .int (nI (0)), .int (nI (0))])), (q_1, .inl (cy 7, 20, .inr (.inr (.inr (.inr (fun _ => none))))))]) := hD
  refine va_putF (D := D) (ci := 6) (v := .ref (q_1)) (ty := .array (.object "CornDesk$Step")) (C := RX6) (T := TX6) (N := 3) hx hb hts hinX6 tyX6 tyX6_ok nmX6 hown hK hP hD hS 0 rfl rfl 0 (by decide) (hts (.fieldLink RX6 11 "CornDesk$Past" "steps" "[LCornDesk$Step;") (by decide +kernel)) (fun _ h9 => h9) rfl hnm rfl (by decide +kernel) rfl rfl (Nat.le_of_ble_eq_true rfl) dX6_init_10 (fun H locs hP hD hS => ?_)
  have hP : va_P D vwCl ([(pq, .inr (6, [.ref (q_1), .int (nI (0)), .int (nI (0))])), (q_1, .inl (cy 7, 20, .inr (.inr (.inr (.inr (fun _ => none))))))]) H := hP
  have hD : va_D A ([(pq, .inr (6, [.ref (q_1), .int (nI (0)), .int (nI (0))])), (q_1, .inl (cy 7, 20, .inr (.inr (.inr (.inr (fun _ => none))))))]) := hD
  refine lv_iconst (v := (nI (0))) hx hb dX6_init_13 (by decide) ?_
  refine lv_istore_n (lv' := [(1, .int (nI (0))), (0, .ref (pq))]) hx hb dX6_init_14 rfl hl (by decide) rfl (fun ls hl => ?_)
  have lp : ∀ (i j : Nat) (sa ra : Nat → Nat), j + i = 20 → ∀ (H : Heap) (locs : List Loc) (ls : Array Slot), va_P D vwCl (([(pq, .inr (6, [.ref (q_1), .int (nI (0)), .int (nI (0))])), (q_1, .inl (cy 7, 20, .inr (.inr (.inr (.inr (stF sa j))))))] : va_W) ++ stZ cy sa ra j) H → va_D A (([(pq, .inr (6, [.ref (q_1), .int (nI (0)), .int (nI (0))])), (q_1, .inl (cy 7, 20, .inr (.inr (.inr (.inr (stF sa j))))))] : va_W) ++ stZ cy sa ra j) → va_S A s.heap H locs → lv_has ls 2 [(1, .int (nI (j))), (0, .ref (pq))] → W p l e (mq_R 2 41 320 34) s m args below meth c H locs (1 + 2 * j) (20 + 15 * j) Q (F0 m 15 ls []) := by
    intro i
    induction i with
    | zero =>
      intro j sa ra hk H locs ls hP hD hS hl
      refine lv_iload_n hx hb dX6_init_15 rfl (lv_at hl 0 rfl) ?_
      refine lv_bipush (v := (nI (20))) hx hb dX6_init_16 (by decide) ?_
      refine ln_icmp_ge (tgt := 40) hx hb dX6_init_18 (by decide) (by omega) (by omega) (fun c1 => ?_) (fun c1 => ?_)
      · have hj0 : j = 20 := by omega
        subst hj0
        exact hret _ _ _ _ _ ⟨q_1, sa, ra, rfl⟩ hP hD hS dX6_init_40
      · exact absurd hk (by omega)
    | succ i ih =>
      intro j sa ra hk H locs ls hP hD hS hl
      refine lv_iload_n hx hb dX6_init_15 rfl (lv_at hl 0 rfl) ?_
      refine lv_bipush (v := (nI (20))) hx hb dX6_init_16 (by decide) ?_
      refine ln_icmp_ge (tgt := 40) hx hb dX6_init_18 (by decide) (by omega) (by omega) (fun c1 => ?_) (fun c1 => ?_)
      · exact absurd hk (by omega)
      · refine lv_aload_n hx hb dX6_init_21 rfl (lv_at hl 1 rfl) ?_
        refine va_get (D := D) (ci := 6) (v := .ref (q_1)) (C := RX6) (T := TX6) (N := 3) hx hb hts hinX6 hown hK hP 0 rfl rfl 0 (by decide) (hts (.fieldLink RX6 11 "CornDesk$Past" "steps" "[LCornDesk$Step;") (by decide +kernel)) (fun _ h9 => h9) rfl dX6_init_22 ?_
        refine lv_iload_n hx hb dX6_init_25 rfl (lv_at hl 0 rfl) ?_
        refine va_new (ci := 9) (fs := [.int (nI (0)), .int (nI (0)), .null]) (C := RX9) (T := TX9) (N := 3) hx hb hts hinX9 tyX9 tyX9_ok hown (hts (.classLink RX6 9 RX9) (by decide +kernel)) (hts (.instantiable RX9 3) (by decide +kernel)) (hts (.initialized RX9) (by decide +kernel)) hK hP hD hS hA rfl (fun j hj => by rcases (show j = 0 ∨ j = 1 ∨ j = 2 by omega) with rfl | rfl | rfl <;> rfl) (show 1 + 2 * j + 1 ≤ 41 by omega) (show 20 + 15 * j + 3 ≤ 320 by omega) dX6_init_26 (fun o_2 H hP hD hS => ?_)
        have hP := hP.perm (tl_perm _ _ _)
        have hD := hD.perm (tl_perm _ _ _)
        have hP : va_P D vwCl (([(pq, .inr (6, [.ref (q_1), .int (nI (0)), .int (nI (0))])), (q_1, .inl (cy 7, 20, .inr (.inr (.inr (.inr (stF sa j)))))), (o_2, .inr (9, [.int (nI (0)), .int (nI (0)), .null]))] : va_W) ++ stZ cy sa ra j) _ := hP
        have hD : va_D A (([(pq, .inr (6, [.ref (q_1), .int (nI (0)), .int (nI (0))])), (q_1, .inl (cy 7, 20, .inr (.inr (.inr (.inr (stF sa j)))))), (o_2, .inr (9, [.int (nI (0)), .int (nI (0)), .null]))] : va_W) ++ stZ cy sa ra j) := hD
        refine lv_dup hx hb dX6_init_29 rfl ?_
        have hpm := (va_perm_of (w := [(pq, .inr (6, [.ref (q_1), .int (nI (0)), .int (nI (0))])), (q_1, .inl (cy 7, 20, .inr (.inr (.inr (.inr (stF sa j)))))), (o_2, .inr (9, [.int (nI (0)), .int (nI (0)), .null]))]) (w' := [(o_2, .inr (9, [.int (nI (0)), .int (nI (0)), .null])), (pq, .inr (6, [.ref (q_1), .int (nI (0)), .int (nI (0))])), (q_1, .inl (cy 7, 20, .inr (.inr (.inr (.inr (stF sa j))))))]) [2, 0, 1] (by decide) rfl rfl).append_right (stZ cy sa ra j)
        have hP := hP.perm hpm
        have hD := hD.perm hpm
        have hP : va_P D vwCl (([(o_2, .inr (9, [.int (nI (0)), .int (nI (0)), .null]))] : va_W) ++ (([(pq, .inr (6, [.ref (q_1), .int (nI (0)), .int (nI (0))])), (q_1, .inl (cy 7, 20, .inr (.inr (.inr (.inr (stF sa j))))))] : va_W) ++ stZ cy sa ra j)) _ := hP
        have hD : va_D A (([(o_2, .inr (9, [.int (nI (0)), .int (nI (0)), .null]))] : va_W) ++ (([(pq, .inr (6, [.ref (q_1), .int (nI (0)), .int (nI (0))])), (q_1, .inl (cy 7, 20, .inr (.inr (.inr (.inr (stF sa j))))))] : va_W) ++ stZ cy sa ra j)) := hD
        refine nq_INv (As := []) (rest := [.ref (o_2), .int (nI (j)), .ref (q_1)]) (w := [(o_2, .inr (9, [.int (nI (0)), .int (nI (0)), .null]))]) (wr := (([(pq, .inr (6, [.ref (q_1), .int (nI (0)), .int (nI (0))])), (q_1, .inl (cy 7, 20, .inr (.inr (.inr (.inr (stF sa j))))))] : va_W) ++ stZ cy sa ra j)) ⟨hx, hb, hml, hown, hts⟩ (qX9_init l D cy o_2  ) ⟨va_cnB (host := "CornDesk") 0 hts ggX6_init_X9_init rfl rfl rfl (nst_m hN (by decide)) (hts (.initialized RX9) (by decide +kernel)) (by decide +kernel) ⟨Nat.le_of_ble_eq_true rfl, Nat.le_of_ble_eq_true rfl⟩, rfl, hts (.instanceMethod yX9_init) (by decide +kernel)⟩ hP hK hD hN hS hA rfl hl.1 rfl (Nat.le_of_ble_eq_true rfl) dX6_init_30 ⟨show 1 + 2 * j + 1 + 1 ≤ 41 by omega, show 20 + 15 * j + 3 + 12 ≤ 320 by omega⟩ (fun w1 H locs hq hP hD hS => ?_)
        obtain ⟨a_3, rfl⟩ := hq
        have hP : va_P D vwCl (([(o_2, .inr (9, [.int (nI (0)), .int (nI (0)), .ref (a_3)])), (a_3, .inl (cy 0, 12, .inl (nA (fun _ => 0)))), (pq, .inr (6, [.ref (q_1), .int (nI (0)), .int (nI (0))])), (q_1, .inl (cy 7, 20, .inr (.inr (.inr (.inr (stF sa j))))))] : va_W) ++ stZ cy sa ra j) _ := hP
        have hD : va_D A (([(o_2, .inr (9, [.int (nI (0)), .int (nI (0)), .ref (a_3)])), (a_3, .inl (cy 0, 12, .inl (nA (fun _ => 0)))), (pq, .inr (6, [.ref (q_1), .int (nI (0)), .int (nI (0))])), (q_1, .inl (cy 7, 20, .inr (.inr (.inr (.inr (stF sa j))))))] : va_W) ++ stZ cy sa ra j) := hD
        refine ln_aast hx hb hK hP hD hS 3 7 0 9 rfl rfl rfl rfl (by decide) (by omega) dX6_init_33 (fun H locs hP hD hS => ?_)
        have hP : va_P D vwCl (([(o_2, .inr (9, [.int (nI (0)), .int (nI (0)), .ref (a_3)])), (a_3, .inl (cy 0, 12, .inl (nA (fun _ => 0)))), (pq, .inr (6, [.ref (q_1), .int (nI (0)), .int (nI (0))])), (q_1, .inl (cy 7, 20, .inr (.inr (.inr (.inr (va_up (stF sa j) (j) (some (o_2))))))))] : va_W) ++ stZ cy sa ra j) _ := hP
        have hD : va_D A (([(o_2, .inr (9, [.int (nI (0)), .int (nI (0)), .ref (a_3)])), (a_3, .inl (cy 0, 12, .inl (nA (fun _ => 0)))), (pq, .inr (6, [.ref (q_1), .int (nI (0)), .int (nI (0))])), (q_1, .inl (cy 7, 20, .inr (.inr (.inr (.inr (va_up (stF sa j) (j) (some (o_2))))))))] : va_W) ++ stZ cy sa ra j) := hD
        refine lv_iinc (v := (nI (j + 1))) (lv' := [(1, .int (nI (j + 1))), (0, .ref (pq))]) hx hb dX6_init_34 hl (k := 0) rfl (by rw [show (Int32.ofInt 1) = nI 1 from rfl, nI_add]) (by decide) rfl (fun ls hl => ?_)
        refine lv_goto (tgt := 15) hx hb dX6_init_37 (by decide) ?_
        have hpm := (va_perm_of (w := [(o_2, .inr (9, [.int (nI (0)), .int (nI (0)), .ref (a_3)])), (a_3, .inl (cy 0, 12, .inl (nA (fun _ => 0)))), (pq, .inr (6, [.ref (q_1), .int (nI (0)), .int (nI (0))])), (q_1, .inl (cy 7, 20, .inr (.inr (.inr (.inr (va_up (stF sa j) (j) (some (o_2))))))))]) (w' := [(pq, .inr (6, [.ref (q_1), .int (nI (0)), .int (nI (0))])), (q_1, .inl (cy 7, 20, .inr (.inr (.inr (.inr (va_up (stF sa j) (j) (some (o_2)))))))), (o_2, .inr (9, [.int (nI (0)), .int (nI (0)), .ref (a_3)])), (a_3, .inl (cy 0, 12, .inl (nA (fun _ => 0))))]) [2, 3, 0, 1] (by decide) rfl rfl).append_right (stZ cy sa ra j)
        have hP := hP.perm hpm
        have hD := hD.perm hpm
        have hpm : ((([(pq, .inr (6, [.ref (q_1), .int (nI (0)), .int (nI (0))])), (q_1, .inl (cy 7, 20, .inr (.inr (.inr (.inr (va_up (stF sa j) (j) (some (o_2))))))))] : va_W) ++ ([(o_2, .inr (9, [.int (nI (0)), .int (nI (0)), .ref (a_3)])), (a_3, .inl (cy 0, 12, .inl (nA (fun _ => 0))))] : va_W)) ++ stZ cy sa ra j).Perm (([(pq, .inr (6, [.ref (q_1), .int (nI (0)), .int (nI (0))])), (q_1, .inl (cy 7, 20, .inr (.inr (.inr (.inr (va_up (stF sa j) (j) (some (o_2))))))))] : va_W) ++ (stZ cy sa ra j ++ ([(o_2, .inr (9, [.int (nI (0)), .int (nI (0)), .ref (a_3)])), (a_3, .inl (cy 0, 12, .inl (nA (fun _ => 0))))] : va_W))) := by rw [List.append_assoc]; exact List.Perm.append_left _ List.perm_append_comm
        have hP := va_P.perm (w := (([(pq, .inr (6, [.ref (q_1), .int (nI (0)), .int (nI (0))])), (q_1, .inl (cy 7, 20, .inr (.inr (.inr (.inr (va_up (stF sa j) (j) (some (o_2))))))))] : va_W) ++ ([(o_2, .inr (9, [.int (nI (0)), .int (nI (0)), .ref (a_3)])), (a_3, .inl (cy 0, 12, .inl (nA (fun _ => 0))))] : va_W)) ++ stZ cy sa ra j) hP hpm
        have hD := va_D.perm (w := (([(pq, .inr (6, [.ref (q_1), .int (nI (0)), .int (nI (0))])), (q_1, .inl (cy 7, 20, .inr (.inr (.inr (.inr (va_up (stF sa j) (j) (some (o_2))))))))] : va_W) ++ ([(o_2, .inr (9, [.int (nI (0)), .int (nI (0)), .ref (a_3)])), (a_3, .inl (cy 0, 12, .inl (nA (fun _ => 0))))] : va_W)) ++ stZ cy sa ra j) hD hpm
        rw [stZ_up, stF_up] at hP hD
        have hl := lv_sub hl [0, 1] rfl
        exact W.cast9 (c1 := 1 + 2 * (j + 1)) (s1 := 20 + 15 * (j + 1)) (by omega) (by omega) (ih (j + 1) _ _ (by omega) _ _ _ hP hD hS hl)
  rw [← stF_0 (fun _ => 0)] at hP hD
  exact lp 20 0 (fun _ => 0) (fun _ => 0) rfl _ _ _ (by rw [show stZ cy (fun _ => 0) (fun _ => 0) 0 = [] from rfl, List.append_nil]; exact hP) (by rw [show stZ cy (fun _ => 0) (fun _ => 0) 0 = [] from rfl, List.append_nil]; exact hD) hS (lv_sub hl [0, 1] rfl)
set_option maxHeartbeats 4000000 in
set_option maxRecDepth 100000 in
theorem qX6_kept (l : Launch) (D : va_G) (cy : Nat → ClassId) (pq : Nat) (sA0 : Nat) (nx : Nat) (kp : Nat) (SQ : Nat → Option Nat)   : nq_i l D (cT cy) yX6_kept wsX6_kept 0 0 0 0 [.ref (pq)] ([(pq, .inr (6, [.ref (sA0), .int (nI (nx)), .int (nI (kp))])), (sA0, .inl (cy 7, 20, .inr (.inr (.inr (.inr SQ)))))]) (fun r w1 => r = nI kp ∧ w1 = [(pq, .inr (6, [.ref (sA0), .int (nI (nx)), .int (nI (kp))])), (sA0, .inl (cy 7, 20, .inr (.inr (.inr (.inr SQ)))))]) := by
  refine nq_i_of (cc := cX6_kept) (maxL := 1) (by decide) rfl (Nat.le_of_ble_eq_true rfl) ?_
  intro p e s m args below meth c A Q ls hx hb hts hown hml hnm hN hA hP hK hD hS hl hret
  have hown : s.vm.findClass RX6 = some m.cls := hown
  have hinX6 : ∀ w ∈ u_ws RX6 TX6 3, w ∈ wsX6_kept := by decide +kernel
  have hl : lv_has ls 1 [(0, .ref (pq))] := hl
  have hP : va_P D vwCl ([(pq, .inr (6, [.ref (sA0), .int (nI (nx)), .int (nI (kp))])), (sA0, .inl (cy 7, 20, .inr (.inr (.inr (.inr SQ)))))]) s.heap := hP
  refine lv_aload_n hx hb dX6_kept_0 rfl (lv_at hl 0 rfl) ?_
  refine va_get (D := D) (ci := 6) (v := .int (nI (kp))) (C := RX6) (T := TX6) (N := 3) hx hb hts hinX6 hown hK hP 0 rfl rfl 2 (by decide) (hts (.fieldLink RX6 18 "CornDesk$Past" "kept" "I") (by decide +kernel)) (fun _ h9 => h9) rfl dX6_kept_1 ?_
  exact hret _ _ _ _ _ _ ⟨rfl, rfl⟩ hP hD hS dX6_kept_4
set_option maxHeartbeats 4000000 in
set_option maxRecDepth 100000 in
theorem qX6_keep (l : Launch) (D : va_G) (cy : Nat → ClassId) (pq : Nat) (sA0 : Nat) (nx : Nat) (kp : Nat) (SQ : Nat → Option Nat) (s0 : Nat) (ac : Nat) (wh : Nat) (rw0 : Nat) (RW : Nat → Nat) (a1 : Nat) (w1n : Nat) (hx20 : nx < 20) (hk20 : kp ≤ 20) (hs : SQ nx = some s0) : nq_r l D (cT cy) yX6_keep wsX6_keep 1 0 0 26 [.ref (pq), .int (nI (a1)), .int (nI (w1n))] ([(pq, .inr (6, [.ref (sA0), .int (nI (nx)), .int (nI (kp))])), (sA0, .inl (cy 7, 20, .inr (.inr (.inr (.inr SQ))))), (s0, .inr (9, [.int (nI (ac)), .int (nI (wh)), .ref (rw0)])), (rw0, .inl (cy 0, 12, .inl (nA RW)))]) (fun r w1 => r = some s0 ∧ w1 = [(pq, .inr (6, [.ref (sA0), .int (nI ((nx + 1) % 20)), .int (nI (min (kp + 1) 20))])), (sA0, .inl (cy 7, 20, .inr (.inr (.inr (.inr SQ))))), (s0, .inr (9, [.int (nI (a1)), .int (nI (w1n)), .ref (rw0)])), (rw0, .inl (cy 0, 12, .inl (nA RW)))]) := by
  refine nq_r_of (cc := cX6_keep) (maxL := 4) (by decide) rfl (by first | exact Or.inl ⟨_, rfl⟩ | exact Or.inr ⟨_, rfl⟩) (Nat.le_of_ble_eq_true rfl) ?_
  intro p e s m args below meth c A Q ls hx hb hts hown hml hnm hN hA hP hK hD hS hl hret
  have hown : s.vm.findClass RX6 = some m.cls := hown
  have hinX6 : ∀ w ∈ u_ws RX6 TX6 3, w ∈ wsX6_keep := by decide +kernel
  have hinX9 : ∀ w ∈ u_ws RX9 TX9 3, w ∈ wsX6_keep := by decide +kernel
  have hl : lv_has ls 4 [(0, .ref (pq)), (1, .int (nI (a1))), (2, .int (nI (w1n)))] := hl
  have hP : va_P D vwCl ([(pq, .inr (6, [.ref (sA0), .int (nI (nx)), .int (nI (kp))])), (sA0, .inl (cy 7, 20, .inr (.inr (.inr (.inr SQ))))), (s0, .inr (9, [.int (nI (ac)), .int (nI (wh)), .ref (rw0)])), (rw0, .inl (cy 0, 12, .inl (nA RW)))]) s.heap := hP
  refine lv_aload_n hx hb dX6_keep_0 rfl (lv_at hl 0 rfl) ?_
  refine va_get (D := D) (ci := 6) (v := .ref (sA0)) (C := RX6) (T := TX6) (N := 3) hx hb hts hinX6 hown hK hP 0 rfl rfl 0 (by decide) (hts (.fieldLink RX6 11 "CornDesk$Past" "steps" "[LCornDesk$Step;") (by decide +kernel)) (fun _ h9 => h9) rfl dX6_keep_1 ?_
  refine lv_aload_n hx hb dX6_keep_4 rfl (lv_at hl 0 rfl) ?_
  refine va_get (D := D) (ci := 6) (v := .int (nI (nx))) (C := RX6) (T := TX6) (N := 3) hx hb hts hinX6 hown hK hP 0 rfl rfl 1 (by decide) (hts (.fieldLink RX6 22 "CornDesk$Past" "next" "I") (by decide +kernel)) (fun _ h9 => h9) rfl dX6_keep_5 ?_
  refine ln_aald (v := some (s0)) hx hb hK hP 1 7 rfl rfl (by decide) (by omega) hs dX6_keep_8 ?_
  refine W.eq (g2 := F0 m 9 ls [.ref (s0)]) rfl ?_
  refine lv_astore_n (lv' := [(3, .ref (s0)), (0, .ref (pq)), (1, .int (nI (a1))), (2, .int (nI (w1n)))]) hx hb dX6_keep_9 rfl hl (by decide) rfl (fun ls hl => ?_)
  refine lv_aload_n hx hb dX6_keep_10 rfl (lv_at hl 0 rfl) ?_
  refine lv_iload_n hx hb dX6_keep_11 rfl (lv_at hl 2 rfl) ?_
  refine va_putN (D := D) (ci := 9) (v := .int (nI (a1))) (ty := .int) (C := RX9) (T := TX9) (N := 3) hx hb hts hinX9 tyX9 tyX9_ok nmX9 hown hK hP hD hS 2 rfl rfl 0 (by decide) (nst_f (a := "CornDesk$Past") (i := 25) (b := "CornDesk$Step") (n := "act") (d := "I") (g := "CornDesk") hN (by decide)) (fun _ h9 => h9) rfl (by decide +kernel) rfl rfl (Nat.le_of_ble_eq_true rfl) dX6_keep_12 (fun H locs hP hD hS => ?_)
  have hP : va_P D vwCl ([(pq, .inr (6, [.ref (sA0), .int (nI (nx)), .int (nI (kp))])), (sA0, .inl (cy 7, 20, .inr (.inr (.inr (.inr SQ))))), (s0, .inr (9, [.int (nI (a1)), .int (nI (wh)), .ref (rw0)])), (rw0, .inl (cy 0, 12, .inl (nA RW)))]) H := hP
  have hD : va_D A ([(pq, .inr (6, [.ref (sA0), .int (nI (nx)), .int (nI (kp))])), (sA0, .inl (cy 7, 20, .inr (.inr (.inr (.inr SQ))))), (s0, .inr (9, [.int (nI (a1)), .int (nI (wh)), .ref (rw0)])), (rw0, .inl (cy 0, 12, .inl (nA RW)))]) := hD
  refine lv_aload_n hx hb dX6_keep_15 rfl (lv_at hl 0 rfl) ?_
  refine lv_iload_n hx hb dX6_keep_16 rfl (lv_at hl 3 rfl) ?_
  refine va_putN (D := D) (ci := 9) (v := .int (nI (w1n))) (ty := .int) (C := RX9) (T := TX9) (N := 3) hx hb hts hinX9 tyX9 tyX9_ok nmX9 hown hK hP hD hS 2 rfl rfl 1 (by decide) (nst_f (a := "CornDesk$Past") (i := 28) (b := "CornDesk$Step") (n := "which") (d := "I") (g := "CornDesk") hN (by decide)) (fun _ h9 => h9) rfl (by decide +kernel) rfl rfl (Nat.le_of_ble_eq_true rfl) dX6_keep_17 (fun H locs hP hD hS => ?_)
  have hP : va_P D vwCl ([(pq, .inr (6, [.ref (sA0), .int (nI (nx)), .int (nI (kp))])), (sA0, .inl (cy 7, 20, .inr (.inr (.inr (.inr SQ))))), (s0, .inr (9, [.int (nI (a1)), .int (nI (w1n)), .ref (rw0)])), (rw0, .inl (cy 0, 12, .inl (nA RW)))]) H := hP
  have hD : va_D A ([(pq, .inr (6, [.ref (sA0), .int (nI (nx)), .int (nI (kp))])), (sA0, .inl (cy 7, 20, .inr (.inr (.inr (.inr SQ))))), (s0, .inr (9, [.int (nI (a1)), .int (nI (w1n)), .ref (rw0)])), (rw0, .inl (cy 0, 12, .inl (nA RW)))]) := hD
  refine lv_aload_n hx hb dX6_keep_20 rfl (lv_at hl 1 rfl) ?_
  refine lv_aload_n hx hb dX6_keep_21 rfl (lv_at hl 1 rfl) ?_
  refine va_get (D := D) (ci := 6) (v := .int (nI (nx))) (C := RX6) (T := TX6) (N := 3) hx hb hts hinX6 hown hK hP 0 rfl rfl 1 (by decide) (hts (.fieldLink RX6 22 "CornDesk$Past" "next" "I") (by decide +kernel)) (fun _ h9 => h9) rfl dX6_keep_22 ?_
  refine lv_iconst (v := (nI (1))) hx hb dX6_keep_25 (by decide) ?_
  refine ln_iadd hx hb dX6_keep_26 ?_
  refine lv_bipush (v := (nI (20))) hx hb dX6_keep_27 (by decide) ?_
  refine ln_irem hx hb dX6_keep_29 (by omega) (by omega) (by omega) ?_
  refine va_put (D := D) (ci := 6) (v := .int (nI ((nx + 1) % (20)))) (ty := .int) (C := RX6) (T := TX6) (N := 3) hx hb hts hinX6 tyX6 tyX6_ok nmX6 hown hK hP hD hS 0 rfl rfl 1 (by decide) (hts (.fieldLink RX6 22 "CornDesk$Past" "next" "I") (by decide +kernel)) (fun _ h9 => h9) rfl (by decide +kernel) rfl rfl (Nat.le_of_ble_eq_true rfl) dX6_keep_30 (fun H locs hP hD hS => ?_)
  have hP : va_P D vwCl ([(pq, .inr (6, [.ref (sA0), .int (nI ((nx + 1) % (20))), .int (nI (kp))])), (sA0, .inl (cy 7, 20, .inr (.inr (.inr (.inr SQ))))), (s0, .inr (9, [.int (nI (a1)), .int (nI (w1n)), .ref (rw0)])), (rw0, .inl (cy 0, 12, .inl (nA RW)))]) H := hP
  have hD : va_D A ([(pq, .inr (6, [.ref (sA0), .int (nI ((nx + 1) % (20))), .int (nI (kp))])), (sA0, .inl (cy 7, 20, .inr (.inr (.inr (.inr SQ))))), (s0, .inr (9, [.int (nI (a1)), .int (nI (w1n)), .ref (rw0)])), (rw0, .inl (cy 0, 12, .inl (nA RW)))]) := hD
  refine lv_aload_n hx hb dX6_keep_33 rfl (lv_at hl 1 rfl) ?_
  refine lv_aload_n hx hb dX6_keep_34 rfl (lv_at hl 1 rfl) ?_
  refine va_get (D := D) (ci := 6) (v := .int (nI (kp))) (C := RX6) (T := TX6) (N := 3) hx hb hts hinX6 hown hK hP 0 rfl rfl 2 (by decide) (hts (.fieldLink RX6 18 "CornDesk$Past" "kept" "I") (by decide +kernel)) (fun _ h9 => h9) rfl dX6_keep_35 ?_
  refine lv_iconst (v := (nI (1))) hx hb dX6_keep_38 (by decide) ?_
  refine ln_iadd hx hb dX6_keep_39 ?_
  refine lv_bipush (v := (nI (20))) hx hb dX6_keep_40 (by decide) ?_
  refine va_mmin hx hb (hml.trans hl.1.symm) hown (hts (.methodLink RX6 31 Lib.Math.min.name) (by decide +kernel)) (hts (.static Lib.Math.min.name) (by decide +kernel)) (hts (.initialized "java/lang/Math") (by decide +kernel)) (hts (.code Lib.Math.min.name Lib.Math.min.code 2 (some .int)) (by decide +kernel)) (Nat.le_of_ble_eq_true rfl) (Nat.le_of_ble_eq_true rfl) (Nat.le_of_ble_eq_true rfl) (Nat.le_of_ble_eq_true rfl) dX6_keep_42 ?_
  refine ln_eqi (y := (nI (min (kp + 1) 20))) (min_N (by omega) (by decide)) ?_
  refine va_put (D := D) (ci := 6) (v := .int (nI (min (kp + 1) 20))) (ty := .int) (C := RX6) (T := TX6) (N := 3) hx hb hts hinX6 tyX6 tyX6_ok nmX6 hown hK hP hD hS 0 rfl rfl 2 (by decide) (hts (.fieldLink RX6 18 "CornDesk$Past" "kept" "I") (by decide +kernel)) (fun _ h9 => h9) rfl (by decide +kernel) rfl rfl (Nat.le_of_ble_eq_true rfl) dX6_keep_45 (fun H locs hP hD hS => ?_)
  have hP : va_P D vwCl ([(pq, .inr (6, [.ref (sA0), .int (nI ((nx + 1) % (20))), .int (nI (min (kp + 1) 20))])), (sA0, .inl (cy 7, 20, .inr (.inr (.inr (.inr SQ))))), (s0, .inr (9, [.int (nI (a1)), .int (nI (w1n)), .ref (rw0)])), (rw0, .inl (cy 0, 12, .inl (nA RW)))]) H := hP
  have hD : va_D A ([(pq, .inr (6, [.ref (sA0), .int (nI ((nx + 1) % (20))), .int (nI (min (kp + 1) 20))])), (sA0, .inl (cy 7, 20, .inr (.inr (.inr (.inr SQ))))), (s0, .inr (9, [.int (nI (a1)), .int (nI (w1n)), .ref (rw0)])), (rw0, .inl (cy 0, 12, .inl (nA RW)))]) := hD
  refine lv_aload_n hx hb dX6_keep_48 rfl (lv_at hl 0 rfl) ?_
  exact hret (some s0) _ _ _ _ _ ⟨rfl, rfl⟩ hP hD hS dX6_keep_49
set_option maxHeartbeats 4000000 in
set_option maxRecDepth 100000 in
theorem qX6_takeLatest0 (l : Launch) (D : va_G) (cy : Nat → ClassId) (pq : Nat) (sA0 : Nat) (nx : Nat) (kp : Nat) (SQ : Nat → Option Nat)  (hk0 : kp = 0) : nq_r l D (cT cy) yX6_takeLatest wsX6_takeLatest 0 0 0 0 [.ref (pq)] ([(pq, .inr (6, [.ref (sA0), .int (nI (nx)), .int (nI (kp))])), (sA0, .inl (cy 7, 20, .inr (.inr (.inr (.inr SQ)))))]) (fun r w1 => r = none ∧ w1 = [(pq, .inr (6, [.ref (sA0), .int (nI (nx)), .int (nI (kp))])), (sA0, .inl (cy 7, 20, .inr (.inr (.inr (.inr SQ)))))]) := by
  refine nq_r_of (cc := cX6_takeLatest) (maxL := 1) (by decide) rfl (by first | exact Or.inl ⟨_, rfl⟩ | exact Or.inr ⟨_, rfl⟩) (Nat.le_of_ble_eq_true rfl) ?_
  intro p e s m args below meth c A Q ls hx hb hts hown hml hnm hN hA hP hK hD hS hl hret
  have hown : s.vm.findClass RX6 = some m.cls := hown
  have hinX6 : ∀ w ∈ u_ws RX6 TX6 3, w ∈ wsX6_takeLatest := by decide +kernel
  have hl : lv_has ls 1 [(0, .ref (pq))] := hl
  have hP : va_P D vwCl ([(pq, .inr (6, [.ref (sA0), .int (nI (nx)), .int (nI (kp))])), (sA0, .inl (cy 7, 20, .inr (.inr (.inr (.inr SQ)))))]) s.heap := hP
  refine lv_aload_n hx hb dX6_takeLatest_0 rfl (lv_at hl 0 rfl) ?_
  refine va_get (D := D) (ci := 6) (v := .int (nI (kp))) (C := RX6) (T := TX6) (N := 3) hx hb hts hinX6 hown hK hP 0 rfl rfl 2 (by decide) (hts (.fieldLink RX6 18 "CornDesk$Past" "kept" "I") (by decide +kernel)) (fun _ h9 => h9) rfl dX6_takeLatest_1 ?_
  refine ln_if_ne (tgt := 9) hx hb dX6_takeLatest_4 (by decide) (by omega) (fun c1 => ?_) (fun c1 => ?_)
  · exact absurd hk0 (by omega)
  · refine lv_null hx hb dX6_takeLatest_7 ?_
    exact hret (none) _ _ _ _ _ ⟨rfl, rfl⟩ hP hD hS dX6_takeLatest_8
