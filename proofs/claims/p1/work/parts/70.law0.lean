set_option maxHeartbeats 4000000 in
set_option maxRecDepth 100000 in
theorem law_0 (l : Launch) {p : Program} {e : Env} {s : State} {m : MethodId} {below : List Frame} {meth : Method} {c : Code} {b L : Nat} {xs : Nat → Int32} (C0 : lw_At p s m meth c b L xs) {D : va_G} {cy : Nat → ClassId} (hK : va_K D vwCl (cT cy) s) (hN : nst s) {i : Nat} (hi : i + 7 ≤ L) (hL : L ≤ 3584) {d0 pA mA go0 ga0 gb0 gc0 m0 sA rA fQ t0 up lo g0 ga ho shA pq sA0 s0 z0 s1 z1 s2 z2 s3 z3 : Nat} {sa ra ad : Nat → Nat} {H : Heap} {locs : List Loc} {ls : Array Slot} (hP : va_P D vwCl (fC cy d0 pA mA go0 ga0 gb0 gc0 m0 sA rA fQ t0 up lo g0 ga ho shA pq sA0 s0 z0 s1 z1 s2 z2 s3 z3 sa ra ++ fM cy ad) H) (hD : va_D (fun q : Nat => s.heap.size ≤ q) (fC cy d0 pA mA go0 ga0 gb0 gc0 m0 sA rA fQ t0 up lo g0 ga ho shA pq sA0 s0 z0 s1 z1 s2 z2 s3 z3 sa ra ++ fM cy ad)) (hS : va_S (fun q : Nat => s.heap.size ≤ q) s.heap H locs) (hl : lv_has ls 4 [(3, .int (nI i)), (2, .ref (ad 0)), (1, .ref d0), (0, .ref b)]) (hend : ∀ (H : Heap) (locs : List Loc) (cs sl : Nat), cs ≤ 1000 → sl ≤ 20000 → va_S (fun q : Nat => s.heap.size ≤ q) s.heap H locs → W p l e room_1 s m #[Value.ref b] below meth c H locs cs sl (lw_Z below #[Value.ref b] s) (F0 m 1374 ls [])) : W p l e room_1 s m #[Value.ref b] below meth c H locs 100 15000 (lw_Z below #[Value.ref b] s) (F0 m 168 ls []) := by
  obtain ⟨hx, hb, hr, hml, hown, hts, hX, hbl, hlocks, hgv⟩ := C0
  have htsL : ∀ w ∈ wsL_law, w.before #[Value.ref b] s = true := fun w h => hts w (wsL_law_in w h)
  have hown : s.vm.findClass RL = some m.cls := hown
  have hA : ∀ q : Nat, s.heap.size ≤ q → (fun q : Nat => s.heap.size ≤ q) q := fun _ h => h
  have hbA : ¬ (fun q : Nat => s.heap.size ≤ q) b := Nat.not_le.mpr hbl
  have hKm : va_K D vwCl (mT (cy 0) (cy 1)) s := hK.sub [0, 1] rfl
  refine lv_aload_n hx hb dL_law_168 rfl (lv_at hl 2 rfl) ?_
  have hP := hP.subT (w' := [(d0, .inr (11, [.ref (pA), .int (nI (0)), .ref (mA), .int (nI (0)), .ref (go0), .ref (m0), .ref (fQ), .int (nI (0)), .ref (t0), .ref (g0), .ref (shA), .ref (pq), .long (0)])), (pA, .inl (cy 3, 6, .inr (.inr (.inr (.inr (fun _ => none)))))), (pq, .inr (6, [.ref (sA0), .int (nI (0)), .int (nI (0))])), (sA0, .inl (cy 7, 20, .inr (.inr (.inr (.inr (stF sa 20)))))), (sa 0, .inr (9, [.int (nI (0)), .int (nI (0)), .ref (ra 0)])), (ra 0, .inl (cy 0, 12, .inl (nA (fun _ => 0))))]) [0, 1, 18, 19, 28, 29] rfl
  have hD := hD.subT (w' := [(d0, .inr (11, [.ref (pA), .int (nI (0)), .ref (mA), .int (nI (0)), .ref (go0), .ref (m0), .ref (fQ), .int (nI (0)), .ref (t0), .ref (g0), .ref (shA), .ref (pq), .long (0)])), (pA, .inl (cy 3, 6, .inr (.inr (.inr (.inr (fun _ => none)))))), (pq, .inr (6, [.ref (sA0), .int (nI (0)), .int (nI (0))])), (sA0, .inl (cy 7, 20, .inr (.inr (.inr (.inr (stF sa 20)))))), (sa 0, .inr (9, [.int (nI (0)), .int (nI (0)), .ref (ra 0)])), (ra 0, .inl (cy 0, 12, .inl (nA (fun _ => 0))))]) [0, 1, 18, 19, 28, 29] (by decide) rfl
  refine nq_Vl (As := []) (rest := []) (w := [(d0, .inr (11, [.ref (pA), .int (nI (0)), .ref (mA), .int (nI (0)), .ref (go0), .ref (m0), .ref (fQ), .int (nI (0)), .ref (t0), .ref (g0), .ref (shA), .ref (pq), .long (0)])), (pA, .inl (cy 3, 6, .inr (.inr (.inr (.inr (fun _ => none)))))), (pq, .inr (6, [.ref (sA0), .int (nI (0)), .int (nI (0))])), (sA0, .inl (cy 7, 20, .inr (.inr (.inr (.inr (stF sa 20)))))), (sa 0, .inr (9, [.int (nI (0)), .int (nI (0)), .ref (ra 0)])), (ra 0, .inl (cy 0, 12, .inl (nA (fun _ => 0))))]) (wr := fM cy ad) (ci := 11) (k0 := 0) ⟨hx, hb, hml, hown, htsL⟩ (qX11_picture l D cy d0 pA 0 mA 0 go0 m0 fQ 0 t0 g0 shA pq 0 (fun _ => none) sA0 0 0 (stF sa 20) (sa 0) 0 0 (ra 0) (fun _ => 0)  (by decide) (by decide) rfl (by decide)) (cwV 0 htsL gL_law_X11_picture rfl rfl rfl (by decide +kernel) ⟨Nat.le_of_ble_eq_true rfl, Nat.le_of_ble_eq_true rfl⟩) rfl rfl hP hK hD hN hS hA rfl hl.1 rfl (Nat.le_of_ble_eq_true rfl) dL_law_169 ⟨Nat.le_of_ble_eq_true rfl, Nat.le_of_ble_eq_true rfl⟩ (fun r1 w1 H locs hq1 hP hD hS => ?_)
  have hP := hP.right
  have hD := hD.right
  refine lv_aload_n hx hb dL_law_172 rfl (lv_at hl 1 rfl) ?_
  refine mq_Vl (As := []) (rest := [.long r1]) (ci := 12) (k0 := 0) ⟨hx, hb, hml, hown, htsL⟩ (cM_picture l D ad (cy 0) (cy 1) (iniA 64) (fun _ => 0) (fun _ => 0) (fun _ => 0) (fun _ => 0) (fun _ => 1) (fun _ => 0) (fun _ => 0) 0 0 0 0 0 0 0 0 0 0 0 0 0 (fun _ => 0) (fun _ => 0) (fun _ => 0)  (by rw [ini_0]; decide) (by decide) (by decide)) (cwV 0 htsL gL_law_X12_picture rfl rfl rfl (by decide +kernel) ⟨Nat.le_of_ble_eq_true rfl, Nat.le_of_ble_eq_true rfl⟩) rfl rfl hP hKm hD hS hA rfl hl.1 rfl (Nat.le_of_ble_eq_true rfl) dL_law_173 ⟨Nat.le_of_ble_eq_true rfl, Nat.le_of_ble_eq_true rfl⟩ (fun r2 w2 H locs hq2 hP hD hS => ?_)
  have heq : r1 = r2 := by
    rcases hq1 with ⟨h, -⟩ | ⟨-, h1, -⟩
    · exact absurd h (by decide)
    · rcases hq2 with ⟨h, -⟩ | ⟨-, h2, -⟩
      · rw [ini_0] at h
        exact absurd h (by decide)
      · rw [h1, h2, ini_0]
  refine W.lcmp hx hb dL_law_176 ?_
  refine lv_if_eq (tgt := 1374) hx hb dL_law_177 (by decide) (fun c9 => ?_) (fun c9 => ?_)
  · exact hend _ _ _ _ (by decide) (by decide) hS
  · exact absurd ((lg_cmp_eq _ _).mpr heq) c9
set_option maxHeartbeats 4000000 in
set_option maxRecDepth 100000 in
theorem law_1 (l : Launch) {p : Program} {e : Env} {s : State} {m : MethodId} {below : List Frame} {meth : Method} {c : Code} {b L : Nat} {xs : Nat → Int32} (C0 : lw_At p s m meth c b L xs) {D : va_G} {cy : Nat → ClassId} (hK : va_K D vwCl (cT cy) s) (hN : nst s) {i : Nat} (hi : i + 7 ≤ L) (hL : L ≤ 3584) {d0 pA mA go0 ga0 gb0 gc0 m0 sA rA fQ t0 up lo g0 ga ho shA pq sA0 s0 z0 s1 z1 s2 z2 s3 z3 : Nat} {sa ra ad : Nat → Nat} {H : Heap} {locs : List Loc} {ls : Array Slot} (hP : va_P D vwCl (fC cy d0 pA mA go0 ga0 gb0 gc0 m0 sA rA fQ t0 up lo g0 ga ho shA pq sA0 s0 z0 s1 z1 s2 z2 s3 z3 sa ra ++ fM cy ad) H) (hD : va_D (fun q : Nat => s.heap.size ≤ q) (fC cy d0 pA mA go0 ga0 gb0 gc0 m0 sA rA fQ t0 up lo g0 ga ho shA pq sA0 s0 z0 s1 z1 s2 z2 s3 z3 sa ra ++ fM cy ad)) (hS : va_S (fun q : Nat => s.heap.size ≤ q) s.heap H locs) (hl : lv_has ls 4 [(3, .int (nI i)), (2, .ref (ad 0)), (1, .ref d0), (0, .ref b)]) (hend : ∀ (H : Heap) (locs : List Loc) (cs sl : Nat), cs ≤ 1000 → sl ≤ 20000 → va_S (fun q : Nat => s.heap.size ≤ q) s.heap H locs → W p l e room_1 s m #[Value.ref b] below meth c H locs cs sl (lw_Z below #[Value.ref b] s) (F0 m 1374 ls [])) : W p l e room_1 s m #[Value.ref b] below meth c H locs 100 15000 (lw_Z below #[Value.ref b] s) (F0 m 182 ls []) := by
  obtain ⟨hx, hb, hr, hml, hown, hts, hX, hbl, hlocks, hgv⟩ := C0
  have htsL : ∀ w ∈ wsL_law, w.before #[Value.ref b] s = true := fun w h => hts w (wsL_law_in w h)
  have hown : s.vm.findClass RL = some m.cls := hown
  have hA : ∀ q : Nat, s.heap.size ≤ q → (fun q : Nat => s.heap.size ≤ q) q := fun _ h => h
  have hbA : ¬ (fun q : Nat => s.heap.size ≤ q) b := Nat.not_le.mpr hbl
  have hKm : va_K D vwCl (mT (cy 0) (cy 1)) s := hK.sub [0, 1] rfl
  refine lv_aload_n hx hb dL_law_182 rfl (lv_at hl 2 rfl) ?_
  refine lv_aload_n hx hb dL_law_183 rfl (lv_at hl 3 rfl) ?_
  refine lv_iload_n hx hb dL_law_184 rfl (lv_at hl 0 rfl) ?_
  refine lv_iconst (v := (nI (1))) hx hb dL_law_185 (by decide) ?_
  refine ln_iadd hx hb dL_law_186 ?_
  refine va_sld hx hb hX hbl hbA hS (vp_in_nI (show i + 1 < L by omega) (by omega)) dL_law_187 ?_
  refine ln_eqi (y := xs (i + 1)) (by rw [nI_clamp (by omega)]) ?_
  refine lv_aload_n hx hb dL_law_188 rfl (lv_at hl 3 rfl) ?_
  refine lv_iload_n hx hb dL_law_189 rfl (lv_at hl 0 rfl) ?_
  refine lv_iconst (v := (nI (2))) hx hb dL_law_190 (by decide) ?_
  refine ln_iadd hx hb dL_law_191 ?_
  refine va_sld hx hb hX hbl hbA hS (vp_in_nI (show i + 2 < L by omega) (by omega)) dL_law_192 ?_
  refine ln_eqi (y := xs (i + 2)) (by rw [nI_clamp (by omega)]) ?_
  refine lv_aload_n hx hb dL_law_193 rfl (lv_at hl 3 rfl) ?_
  refine lv_iload_n hx hb dL_law_194 rfl (lv_at hl 0 rfl) ?_
  refine lv_iconst (v := (nI (3))) hx hb dL_law_195 (by decide) ?_
  refine ln_iadd hx hb dL_law_196 ?_
  refine va_sld hx hb hX hbl hbA hS (vp_in_nI (show i + 3 < L by omega) (by omega)) dL_law_197 ?_
  refine ln_eqi (y := xs (i + 3)) (by rw [nI_clamp (by omega)]) ?_
  refine lv_aload_n hx hb dL_law_198 rfl (lv_at hl 3 rfl) ?_
  refine lv_iload_n hx hb dL_law_199 rfl (lv_at hl 0 rfl) ?_
  refine lv_iconst (v := (nI (4))) hx hb dL_law_200 (by decide) ?_
  refine ln_iadd hx hb dL_law_201 ?_
  refine va_sld hx hb hX hbl hbA hS (vp_in_nI (show i + 4 < L by omega) (by omega)) dL_law_202 ?_
  refine ln_eqi (y := xs (i + 4)) (by rw [nI_clamp (by omega)]) ?_
  refine lv_aload_n hx hb dL_law_203 rfl (lv_at hl 3 rfl) ?_
  refine lv_iload_n hx hb dL_law_204 rfl (lv_at hl 0 rfl) ?_
  refine lv_iconst (v := (nI (5))) hx hb dL_law_205 (by decide) ?_
  refine ln_iadd hx hb dL_law_206 ?_
  refine va_sld hx hb hX hbl hbA hS (vp_in_nI (show i + 5 < L by omega) (by omega)) dL_law_207 ?_
  refine ln_eqi (y := xs (i + 5)) (by rw [nI_clamp (by omega)]) ?_
  have hP := hP.subT (w' := [(d0, .inr (11, [.ref (pA), .int (nI (0)), .ref (mA), .int (nI (0)), .ref (go0), .ref (m0), .ref (fQ), .int (nI (0)), .ref (t0), .ref (g0), .ref (shA), .ref (pq), .long (0)])), (pA, .inl (cy 3, 6, .inr (.inr (.inr (.inr (fun _ => none))))))]) [0, 1] rfl
  have hD := hD.subT (w' := [(d0, .inr (11, [.ref (pA), .int (nI (0)), .ref (mA), .int (nI (0)), .ref (go0), .ref (m0), .ref (fQ), .int (nI (0)), .ref (t0), .ref (g0), .ref (shA), .ref (pq), .long (0)])), (pA, .inl (cy 3, 6, .inr (.inr (.inr (.inr (fun _ => none))))))]) [0, 1] (by decide) rfl
  refine nq_Vl (As := [.int (xs (i + 1)), .int (xs (i + 2)), .int (xs (i + 3)), .int (xs (i + 4)), .int (xs (i + 5))]) (rest := []) (w := [(d0, .inr (11, [.ref (pA), .int (nI (0)), .ref (mA), .int (nI (0)), .ref (go0), .ref (m0), .ref (fQ), .int (nI (0)), .ref (t0), .ref (g0), .ref (shA), .ref (pq), .long (0)])), (pA, .inl (cy 3, 6, .inr (.inr (.inr (.inr (fun _ => none))))))]) (wr := fM cy ad) (ci := 11) (k0 := 0) ⟨hx, hb, hml, hown, htsL⟩ (qX11_place_n l D cy d0 pA 0 mA 0 go0 m0 fQ 0 t0 g0 shA pq 0 (fun _ => none) (xs (i + 1)) (xs (i + 2)) (xs (i + 3)) (xs (i + 4)) (xs (i + 5)) ix0) (cwV 5 htsL gL_law_X11_place rfl rfl rfl (by decide +kernel) ⟨Nat.le_of_ble_eq_true rfl, Nat.le_of_ble_eq_true rfl⟩) rfl rfl hP hK hD hN hS hA rfl hl.1 rfl (Nat.le_of_ble_eq_true rfl) dL_law_208 ⟨Nat.le_of_ble_eq_true rfl, Nat.le_of_ble_eq_true rfl⟩ (fun r1 w1 H locs hq1 hP hD hS => ?_)
  have hP := hP.right
  have hD := hD.right
  refine lv_aload_n hx hb dL_law_211 rfl (lv_at hl 1 rfl) ?_
  refine lv_aload_n hx hb dL_law_212 rfl (lv_at hl 3 rfl) ?_
  refine lv_iload_n hx hb dL_law_213 rfl (lv_at hl 0 rfl) ?_
  refine lv_iconst (v := (nI (1))) hx hb dL_law_214 (by decide) ?_
  refine ln_iadd hx hb dL_law_215 ?_
  refine va_sld hx hb hX hbl hbA hS (vp_in_nI (show i + 1 < L by omega) (by omega)) dL_law_216 ?_
  refine ln_eqi (y := xs (i + 1)) (by rw [nI_clamp (by omega)]) ?_
  refine lv_aload_n hx hb dL_law_217 rfl (lv_at hl 3 rfl) ?_
  refine lv_iload_n hx hb dL_law_218 rfl (lv_at hl 0 rfl) ?_
  refine lv_iconst (v := (nI (2))) hx hb dL_law_219 (by decide) ?_
  refine ln_iadd hx hb dL_law_220 ?_
  refine va_sld hx hb hX hbl hbA hS (vp_in_nI (show i + 2 < L by omega) (by omega)) dL_law_221 ?_
  refine ln_eqi (y := xs (i + 2)) (by rw [nI_clamp (by omega)]) ?_
  refine lv_aload_n hx hb dL_law_222 rfl (lv_at hl 3 rfl) ?_
  refine lv_iload_n hx hb dL_law_223 rfl (lv_at hl 0 rfl) ?_
  refine lv_iconst (v := (nI (3))) hx hb dL_law_224 (by decide) ?_
  refine ln_iadd hx hb dL_law_225 ?_
  refine va_sld hx hb hX hbl hbA hS (vp_in_nI (show i + 3 < L by omega) (by omega)) dL_law_226 ?_
  refine ln_eqi (y := xs (i + 3)) (by rw [nI_clamp (by omega)]) ?_
  refine lv_aload_n hx hb dL_law_227 rfl (lv_at hl 3 rfl) ?_
  refine lv_iload_n hx hb dL_law_228 rfl (lv_at hl 0 rfl) ?_
  refine lv_iconst (v := (nI (4))) hx hb dL_law_229 (by decide) ?_
  refine ln_iadd hx hb dL_law_230 ?_
  refine va_sld hx hb hX hbl hbA hS (vp_in_nI (show i + 4 < L by omega) (by omega)) dL_law_231 ?_
  refine ln_eqi (y := xs (i + 4)) (by rw [nI_clamp (by omega)]) ?_
  refine lv_aload_n hx hb dL_law_232 rfl (lv_at hl 3 rfl) ?_
  refine lv_iload_n hx hb dL_law_233 rfl (lv_at hl 0 rfl) ?_
  refine lv_iconst (v := (nI (5))) hx hb dL_law_234 (by decide) ?_
  refine ln_iadd hx hb dL_law_235 ?_
  refine va_sld hx hb hX hbl hbA hS (vp_in_nI (show i + 5 < L by omega) (by omega)) dL_law_236 ?_
  refine ln_eqi (y := xs (i + 5)) (by rw [nI_clamp (by omega)]) ?_
  refine mq_Vl (As := [.int (xs (i + 1)), .int (xs (i + 2)), .int (xs (i + 3)), .int (xs (i + 4)), .int (xs (i + 5))]) (rest := [.long r1]) (ci := 12) (k0 := 0) ⟨hx, hb, hml, hown, htsL⟩ (cM_place l D ad (cy 0) (cy 1) (iniA 64) (fun _ => 0) (fun _ => 0) (fun _ => 0) (fun _ => 0) (fun _ => 1) (fun _ => 0) (fun _ => 0) 0 0 0 0 0 0 0 0 0 0 0 0 0 (fun _ => 0) (fun _ => 0) (fun _ => 0) (xs (i + 1)) (xs (i + 2)) (xs (i + 3)) (xs (i + 4)) (xs (i + 5)) (by rw [ini_0]; decide) (fun i h => absurd h (by rw [ini_0]; exact Nat.not_lt_zero i)) (by decide) (by decide)) (cwV 5 htsL gL_law_X12_place rfl rfl rfl (by decide +kernel) ⟨Nat.le_of_ble_eq_true rfl, Nat.le_of_ble_eq_true rfl⟩) rfl rfl hP hKm hD hS hA rfl hl.1 rfl (Nat.le_of_ble_eq_true rfl) dL_law_237 ⟨Nat.le_of_ble_eq_true rfl, Nat.le_of_ble_eq_true rfl⟩ (fun r2 w2 H locs hq2 hP hD hS => ?_)
  have heq : r1 = r2 := by
    rcases hq2 with ⟨-, h2, -⟩ | h2
    · rw [hq1.1, h2]
    · obtain ⟨_, _, _, _, _, ⟨_, _, _, _, _, h9, _⟩, _⟩ := h2
      rw [ini_0] at h9
      exact absurd h9 (Nat.not_lt_zero _)
  refine W.lcmp hx hb dL_law_240 ?_
  refine lv_if_eq (tgt := 1374) hx hb dL_law_241 (by decide) (fun c9 => ?_) (fun c9 => ?_)
  · exact hend _ _ _ _ (by decide) (by decide) hS
  · exact absurd ((lg_cmp_eq _ _).mpr heq) c9
set_option maxHeartbeats 4000000 in
set_option maxRecDepth 100000 in
theorem law_2 (l : Launch) {p : Program} {e : Env} {s : State} {m : MethodId} {below : List Frame} {meth : Method} {c : Code} {b L : Nat} {xs : Nat → Int32} (C0 : lw_At p s m meth c b L xs) {D : va_G} {cy : Nat → ClassId} (hK : va_K D vwCl (cT cy) s) (hN : nst s) {i : Nat} (hi : i + 7 ≤ L) (hL : L ≤ 3584) {d0 pA mA go0 ga0 gb0 gc0 m0 sA rA fQ t0 up lo g0 ga ho shA pq sA0 s0 z0 s1 z1 s2 z2 s3 z3 : Nat} {sa ra ad : Nat → Nat} {H : Heap} {locs : List Loc} {ls : Array Slot} (hP : va_P D vwCl (fC cy d0 pA mA go0 ga0 gb0 gc0 m0 sA rA fQ t0 up lo g0 ga ho shA pq sA0 s0 z0 s1 z1 s2 z2 s3 z3 sa ra ++ fM cy ad) H) (hD : va_D (fun q : Nat => s.heap.size ≤ q) (fC cy d0 pA mA go0 ga0 gb0 gc0 m0 sA rA fQ t0 up lo g0 ga ho shA pq sA0 s0 z0 s1 z1 s2 z2 s3 z3 sa ra ++ fM cy ad)) (hS : va_S (fun q : Nat => s.heap.size ≤ q) s.heap H locs) (hl : lv_has ls 4 [(3, .int (nI i)), (2, .ref (ad 0)), (1, .ref d0), (0, .ref b)]) (hend : ∀ (H : Heap) (locs : List Loc) (cs sl : Nat), cs ≤ 1000 → sl ≤ 20000 → va_S (fun q : Nat => s.heap.size ≤ q) s.heap H locs → W p l e room_1 s m #[Value.ref b] below meth c H locs cs sl (lw_Z below #[Value.ref b] s) (F0 m 1374 ls [])) : W p l e room_1 s m #[Value.ref b] below meth c H locs 100 15000 (lw_Z below #[Value.ref b] s) (F0 m 246 ls []) := by
  obtain ⟨hx, hb, hr, hml, hown, hts, hX, hbl, hlocks, hgv⟩ := C0
  have htsL : ∀ w ∈ wsL_law, w.before #[Value.ref b] s = true := fun w h => hts w (wsL_law_in w h)
  have hown : s.vm.findClass RL = some m.cls := hown
  have hA : ∀ q : Nat, s.heap.size ≤ q → (fun q : Nat => s.heap.size ≤ q) q := fun _ h => h
  have hbA : ¬ (fun q : Nat => s.heap.size ≤ q) b := Nat.not_le.mpr hbl
  have hKm : va_K D vwCl (mT (cy 0) (cy 1)) s := hK.sub [0, 1] rfl
  refine lv_aload_n hx hb dL_law_246 rfl (lv_at hl 2 rfl) ?_
  refine lv_aload_n hx hb dL_law_247 rfl (lv_at hl 3 rfl) ?_
  refine lv_iload_n hx hb dL_law_248 rfl (lv_at hl 0 rfl) ?_
  refine lv_iconst (v := (nI (1))) hx hb dL_law_249 (by decide) ?_
  refine ln_iadd hx hb dL_law_250 ?_
  refine va_sld hx hb hX hbl hbA hS (vp_in_nI (show i + 1 < L by omega) (by omega)) dL_law_251 ?_
  refine ln_eqi (y := xs (i + 1)) (by rw [nI_clamp (by omega)]) ?_
  have hP := hP.subT (w' := [(d0, .inr (11, [.ref (pA), .int (nI (0)), .ref (mA), .int (nI (0)), .ref (go0), .ref (m0), .ref (fQ), .int (nI (0)), .ref (t0), .ref (g0), .ref (shA), .ref (pq), .long (0)])), (pA, .inl (cy 3, 6, .inr (.inr (.inr (.inr (fun _ => none))))))]) [0, 1] rfl
  have hD := hD.subT (w' := [(d0, .inr (11, [.ref (pA), .int (nI (0)), .ref (mA), .int (nI (0)), .ref (go0), .ref (m0), .ref (fQ), .int (nI (0)), .ref (t0), .ref (g0), .ref (shA), .ref (pq), .long (0)])), (pA, .inl (cy 3, 6, .inr (.inr (.inr (.inr (fun _ => none))))))]) [0, 1] (by decide) rfl
  refine nq_Vl (As := [.int (xs (i + 1))]) (rest := []) (w := [(d0, .inr (11, [.ref (pA), .int (nI (0)), .ref (mA), .int (nI (0)), .ref (go0), .ref (m0), .ref (fQ), .int (nI (0)), .ref (t0), .ref (g0), .ref (shA), .ref (pq), .long (0)])), (pA, .inl (cy 3, 6, .inr (.inr (.inr (.inr (fun _ => none))))))]) (wr := fM cy ad) (ci := 11) (k0 := 0) ⟨hx, hb, hml, hown, htsL⟩ (qX11_unplace_n l D cy d0 pA 0 mA 0 go0 m0 fQ 0 t0 g0 shA pq 0 (fun _ => none) (xs (i + 1)) ix0) (cwV 1 htsL gL_law_X11_unplace rfl rfl rfl (by decide +kernel) ⟨Nat.le_of_ble_eq_true rfl, Nat.le_of_ble_eq_true rfl⟩) rfl rfl hP hK hD hN hS hA rfl hl.1 rfl (Nat.le_of_ble_eq_true rfl) dL_law_252 ⟨Nat.le_of_ble_eq_true rfl, Nat.le_of_ble_eq_true rfl⟩ (fun r1 w1 H locs hq1 hP hD hS => ?_)
  have hP := hP.right
  have hD := hD.right
  refine lv_aload_n hx hb dL_law_255 rfl (lv_at hl 1 rfl) ?_
  refine lv_aload_n hx hb dL_law_256 rfl (lv_at hl 3 rfl) ?_
  refine lv_iload_n hx hb dL_law_257 rfl (lv_at hl 0 rfl) ?_
  refine lv_iconst (v := (nI (1))) hx hb dL_law_258 (by decide) ?_
  refine ln_iadd hx hb dL_law_259 ?_
  refine va_sld hx hb hX hbl hbA hS (vp_in_nI (show i + 1 < L by omega) (by omega)) dL_law_260 ?_
  refine ln_eqi (y := xs (i + 1)) (by rw [nI_clamp (by omega)]) ?_
  refine mq_Vl (As := [.int (xs (i + 1))]) (rest := [.long r1]) (ci := 12) (k0 := 0) ⟨hx, hb, hml, hown, htsL⟩ (cM_unplace l D ad (cy 0) (cy 1) (iniA 64) (fun _ => 0) (fun _ => 0) (fun _ => 0) (fun _ => 0) (fun _ => 1) (fun _ => 0) (fun _ => 0) 0 0 0 0 0 0 0 0 0 0 0 0 0 (fun _ => 0) (fun _ => 0) (fun _ => 0) (xs (i + 1)) (by rw [ini_0]; decide) (fun i h => absurd h (by rw [ini_0]; exact Nat.not_lt_zero i)) (by decide) (by decide)) (cwV 1 htsL gL_law_X12_unplace rfl rfl rfl (by decide +kernel) ⟨Nat.le_of_ble_eq_true rfl, Nat.le_of_ble_eq_true rfl⟩) rfl rfl hP hKm hD hS hA rfl hl.1 rfl (Nat.le_of_ble_eq_true rfl) dL_law_261 ⟨Nat.le_of_ble_eq_true rfl, Nat.le_of_ble_eq_true rfl⟩ (fun r2 w2 H locs hq2 hP hD hS => ?_)
  have heq : r1 = r2 := by
    rcases hq2 with ⟨-, h2, -⟩ | h2
    · rw [hq1.1, h2]
    · obtain ⟨_, ⟨_, h9⟩, _⟩ := h2
      rw [ini_0] at h9
      exact absurd h9 (Nat.not_lt_zero _)
  refine W.lcmp hx hb dL_law_264 ?_
  refine lv_if_eq (tgt := 1374) hx hb dL_law_265 (by decide) (fun c9 => ?_) (fun c9 => ?_)
  · exact hend _ _ _ _ (by decide) (by decide) hS
  · exact absurd ((lg_cmp_eq _ _).mpr heq) c9
set_option maxHeartbeats 4000000 in
set_option maxRecDepth 100000 in
theorem law_3 (l : Launch) {p : Program} {e : Env} {s : State} {m : MethodId} {below : List Frame} {meth : Method} {c : Code} {b L : Nat} {xs : Nat → Int32} (C0 : lw_At p s m meth c b L xs) {D : va_G} {cy : Nat → ClassId} (hK : va_K D vwCl (cT cy) s) (hN : nst s) {i : Nat} (hi : i + 7 ≤ L) (hL : L ≤ 3584) {d0 pA mA go0 ga0 gb0 gc0 m0 sA rA fQ t0 up lo g0 ga ho shA pq sA0 s0 z0 s1 z1 s2 z2 s3 z3 : Nat} {sa ra ad : Nat → Nat} {H : Heap} {locs : List Loc} {ls : Array Slot} (hP : va_P D vwCl (fC cy d0 pA mA go0 ga0 gb0 gc0 m0 sA rA fQ t0 up lo g0 ga ho shA pq sA0 s0 z0 s1 z1 s2 z2 s3 z3 sa ra ++ fM cy ad) H) (hD : va_D (fun q : Nat => s.heap.size ≤ q) (fC cy d0 pA mA go0 ga0 gb0 gc0 m0 sA rA fQ t0 up lo g0 ga ho shA pq sA0 s0 z0 s1 z1 s2 z2 s3 z3 sa ra ++ fM cy ad)) (hS : va_S (fun q : Nat => s.heap.size ≤ q) s.heap H locs) (hl : lv_has ls 4 [(3, .int (nI i)), (2, .ref (ad 0)), (1, .ref d0), (0, .ref b)]) (hend : ∀ (H : Heap) (locs : List Loc) (cs sl : Nat), cs ≤ 1000 → sl ≤ 20000 → va_S (fun q : Nat => s.heap.size ≤ q) s.heap H locs → W p l e room_1 s m #[Value.ref b] below meth c H locs cs sl (lw_Z below #[Value.ref b] s) (F0 m 1374 ls [])) : W p l e room_1 s m #[Value.ref b] below meth c H locs 100 15000 (lw_Z below #[Value.ref b] s) (F0 m 270 ls []) := by
  obtain ⟨hx, hb, hr, hml, hown, hts, hX, hbl, hlocks, hgv⟩ := C0
  have htsL : ∀ w ∈ wsL_law, w.before #[Value.ref b] s = true := fun w h => hts w (wsL_law_in w h)
  have hown : s.vm.findClass RL = some m.cls := hown
  have hA : ∀ q : Nat, s.heap.size ≤ q → (fun q : Nat => s.heap.size ≤ q) q := fun _ h => h
  have hbA : ¬ (fun q : Nat => s.heap.size ≤ q) b := Nat.not_le.mpr hbl
  have hKm : va_K D vwCl (mT (cy 0) (cy 1)) s := hK.sub [0, 1] rfl
  refine lv_aload_n hx hb dL_law_270 rfl (lv_at hl 2 rfl) ?_
  refine lv_aload_n hx hb dL_law_271 rfl (lv_at hl 3 rfl) ?_
  refine lv_iload_n hx hb dL_law_272 rfl (lv_at hl 0 rfl) ?_
  refine lv_iconst (v := (nI (1))) hx hb dL_law_273 (by decide) ?_
  refine ln_iadd hx hb dL_law_274 ?_
  refine va_sld hx hb hX hbl hbA hS (vp_in_nI (show i + 1 < L by omega) (by omega)) dL_law_275 ?_
  refine ln_eqi (y := xs (i + 1)) (by rw [nI_clamp (by omega)]) ?_
  refine lv_aload_n hx hb dL_law_276 rfl (lv_at hl 3 rfl) ?_
  refine lv_iload_n hx hb dL_law_277 rfl (lv_at hl 0 rfl) ?_
  refine lv_iconst (v := (nI (2))) hx hb dL_law_278 (by decide) ?_
  refine ln_iadd hx hb dL_law_279 ?_
  refine va_sld hx hb hX hbl hbA hS (vp_in_nI (show i + 2 < L by omega) (by omega)) dL_law_280 ?_
  refine ln_eqi (y := xs (i + 2)) (by rw [nI_clamp (by omega)]) ?_
  refine lz_dia hx hb dL_law_281 dL_law_284 dL_law_285 dL_law_288 ?_
  refine lv_aload_n hx hb dL_law_289 rfl (lv_at hl 3 rfl) ?_
  refine lv_iload_n hx hb dL_law_290 rfl (lv_at hl 0 rfl) ?_
  refine lv_iconst (v := (nI (3))) hx hb dL_law_291 (by decide) ?_
  refine ln_iadd hx hb dL_law_292 ?_
  refine va_sld hx hb hX hbl hbA hS (vp_in_nI (show i + 3 < L by omega) (by omega)) dL_law_293 ?_
  refine ln_eqi (y := xs (i + 3)) (by rw [nI_clamp (by omega)]) ?_
  refine lv_aload_n hx hb dL_law_294 rfl (lv_at hl 3 rfl) ?_
  refine lv_iload_n hx hb dL_law_295 rfl (lv_at hl 0 rfl) ?_
  refine lv_iconst (v := (nI (4))) hx hb dL_law_296 (by decide) ?_
  refine ln_iadd hx hb dL_law_297 ?_
  refine va_sld hx hb hX hbl hbA hS (vp_in_nI (show i + 4 < L by omega) (by omega)) dL_law_298 ?_
  refine ln_eqi (y := xs (i + 4)) (by rw [nI_clamp (by omega)]) ?_
  refine lz_dia hx hb dL_law_299 dL_law_302 dL_law_303 dL_law_306 ?_
  have hP := hP.subT (w' := [(d0, .inr (11, [.ref (pA), .int (nI (0)), .ref (mA), .int (nI (0)), .ref (go0), .ref (m0), .ref (fQ), .int (nI (0)), .ref (t0), .ref (g0), .ref (shA), .ref (pq), .long (0)])), (pA, .inl (cy 3, 6, .inr (.inr (.inr (.inr (fun _ => none))))))]) [0, 1] rfl
  have hD := hD.subT (w' := [(d0, .inr (11, [.ref (pA), .int (nI (0)), .ref (mA), .int (nI (0)), .ref (go0), .ref (m0), .ref (fQ), .int (nI (0)), .ref (t0), .ref (g0), .ref (shA), .ref (pq), .long (0)])), (pA, .inl (cy 3, 6, .inr (.inr (.inr (.inr (fun _ => none))))))]) [0, 1] (by decide) rfl
  refine nq_Vl (As := [.int (xs (i + 1)), .int (zI (xs (i + 2))), .int (xs (i + 3)), .int (zI (xs (i + 4)))]) (rest := []) (w := [(d0, .inr (11, [.ref (pA), .int (nI (0)), .ref (mA), .int (nI (0)), .ref (go0), .ref (m0), .ref (fQ), .int (nI (0)), .ref (t0), .ref (g0), .ref (shA), .ref (pq), .long (0)])), (pA, .inl (cy 3, 6, .inr (.inr (.inr (.inr (fun _ => none))))))]) (wr := fM cy ad) (ci := 11) (k0 := 0) ⟨hx, hb, hml, hown, htsL⟩ (qX11_led_n l D cy d0 pA 0 mA 0 go0 m0 fQ 0 t0 g0 shA pq 0 (fun _ => none) (xs (i + 1)) (zI (xs (i + 2))) (xs (i + 3)) (zI (xs (i + 4))) ix0) (cwV 4 htsL gL_law_X11_led rfl rfl rfl (by decide +kernel) ⟨Nat.le_of_ble_eq_true rfl, Nat.le_of_ble_eq_true rfl⟩) rfl rfl hP hK hD hN hS hA rfl hl.1 rfl (Nat.le_of_ble_eq_true rfl) dL_law_307 ⟨Nat.le_of_ble_eq_true rfl, Nat.le_of_ble_eq_true rfl⟩ (fun r1 w1 H locs hq1 hP hD hS => ?_)
  have hP := hP.right
  have hD := hD.right
  refine lv_aload_n hx hb dL_law_310 rfl (lv_at hl 1 rfl) ?_
  refine lv_aload_n hx hb dL_law_311 rfl (lv_at hl 3 rfl) ?_
  refine lv_iload_n hx hb dL_law_312 rfl (lv_at hl 0 rfl) ?_
  refine lv_iconst (v := (nI (1))) hx hb dL_law_313 (by decide) ?_
  refine ln_iadd hx hb dL_law_314 ?_
  refine va_sld hx hb hX hbl hbA hS (vp_in_nI (show i + 1 < L by omega) (by omega)) dL_law_315 ?_
  refine ln_eqi (y := xs (i + 1)) (by rw [nI_clamp (by omega)]) ?_
  refine lv_aload_n hx hb dL_law_316 rfl (lv_at hl 3 rfl) ?_
  refine lv_iload_n hx hb dL_law_317 rfl (lv_at hl 0 rfl) ?_
  refine lv_iconst (v := (nI (2))) hx hb dL_law_318 (by decide) ?_
  refine ln_iadd hx hb dL_law_319 ?_
  refine va_sld hx hb hX hbl hbA hS (vp_in_nI (show i + 2 < L by omega) (by omega)) dL_law_320 ?_
  refine ln_eqi (y := xs (i + 2)) (by rw [nI_clamp (by omega)]) ?_
  refine lz_dia hx hb dL_law_321 dL_law_324 dL_law_325 dL_law_328 ?_
  refine lv_aload_n hx hb dL_law_329 rfl (lv_at hl 3 rfl) ?_
  refine lv_iload_n hx hb dL_law_330 rfl (lv_at hl 0 rfl) ?_
  refine lv_iconst (v := (nI (3))) hx hb dL_law_331 (by decide) ?_
  refine ln_iadd hx hb dL_law_332 ?_
  refine va_sld hx hb hX hbl hbA hS (vp_in_nI (show i + 3 < L by omega) (by omega)) dL_law_333 ?_
  refine ln_eqi (y := xs (i + 3)) (by rw [nI_clamp (by omega)]) ?_
  refine lv_aload_n hx hb dL_law_334 rfl (lv_at hl 3 rfl) ?_
  refine lv_iload_n hx hb dL_law_335 rfl (lv_at hl 0 rfl) ?_
  refine lv_iconst (v := (nI (4))) hx hb dL_law_336 (by decide) ?_
  refine ln_iadd hx hb dL_law_337 ?_
  refine va_sld hx hb hX hbl hbA hS (vp_in_nI (show i + 4 < L by omega) (by omega)) dL_law_338 ?_
  refine ln_eqi (y := xs (i + 4)) (by rw [nI_clamp (by omega)]) ?_
  refine lz_dia hx hb dL_law_339 dL_law_342 dL_law_343 dL_law_346 ?_
  refine mq_Vl (As := [.int (xs (i + 1)), .int (zI (xs (i + 2))), .int (xs (i + 3)), .int (zI (xs (i + 4)))]) (rest := [.long r1]) (ci := 12) (k0 := 0) ⟨hx, hb, hml, hown, htsL⟩ (cM_led l D ad (cy 0) (cy 1) (iniA 64) (fun _ => 0) (fun _ => 0) (fun _ => 0) (fun _ => 0) (fun _ => 1) (fun _ => 0) (fun _ => 0) 0 0 0 0 0 0 0 0 0 0 0 0 0 (fun _ => 0) (fun _ => 0) (fun _ => 0) (xs (i + 1)) (zI (xs (i + 2))) (xs (i + 3)) (zI (xs (i + 4))) (by rw [ini_0]; decide) (fun i h => absurd h (by rw [ini_0]; exact Nat.not_lt_zero i))) (cwV 4 htsL gL_law_X12_led rfl rfl rfl (by decide +kernel) ⟨Nat.le_of_ble_eq_true rfl, Nat.le_of_ble_eq_true rfl⟩) rfl rfl hP hKm hD hS hA rfl hl.1 rfl (Nat.le_of_ble_eq_true rfl) dL_law_347 ⟨Nat.le_of_ble_eq_true rfl, Nat.le_of_ble_eq_true rfl⟩ (fun r2 w2 H locs hq2 hP hD hS => ?_)
  have heq : r1 = r2 := by
    rcases hq2 with ⟨-, h2, -⟩ | h2
    · rw [hq1.1, h2]
    · obtain ⟨_, _, ⟨_, _, h9, _⟩, _⟩ := h2
      rw [ini_0] at h9
      exact absurd h9 (Nat.not_lt_zero _)
  refine W.lcmp hx hb dL_law_350 ?_
  refine lv_if_eq (tgt := 1374) hx hb dL_law_351 (by decide) (fun c9 => ?_) (fun c9 => ?_)
  · exact hend _ _ _ _ (by decide) (by decide) hS
  · exact absurd ((lg_cmp_eq _ _).mpr heq) c9
set_option maxHeartbeats 4000000 in
set_option maxRecDepth 100000 in
theorem law_4 (l : Launch) {p : Program} {e : Env} {s : State} {m : MethodId} {below : List Frame} {meth : Method} {c : Code} {b L : Nat} {xs : Nat → Int32} (C0 : lw_At p s m meth c b L xs) {D : va_G} {cy : Nat → ClassId} (hK : va_K D vwCl (cT cy) s) (hN : nst s) {i : Nat} (hi : i + 7 ≤ L) (hL : L ≤ 3584) {d0 pA mA go0 ga0 gb0 gc0 m0 sA rA fQ t0 up lo g0 ga ho shA pq sA0 s0 z0 s1 z1 s2 z2 s3 z3 : Nat} {sa ra ad : Nat → Nat} {H : Heap} {locs : List Loc} {ls : Array Slot} (hP : va_P D vwCl (fC cy d0 pA mA go0 ga0 gb0 gc0 m0 sA rA fQ t0 up lo g0 ga ho shA pq sA0 s0 z0 s1 z1 s2 z2 s3 z3 sa ra ++ fM cy ad) H) (hD : va_D (fun q : Nat => s.heap.size ≤ q) (fC cy d0 pA mA go0 ga0 gb0 gc0 m0 sA rA fQ t0 up lo g0 ga ho shA pq sA0 s0 z0 s1 z1 s2 z2 s3 z3 sa ra ++ fM cy ad)) (hS : va_S (fun q : Nat => s.heap.size ≤ q) s.heap H locs) (hl : lv_has ls 4 [(3, .int (nI i)), (2, .ref (ad 0)), (1, .ref d0), (0, .ref b)]) (hend : ∀ (H : Heap) (locs : List Loc) (cs sl : Nat), cs ≤ 1000 → sl ≤ 20000 → va_S (fun q : Nat => s.heap.size ≤ q) s.heap H locs → W p l e room_1 s m #[Value.ref b] below meth c H locs cs sl (lw_Z below #[Value.ref b] s) (F0 m 1374 ls [])) : W p l e room_1 s m #[Value.ref b] below meth c H locs 100 15000 (lw_Z below #[Value.ref b] s) (F0 m 356 ls []) := by
  obtain ⟨hx, hb, hr, hml, hown, hts, hX, hbl, hlocks, hgv⟩ := C0
  have htsL : ∀ w ∈ wsL_law, w.before #[Value.ref b] s = true := fun w h => hts w (wsL_law_in w h)
  have hown : s.vm.findClass RL = some m.cls := hown
  have hA : ∀ q : Nat, s.heap.size ≤ q → (fun q : Nat => s.heap.size ≤ q) q := fun _ h => h
  have hbA : ¬ (fun q : Nat => s.heap.size ≤ q) b := Nat.not_le.mpr hbl
  have hKm : va_K D vwCl (mT (cy 0) (cy 1)) s := hK.sub [0, 1] rfl
  refine lv_aload_n hx hb dL_law_356 rfl (lv_at hl 2 rfl) ?_
  refine lv_aload_n hx hb dL_law_357 rfl (lv_at hl 3 rfl) ?_
  refine lv_iload_n hx hb dL_law_358 rfl (lv_at hl 0 rfl) ?_
  refine lv_iconst (v := (nI (1))) hx hb dL_law_359 (by decide) ?_
  refine ln_iadd hx hb dL_law_360 ?_
  refine va_sld hx hb hX hbl hbA hS (vp_in_nI (show i + 1 < L by omega) (by omega)) dL_law_361 ?_
  refine ln_eqi (y := xs (i + 1)) (by rw [nI_clamp (by omega)]) ?_
  refine lv_aload_n hx hb dL_law_362 rfl (lv_at hl 3 rfl) ?_
  refine lv_iload_n hx hb dL_law_363 rfl (lv_at hl 0 rfl) ?_
  refine lv_iconst (v := (nI (2))) hx hb dL_law_364 (by decide) ?_
  refine ln_iadd hx hb dL_law_365 ?_
  refine va_sld hx hb hX hbl hbA hS (vp_in_nI (show i + 2 < L by omega) (by omega)) dL_law_366 ?_
  refine ln_eqi (y := xs (i + 2)) (by rw [nI_clamp (by omega)]) ?_
  refine lz_dia hx hb dL_law_367 dL_law_370 dL_law_371 dL_law_374 ?_
  refine lv_aload_n hx hb dL_law_375 rfl (lv_at hl 3 rfl) ?_
  refine lv_iload_n hx hb dL_law_376 rfl (lv_at hl 0 rfl) ?_
  refine lv_iconst (v := (nI (3))) hx hb dL_law_377 (by decide) ?_
  refine ln_iadd hx hb dL_law_378 ?_
  refine va_sld hx hb hX hbl hbA hS (vp_in_nI (show i + 3 < L by omega) (by omega)) dL_law_379 ?_
  refine ln_eqi (y := xs (i + 3)) (by rw [nI_clamp (by omega)]) ?_
  refine lz_dia hx hb dL_law_380 dL_law_383 dL_law_384 dL_law_387 ?_
  have hP := hP.subT (w' := [(d0, .inr (11, [.ref (pA), .int (nI (0)), .ref (mA), .int (nI (0)), .ref (go0), .ref (m0), .ref (fQ), .int (nI (0)), .ref (t0), .ref (g0), .ref (shA), .ref (pq), .long (0)])), (pA, .inl (cy 3, 6, .inr (.inr (.inr (.inr (fun _ => none))))))]) [0, 1] rfl
  have hD := hD.subT (w' := [(d0, .inr (11, [.ref (pA), .int (nI (0)), .ref (mA), .int (nI (0)), .ref (go0), .ref (m0), .ref (fQ), .int (nI (0)), .ref (t0), .ref (g0), .ref (shA), .ref (pq), .long (0)])), (pA, .inl (cy 3, 6, .inr (.inr (.inr (.inr (fun _ => none))))))]) [0, 1] (by decide) rfl
  refine nq_Vl (As := [.int (xs (i + 1)), .int (zI (xs (i + 2))), .int (zI (xs (i + 3)))]) (rest := []) (w := [(d0, .inr (11, [.ref (pA), .int (nI (0)), .ref (mA), .int (nI (0)), .ref (go0), .ref (m0), .ref (fQ), .int (nI (0)), .ref (t0), .ref (g0), .ref (shA), .ref (pq), .long (0)])), (pA, .inl (cy 3, 6, .inr (.inr (.inr (.inr (fun _ => none))))))]) (wr := fM cy ad) (ci := 11) (k0 := 0) ⟨hx, hb, hml, hown, htsL⟩ (qX11_miss_n l D cy d0 pA 0 mA 0 go0 m0 fQ 0 t0 g0 shA pq 0 (fun _ => none) (xs (i + 1)) (zI (xs (i + 2))) (zI (xs (i + 3))) ix0) (cwV 3 htsL gL_law_X11_miss rfl rfl rfl (by decide +kernel) ⟨Nat.le_of_ble_eq_true rfl, Nat.le_of_ble_eq_true rfl⟩) rfl rfl hP hK hD hN hS hA rfl hl.1 rfl (Nat.le_of_ble_eq_true rfl) dL_law_388 ⟨Nat.le_of_ble_eq_true rfl, Nat.le_of_ble_eq_true rfl⟩ (fun r1 w1 H locs hq1 hP hD hS => ?_)
  have hP := hP.right
  have hD := hD.right
  refine lv_aload_n hx hb dL_law_391 rfl (lv_at hl 1 rfl) ?_
  refine lv_aload_n hx hb dL_law_392 rfl (lv_at hl 3 rfl) ?_
  refine lv_iload_n hx hb dL_law_393 rfl (lv_at hl 0 rfl) ?_
  refine lv_iconst (v := (nI (1))) hx hb dL_law_394 (by decide) ?_
  refine ln_iadd hx hb dL_law_395 ?_
  refine va_sld hx hb hX hbl hbA hS (vp_in_nI (show i + 1 < L by omega) (by omega)) dL_law_396 ?_
  refine ln_eqi (y := xs (i + 1)) (by rw [nI_clamp (by omega)]) ?_
  refine lv_aload_n hx hb dL_law_397 rfl (lv_at hl 3 rfl) ?_
  refine lv_iload_n hx hb dL_law_398 rfl (lv_at hl 0 rfl) ?_
  refine lv_iconst (v := (nI (2))) hx hb dL_law_399 (by decide) ?_
  refine ln_iadd hx hb dL_law_400 ?_
  refine va_sld hx hb hX hbl hbA hS (vp_in_nI (show i + 2 < L by omega) (by omega)) dL_law_401 ?_
  refine ln_eqi (y := xs (i + 2)) (by rw [nI_clamp (by omega)]) ?_
  refine lz_dia hx hb dL_law_402 dL_law_405 dL_law_406 dL_law_409 ?_
  refine lv_aload_n hx hb dL_law_410 rfl (lv_at hl 3 rfl) ?_
  refine lv_iload_n hx hb dL_law_411 rfl (lv_at hl 0 rfl) ?_
  refine lv_iconst (v := (nI (3))) hx hb dL_law_412 (by decide) ?_
  refine ln_iadd hx hb dL_law_413 ?_
  refine va_sld hx hb hX hbl hbA hS (vp_in_nI (show i + 3 < L by omega) (by omega)) dL_law_414 ?_
  refine ln_eqi (y := xs (i + 3)) (by rw [nI_clamp (by omega)]) ?_
  refine lz_dia hx hb dL_law_415 dL_law_418 dL_law_419 dL_law_422 ?_
  refine mq_Vl (As := [.int (xs (i + 1)), .int (zI (xs (i + 2))), .int (zI (xs (i + 3)))]) (rest := [.long r1]) (ci := 12) (k0 := 0) ⟨hx, hb, hml, hown, htsL⟩ (cM_miss l D ad (cy 0) (cy 1) (iniA 64) (fun _ => 0) (fun _ => 0) (fun _ => 0) (fun _ => 0) (fun _ => 1) (fun _ => 0) (fun _ => 0) 0 0 0 0 0 0 0 0 0 0 0 0 0 (fun _ => 0) (fun _ => 0) (fun _ => 0) (xs (i + 1)) (zI (xs (i + 2))) (zI (xs (i + 3))) (by rw [ini_0]; decide) (fun i h => absurd h (by rw [ini_0]; exact Nat.not_lt_zero i))) (cwV 3 htsL gL_law_X12_miss rfl rfl rfl (by decide +kernel) ⟨Nat.le_of_ble_eq_true rfl, Nat.le_of_ble_eq_true rfl⟩) rfl rfl hP hKm hD hS hA rfl hl.1 rfl (Nat.le_of_ble_eq_true rfl) dL_law_423 ⟨Nat.le_of_ble_eq_true rfl, Nat.le_of_ble_eq_true rfl⟩ (fun r2 w2 H locs hq2 hP hD hS => ?_)
  have heq : r1 = r2 := by
    rcases hq2 with ⟨-, h2, -⟩ | h2
    · rw [hq1.1, h2]
    · obtain ⟨_, ⟨_, h9⟩, _⟩ := h2
      rw [ini_0] at h9
      exact absurd h9 (Nat.not_lt_zero _)
  refine W.lcmp hx hb dL_law_426 ?_
  refine lv_if_eq (tgt := 1374) hx hb dL_law_427 (by decide) (fun c9 => ?_) (fun c9 => ?_)
  · exact hend _ _ _ _ (by decide) (by decide) hS
  · exact absurd ((lg_cmp_eq _ _).mpr heq) c9
