set_option maxHeartbeats 4000000 in
set_option maxRecDepth 100000 in
theorem law_0 (l : Launch) {p : Program} {e : Env} {s : State} {m : MethodId} {below : List Frame} {meth : Method} {c : Code} {b L : Nat} {xs : Nat → Int32} (C0 : lw_At p s m meth c b L xs) {D : va_G} {cy : Nat → ClassId} (hK : va_K D vwCl (cT cy) s) (hN : nst s) (hka : ka (fun q : Nat => s.heap.size ≤ q) s s.heap) {i : Nat} (hi : i + 7 ≤ L) (hL : L ≤ 3584) {d0 : Nat} {ad : Nat → Nat} {a kp bt sz : Nat → Nat} {sheets : Nat → Int32} {ke km : Nat} {w w2 : va_W} (hI : IvD cy d0 a kp bt sz sheets ke km w) (hM : Mdl cy ad a kp bt sz sheets ke km w2) {H : Heap} {locs : List Loc} {ls : Array Slot} (hP : va_P D vwCl (w ++ w2) H) (hD : va_D (fun q : Nat => s.heap.size ≤ q) (w ++ w2)) (hS : va_S (fun q : Nat => s.heap.size ≤ q) s.heap H locs) (hl : lv_has ls 4 [(3, .int (nI i)), (2, .ref (ad 0)), (1, .ref d0), (0, .ref b)]) (hend : ∀ (a kp bt sz : Nat → Nat) (sheets : Nat → Int32) (ke km : Nat) (w w2 : va_W) (H : Heap) (locs : List Loc) (cs sl : Nat), IvD cy d0 a kp bt sz sheets ke km w → Mdl cy ad a kp bt sz sheets ke km w2 → va_P D vwCl (w2 ++ w) H → va_D (fun q : Nat => s.heap.size ≤ q) (w2 ++ w) → va_S (fun q : Nat => s.heap.size ≤ q) s.heap H locs → cs ≤ 107 + i → sl ≤ 15056 + 8 * i → W p l e room_1 s m #[Value.ref b] below meth c H locs cs sl (lw_Z below #[Value.ref b] s) (F0 m 1345 ls [])) : W p l e room_1 s m #[Value.ref b] below meth c H locs (100 + i) (15000 + 8 * i) (lw_Z below #[Value.ref b] s) (F0 m 168 ls []) := by
  obtain ⟨hx, hb, hr, hml, hown, hts, hX, hbl, hlocks, hgv⟩ := C0
  have htsL : ∀ w ∈ wsL_law, w.before #[Value.ref b] s = true := fun w h => hts w (wsL_law_in w h)
  have hown : s.vm.findClass RL = some m.cls := hown
  have hA : ∀ q : Nat, s.heap.size ≤ q → (fun q : Nat => s.heap.size ≤ q) q := fun _ h => h
  have hbA : ¬ (fun q : Nat => s.heap.size ≤ q) b := Nat.not_le.mpr hbl
  have hKm : va_K D vwCl (mT (cy 0) (cy 1)) s := hK.sub [0, 1] rfl
  obtain ⟨hok, he20, hm20, hsz⟩ := IvD_f hI
  obtain ⟨k0, fs0, hat⟩ := IvD_at hI
  obtain ⟨fs2, hat2⟩ := Mdl_at hM
  refine lv_aload_n hx hb dL_law_168 rfl (lv_at hl 2 rfl) ?_
  refine kq_Vl (As := []) (rest := []) (w := w) (wr := w2) (ci := 11) (k0 := k0) ⟨hx, hb, hml, hown, htsL⟩ (ik_picture l D hI ) (cwV 0 htsL gL_law_X11_picture rfl rfl rfl (by decide +kernel) ⟨Nat.le_of_ble_eq_true rfl, Nat.le_of_ble_eq_true rfl⟩) rfl hat hP hK hD hN hka hS hA rfl hl.1 rfl (Nat.le_of_ble_eq_true rfl) dL_law_169 ⟨show 100 + i + 7 ≤ 600000 by omega, show 15000 + 8 * i + 51 ≤ 7302250 by omega⟩ (fun r1 w1 H locs hq1 hP hD hS => ?_)
  have hP := hP.perm (List.perm_append_comm (l₁ := w1) (l₂ := w2))
  have hD := hD.perm (List.perm_append_comm (l₁ := w1) (l₂ := w2))
  refine lv_pop2_2 hx hb dL_law_172 rfl ?_
  refine lv_aload_n hx hb dL_law_173 rfl (lv_at hl 1 rfl) ?_
  refine fr_Vl (As := []) (rest := []) (w := w2) (wr := w1) (ci := 12) (k0 := 0) ⟨hx, hb, hml, hown, htsL⟩ (mk_picture l D hM hok he20 hm20 hsz ) (cwV 0 htsL gL_law_X12_picture rfl rfl rfl (by decide +kernel) ⟨Nat.le_of_ble_eq_true rfl, Nat.le_of_ble_eq_true rfl⟩) rfl hat2 hP hKm hD hS hA rfl hl.1 rfl (Nat.le_of_ble_eq_true rfl) dL_law_174 ⟨show 100 + i + 7 + 0 ≤ 600000 by omega, show 15000 + 8 * i + 51 + 0 ≤ 7302250 by omega⟩ (fun r2 w3 H locs hq2 hP hD hS => ?_)
  obtain ⟨hr12, a9, kp9, bt9, sz9, sh9, ke9, km9, k1, k2⟩ := jn_picture hok (fun i hi => (hsz i hi).1) hq1 hq2
  refine lv_pop2_2 hx hb dL_law_177 rfl ?_
  refine lv_goto (tgt := 1345) hx hb dL_law_178 (by decide) ?_
  exact hend a9 kp9 bt9 sz9 sh9 ke9 km9 w1 w3 _ _ _ _ k1 k2 hP hD hS (by omega) (by omega)
set_option maxHeartbeats 4000000 in
set_option maxRecDepth 100000 in
theorem law_1 (l : Launch) {p : Program} {e : Env} {s : State} {m : MethodId} {below : List Frame} {meth : Method} {c : Code} {b L : Nat} {xs : Nat → Int32} (C0 : lw_At p s m meth c b L xs) {D : va_G} {cy : Nat → ClassId} (hK : va_K D vwCl (cT cy) s) (hN : nst s) (hka : ka (fun q : Nat => s.heap.size ≤ q) s s.heap) {i : Nat} (hi : i + 7 ≤ L) (hL : L ≤ 3584) {d0 : Nat} {ad : Nat → Nat} {a kp bt sz : Nat → Nat} {sheets : Nat → Int32} {ke km : Nat} {w w2 : va_W} (hI : IvD cy d0 a kp bt sz sheets ke km w) (hM : Mdl cy ad a kp bt sz sheets ke km w2) {H : Heap} {locs : List Loc} {ls : Array Slot} (hP : va_P D vwCl (w ++ w2) H) (hD : va_D (fun q : Nat => s.heap.size ≤ q) (w ++ w2)) (hS : va_S (fun q : Nat => s.heap.size ≤ q) s.heap H locs) (hl : lv_has ls 4 [(3, .int (nI i)), (2, .ref (ad 0)), (1, .ref d0), (0, .ref b)]) (hend : ∀ (a kp bt sz : Nat → Nat) (sheets : Nat → Int32) (ke km : Nat) (w w2 : va_W) (H : Heap) (locs : List Loc) (cs sl : Nat), IvD cy d0 a kp bt sz sheets ke km w → Mdl cy ad a kp bt sz sheets ke km w2 → va_P D vwCl (w2 ++ w) H → va_D (fun q : Nat => s.heap.size ≤ q) (w2 ++ w) → va_S (fun q : Nat => s.heap.size ≤ q) s.heap H locs → cs ≤ 107 + i → sl ≤ 15056 + 8 * i → W p l e room_1 s m #[Value.ref b] below meth c H locs cs sl (lw_Z below #[Value.ref b] s) (F0 m 1345 ls [])) : W p l e room_1 s m #[Value.ref b] below meth c H locs (100 + i) (15000 + 8 * i) (lw_Z below #[Value.ref b] s) (F0 m 181 ls []) := by
  obtain ⟨hx, hb, hr, hml, hown, hts, hX, hbl, hlocks, hgv⟩ := C0
  have htsL : ∀ w ∈ wsL_law, w.before #[Value.ref b] s = true := fun w h => hts w (wsL_law_in w h)
  have hown : s.vm.findClass RL = some m.cls := hown
  have hA : ∀ q : Nat, s.heap.size ≤ q → (fun q : Nat => s.heap.size ≤ q) q := fun _ h => h
  have hbA : ¬ (fun q : Nat => s.heap.size ≤ q) b := Nat.not_le.mpr hbl
  have hKm : va_K D vwCl (mT (cy 0) (cy 1)) s := hK.sub [0, 1] rfl
  obtain ⟨hok, he20, hm20, hsz⟩ := IvD_f hI
  obtain ⟨k0, fs0, hat⟩ := IvD_at hI
  obtain ⟨fs2, hat2⟩ := Mdl_at hM
  refine lv_aload_n hx hb dL_law_181 rfl (lv_at hl 2 rfl) ?_
  refine lv_aload_n hx hb dL_law_182 rfl (lv_at hl 3 rfl) ?_
  refine lv_iload_n hx hb dL_law_183 rfl (lv_at hl 0 rfl) ?_
  refine lv_iconst (v := (nI (1))) hx hb dL_law_184 (by decide) ?_
  refine ln_iadd hx hb dL_law_185 ?_
  refine va_sld hx hb hX hbl hbA hS (vp_in_nI (show i + 1 < L by omega) (by omega)) dL_law_186 ?_
  refine ln_eqi (y := xs (i + 1)) (by rw [nI_clamp (by omega)]) ?_
  refine lv_aload_n hx hb dL_law_187 rfl (lv_at hl 3 rfl) ?_
  refine lv_iload_n hx hb dL_law_188 rfl (lv_at hl 0 rfl) ?_
  refine lv_iconst (v := (nI (2))) hx hb dL_law_189 (by decide) ?_
  refine ln_iadd hx hb dL_law_190 ?_
  refine va_sld hx hb hX hbl hbA hS (vp_in_nI (show i + 2 < L by omega) (by omega)) dL_law_191 ?_
  refine ln_eqi (y := xs (i + 2)) (by rw [nI_clamp (by omega)]) ?_
  refine lv_aload_n hx hb dL_law_192 rfl (lv_at hl 3 rfl) ?_
  refine lv_iload_n hx hb dL_law_193 rfl (lv_at hl 0 rfl) ?_
  refine lv_iconst (v := (nI (3))) hx hb dL_law_194 (by decide) ?_
  refine ln_iadd hx hb dL_law_195 ?_
  refine va_sld hx hb hX hbl hbA hS (vp_in_nI (show i + 3 < L by omega) (by omega)) dL_law_196 ?_
  refine ln_eqi (y := xs (i + 3)) (by rw [nI_clamp (by omega)]) ?_
  refine lv_aload_n hx hb dL_law_197 rfl (lv_at hl 3 rfl) ?_
  refine lv_iload_n hx hb dL_law_198 rfl (lv_at hl 0 rfl) ?_
  refine lv_iconst (v := (nI (4))) hx hb dL_law_199 (by decide) ?_
  refine ln_iadd hx hb dL_law_200 ?_
  refine va_sld hx hb hX hbl hbA hS (vp_in_nI (show i + 4 < L by omega) (by omega)) dL_law_201 ?_
  refine ln_eqi (y := xs (i + 4)) (by rw [nI_clamp (by omega)]) ?_
  refine lv_aload_n hx hb dL_law_202 rfl (lv_at hl 3 rfl) ?_
  refine lv_iload_n hx hb dL_law_203 rfl (lv_at hl 0 rfl) ?_
  refine lv_iconst (v := (nI (5))) hx hb dL_law_204 (by decide) ?_
  refine ln_iadd hx hb dL_law_205 ?_
  refine va_sld hx hb hX hbl hbA hS (vp_in_nI (show i + 5 < L by omega) (by omega)) dL_law_206 ?_
  refine ln_eqi (y := xs (i + 5)) (by rw [nI_clamp (by omega)]) ?_
  refine kq_Vl (As := [.int (xs (i + 1)), .int (xs (i + 2)), .int (xs (i + 3)), .int (xs (i + 4)), .int (xs (i + 5))]) (rest := []) (w := w) (wr := w2) (ci := 11) (k0 := k0) ⟨hx, hb, hml, hown, htsL⟩ (ik_place l D hI (xs (i + 1)) (xs (i + 2)) (xs (i + 3)) (xs (i + 4)) (xs (i + 5))) (cwV 5 htsL gL_law_X11_place rfl rfl rfl (by decide +kernel) ⟨Nat.le_of_ble_eq_true rfl, Nat.le_of_ble_eq_true rfl⟩) rfl hat hP hK hD hN hka hS hA rfl hl.1 rfl (Nat.le_of_ble_eq_true rfl) dL_law_207 ⟨show 100 + i + 0 ≤ 600000 by omega, show 15000 + 8 * i + 0 ≤ 7302250 by omega⟩ (fun r1 w1 H locs hq1 hP hD hS => ?_)
  have hP := hP.perm (List.perm_append_comm (l₁ := w1) (l₂ := w2))
  have hD := hD.perm (List.perm_append_comm (l₁ := w1) (l₂ := w2))
  refine lv_pop2_2 hx hb dL_law_210 rfl ?_
  refine lv_aload_n hx hb dL_law_211 rfl (lv_at hl 1 rfl) ?_
  refine lv_aload_n hx hb dL_law_212 rfl (lv_at hl 3 rfl) ?_
  refine lv_iload_n hx hb dL_law_213 rfl (lv_at hl 0 rfl) ?_
  refine lv_iconst (v := (nI (1))) hx hb dL_law_214 (by decide) ?_
  refine ln_iadd hx hb dL_law_215 ?_
  refine va_sld hx hb hX hbl hbA hS (vp_in_nI (show i + 1 < L by omega) (by omega)) dL_law_216 ?_
  refine ln_eqi (y := xs (i + 1)) (by rw [nI_clamp (by omega)]) ?_
  refine lv_aload_n hx hb dL_law_217 rfl (lv_at hl 3 rfl) ?_
  refine lv_iload_n hx hb dL_law_218 rfl (lv_at hl 0 rfl) ?_
  refine lv_iconst (v := (nI (2))) hx hb dL_law_219 (by decide) ?_
  refine ln_iadd hx hb dL_law_220 ?_
  refine va_sld hx hb hX hbl hbA hS (vp_in_nI (show i + 2 < L by omega) (by omega)) dL_law_221 ?_
  refine ln_eqi (y := xs (i + 2)) (by rw [nI_clamp (by omega)]) ?_
  refine lv_aload_n hx hb dL_law_222 rfl (lv_at hl 3 rfl) ?_
  refine lv_iload_n hx hb dL_law_223 rfl (lv_at hl 0 rfl) ?_
  refine lv_iconst (v := (nI (3))) hx hb dL_law_224 (by decide) ?_
  refine ln_iadd hx hb dL_law_225 ?_
  refine va_sld hx hb hX hbl hbA hS (vp_in_nI (show i + 3 < L by omega) (by omega)) dL_law_226 ?_
  refine ln_eqi (y := xs (i + 3)) (by rw [nI_clamp (by omega)]) ?_
  refine lv_aload_n hx hb dL_law_227 rfl (lv_at hl 3 rfl) ?_
  refine lv_iload_n hx hb dL_law_228 rfl (lv_at hl 0 rfl) ?_
  refine lv_iconst (v := (nI (4))) hx hb dL_law_229 (by decide) ?_
  refine ln_iadd hx hb dL_law_230 ?_
  refine va_sld hx hb hX hbl hbA hS (vp_in_nI (show i + 4 < L by omega) (by omega)) dL_law_231 ?_
  refine ln_eqi (y := xs (i + 4)) (by rw [nI_clamp (by omega)]) ?_
  refine lv_aload_n hx hb dL_law_232 rfl (lv_at hl 3 rfl) ?_
  refine lv_iload_n hx hb dL_law_233 rfl (lv_at hl 0 rfl) ?_
  refine lv_iconst (v := (nI (5))) hx hb dL_law_234 (by decide) ?_
  refine ln_iadd hx hb dL_law_235 ?_
  refine va_sld hx hb hX hbl hbA hS (vp_in_nI (show i + 5 < L by omega) (by omega)) dL_law_236 ?_
  refine ln_eqi (y := xs (i + 5)) (by rw [nI_clamp (by omega)]) ?_
  refine fr_Vl (As := [.int (xs (i + 1)), .int (xs (i + 2)), .int (xs (i + 3)), .int (xs (i + 4)), .int (xs (i + 5))]) (rest := []) (w := w2) (wr := w1) (ci := 12) (k0 := 0) ⟨hx, hb, hml, hown, htsL⟩ (mk_place l D hM hok he20 hm20 hsz (xs (i + 1)) (xs (i + 2)) (xs (i + 3)) (xs (i + 4)) (xs (i + 5))) (cwV 5 htsL gL_law_X12_place rfl rfl rfl (by decide +kernel) ⟨Nat.le_of_ble_eq_true rfl, Nat.le_of_ble_eq_true rfl⟩) rfl hat2 hP hKm hD hS hA rfl hl.1 rfl (Nat.le_of_ble_eq_true rfl) dL_law_237 ⟨show 100 + i + 0 + 0 ≤ 600000 by omega, show 15000 + 8 * i + 0 + 0 ≤ 7302250 by omega⟩ (fun r2 w3 H locs hq2 hP hD hS => ?_)
  obtain ⟨hr12, a9, kp9, bt9, sz9, sh9, ke9, km9, k1, k2⟩ := jn_place hok (fun i hi => (hsz i hi).1) hq1 hq2
  refine lv_pop2_2 hx hb dL_law_240 rfl ?_
  refine lv_goto (tgt := 1345) hx hb dL_law_241 (by decide) ?_
  exact hend a9 kp9 bt9 sz9 sh9 ke9 km9 w1 w3 _ _ _ _ k1 k2 hP hD hS (by omega) (by omega)
set_option maxHeartbeats 4000000 in
set_option maxRecDepth 100000 in
theorem law_2 (l : Launch) {p : Program} {e : Env} {s : State} {m : MethodId} {below : List Frame} {meth : Method} {c : Code} {b L : Nat} {xs : Nat → Int32} (C0 : lw_At p s m meth c b L xs) {D : va_G} {cy : Nat → ClassId} (hK : va_K D vwCl (cT cy) s) (hN : nst s) (hka : ka (fun q : Nat => s.heap.size ≤ q) s s.heap) {i : Nat} (hi : i + 7 ≤ L) (hL : L ≤ 3584) {d0 : Nat} {ad : Nat → Nat} {a kp bt sz : Nat → Nat} {sheets : Nat → Int32} {ke km : Nat} {w w2 : va_W} (hI : IvD cy d0 a kp bt sz sheets ke km w) (hM : Mdl cy ad a kp bt sz sheets ke km w2) {H : Heap} {locs : List Loc} {ls : Array Slot} (hP : va_P D vwCl (w ++ w2) H) (hD : va_D (fun q : Nat => s.heap.size ≤ q) (w ++ w2)) (hS : va_S (fun q : Nat => s.heap.size ≤ q) s.heap H locs) (hl : lv_has ls 4 [(3, .int (nI i)), (2, .ref (ad 0)), (1, .ref d0), (0, .ref b)]) (hend : ∀ (a kp bt sz : Nat → Nat) (sheets : Nat → Int32) (ke km : Nat) (w w2 : va_W) (H : Heap) (locs : List Loc) (cs sl : Nat), IvD cy d0 a kp bt sz sheets ke km w → Mdl cy ad a kp bt sz sheets ke km w2 → va_P D vwCl (w2 ++ w) H → va_D (fun q : Nat => s.heap.size ≤ q) (w2 ++ w) → va_S (fun q : Nat => s.heap.size ≤ q) s.heap H locs → cs ≤ 107 + i → sl ≤ 15056 + 8 * i → W p l e room_1 s m #[Value.ref b] below meth c H locs cs sl (lw_Z below #[Value.ref b] s) (F0 m 1345 ls [])) : W p l e room_1 s m #[Value.ref b] below meth c H locs (100 + i) (15000 + 8 * i) (lw_Z below #[Value.ref b] s) (F0 m 244 ls []) := by
  obtain ⟨hx, hb, hr, hml, hown, hts, hX, hbl, hlocks, hgv⟩ := C0
  have htsL : ∀ w ∈ wsL_law, w.before #[Value.ref b] s = true := fun w h => hts w (wsL_law_in w h)
  have hown : s.vm.findClass RL = some m.cls := hown
  have hA : ∀ q : Nat, s.heap.size ≤ q → (fun q : Nat => s.heap.size ≤ q) q := fun _ h => h
  have hbA : ¬ (fun q : Nat => s.heap.size ≤ q) b := Nat.not_le.mpr hbl
  have hKm : va_K D vwCl (mT (cy 0) (cy 1)) s := hK.sub [0, 1] rfl
  obtain ⟨hok, he20, hm20, hsz⟩ := IvD_f hI
  obtain ⟨k0, fs0, hat⟩ := IvD_at hI
  obtain ⟨fs2, hat2⟩ := Mdl_at hM
  refine lv_aload_n hx hb dL_law_244 rfl (lv_at hl 2 rfl) ?_
  refine lv_aload_n hx hb dL_law_245 rfl (lv_at hl 3 rfl) ?_
  refine lv_iload_n hx hb dL_law_246 rfl (lv_at hl 0 rfl) ?_
  refine lv_iconst (v := (nI (1))) hx hb dL_law_247 (by decide) ?_
  refine ln_iadd hx hb dL_law_248 ?_
  refine va_sld hx hb hX hbl hbA hS (vp_in_nI (show i + 1 < L by omega) (by omega)) dL_law_249 ?_
  refine ln_eqi (y := xs (i + 1)) (by rw [nI_clamp (by omega)]) ?_
  refine kq_Vl (As := [.int (xs (i + 1))]) (rest := []) (w := w) (wr := w2) (ci := 11) (k0 := k0) ⟨hx, hb, hml, hown, htsL⟩ (ik_unplace l D hI (xs (i + 1))) (cwV 1 htsL gL_law_X11_unplace rfl rfl rfl (by decide +kernel) ⟨Nat.le_of_ble_eq_true rfl, Nat.le_of_ble_eq_true rfl⟩) rfl hat hP hK hD hN hka hS hA rfl hl.1 rfl (Nat.le_of_ble_eq_true rfl) dL_law_250 ⟨show 100 + i + 0 ≤ 600000 by omega, show 15000 + 8 * i + 0 ≤ 7302250 by omega⟩ (fun r1 w1 H locs hq1 hP hD hS => ?_)
  have hP := hP.perm (List.perm_append_comm (l₁ := w1) (l₂ := w2))
  have hD := hD.perm (List.perm_append_comm (l₁ := w1) (l₂ := w2))
  refine lv_pop2_2 hx hb dL_law_253 rfl ?_
  refine lv_aload_n hx hb dL_law_254 rfl (lv_at hl 1 rfl) ?_
  refine lv_aload_n hx hb dL_law_255 rfl (lv_at hl 3 rfl) ?_
  refine lv_iload_n hx hb dL_law_256 rfl (lv_at hl 0 rfl) ?_
  refine lv_iconst (v := (nI (1))) hx hb dL_law_257 (by decide) ?_
  refine ln_iadd hx hb dL_law_258 ?_
  refine va_sld hx hb hX hbl hbA hS (vp_in_nI (show i + 1 < L by omega) (by omega)) dL_law_259 ?_
  refine ln_eqi (y := xs (i + 1)) (by rw [nI_clamp (by omega)]) ?_
  refine fr_Vl (As := [.int (xs (i + 1))]) (rest := []) (w := w2) (wr := w1) (ci := 12) (k0 := 0) ⟨hx, hb, hml, hown, htsL⟩ (mk_unplace l D hM hok he20 hm20 hsz (xs (i + 1))) (cwV 1 htsL gL_law_X12_unplace rfl rfl rfl (by decide +kernel) ⟨Nat.le_of_ble_eq_true rfl, Nat.le_of_ble_eq_true rfl⟩) rfl hat2 hP hKm hD hS hA rfl hl.1 rfl (Nat.le_of_ble_eq_true rfl) dL_law_260 ⟨show 100 + i + 0 + 0 ≤ 600000 by omega, show 15000 + 8 * i + 0 + 0 ≤ 7302250 by omega⟩ (fun r2 w3 H locs hq2 hP hD hS => ?_)
  obtain ⟨hr12, a9, kp9, bt9, sz9, sh9, ke9, km9, k1, k2⟩ := jn_unplace hok (fun i hi => (hsz i hi).1) hq1 hq2
  refine lv_pop2_2 hx hb dL_law_263 rfl ?_
  refine lv_goto (tgt := 1345) hx hb dL_law_264 (by decide) ?_
  exact hend a9 kp9 bt9 sz9 sh9 ke9 km9 w1 w3 _ _ _ _ k1 k2 hP hD hS (by omega) (by omega)
set_option maxHeartbeats 4000000 in
set_option maxRecDepth 100000 in
theorem law_3 (l : Launch) {p : Program} {e : Env} {s : State} {m : MethodId} {below : List Frame} {meth : Method} {c : Code} {b L : Nat} {xs : Nat → Int32} (C0 : lw_At p s m meth c b L xs) {D : va_G} {cy : Nat → ClassId} (hK : va_K D vwCl (cT cy) s) (hN : nst s) (hka : ka (fun q : Nat => s.heap.size ≤ q) s s.heap) {i : Nat} (hi : i + 7 ≤ L) (hL : L ≤ 3584) {d0 : Nat} {ad : Nat → Nat} {a kp bt sz : Nat → Nat} {sheets : Nat → Int32} {ke km : Nat} {w w2 : va_W} (hI : IvD cy d0 a kp bt sz sheets ke km w) (hM : Mdl cy ad a kp bt sz sheets ke km w2) {H : Heap} {locs : List Loc} {ls : Array Slot} (hP : va_P D vwCl (w ++ w2) H) (hD : va_D (fun q : Nat => s.heap.size ≤ q) (w ++ w2)) (hS : va_S (fun q : Nat => s.heap.size ≤ q) s.heap H locs) (hl : lv_has ls 4 [(3, .int (nI i)), (2, .ref (ad 0)), (1, .ref d0), (0, .ref b)]) (hend : ∀ (a kp bt sz : Nat → Nat) (sheets : Nat → Int32) (ke km : Nat) (w w2 : va_W) (H : Heap) (locs : List Loc) (cs sl : Nat), IvD cy d0 a kp bt sz sheets ke km w → Mdl cy ad a kp bt sz sheets ke km w2 → va_P D vwCl (w2 ++ w) H → va_D (fun q : Nat => s.heap.size ≤ q) (w2 ++ w) → va_S (fun q : Nat => s.heap.size ≤ q) s.heap H locs → cs ≤ 107 + i → sl ≤ 15056 + 8 * i → W p l e room_1 s m #[Value.ref b] below meth c H locs cs sl (lw_Z below #[Value.ref b] s) (F0 m 1345 ls [])) : W p l e room_1 s m #[Value.ref b] below meth c H locs (100 + i) (15000 + 8 * i) (lw_Z below #[Value.ref b] s) (F0 m 267 ls []) := by
  obtain ⟨hx, hb, hr, hml, hown, hts, hX, hbl, hlocks, hgv⟩ := C0
  have htsL : ∀ w ∈ wsL_law, w.before #[Value.ref b] s = true := fun w h => hts w (wsL_law_in w h)
  have hown : s.vm.findClass RL = some m.cls := hown
  have hA : ∀ q : Nat, s.heap.size ≤ q → (fun q : Nat => s.heap.size ≤ q) q := fun _ h => h
  have hbA : ¬ (fun q : Nat => s.heap.size ≤ q) b := Nat.not_le.mpr hbl
  have hKm : va_K D vwCl (mT (cy 0) (cy 1)) s := hK.sub [0, 1] rfl
  obtain ⟨hok, he20, hm20, hsz⟩ := IvD_f hI
  obtain ⟨k0, fs0, hat⟩ := IvD_at hI
  obtain ⟨fs2, hat2⟩ := Mdl_at hM
  refine lv_aload_n hx hb dL_law_267 rfl (lv_at hl 2 rfl) ?_
  refine lv_aload_n hx hb dL_law_268 rfl (lv_at hl 3 rfl) ?_
  refine lv_iload_n hx hb dL_law_269 rfl (lv_at hl 0 rfl) ?_
  refine lv_iconst (v := (nI (1))) hx hb dL_law_270 (by decide) ?_
  refine ln_iadd hx hb dL_law_271 ?_
  refine va_sld hx hb hX hbl hbA hS (vp_in_nI (show i + 1 < L by omega) (by omega)) dL_law_272 ?_
  refine ln_eqi (y := xs (i + 1)) (by rw [nI_clamp (by omega)]) ?_
  refine lv_aload_n hx hb dL_law_273 rfl (lv_at hl 3 rfl) ?_
  refine lv_iload_n hx hb dL_law_274 rfl (lv_at hl 0 rfl) ?_
  refine lv_iconst (v := (nI (2))) hx hb dL_law_275 (by decide) ?_
  refine ln_iadd hx hb dL_law_276 ?_
  refine va_sld hx hb hX hbl hbA hS (vp_in_nI (show i + 2 < L by omega) (by omega)) dL_law_277 ?_
  refine ln_eqi (y := xs (i + 2)) (by rw [nI_clamp (by omega)]) ?_
  refine lz_dia hx hb dL_law_278 dL_law_281 dL_law_282 dL_law_285 ?_
  refine lv_aload_n hx hb dL_law_286 rfl (lv_at hl 3 rfl) ?_
  refine lv_iload_n hx hb dL_law_287 rfl (lv_at hl 0 rfl) ?_
  refine lv_iconst (v := (nI (3))) hx hb dL_law_288 (by decide) ?_
  refine ln_iadd hx hb dL_law_289 ?_
  refine va_sld hx hb hX hbl hbA hS (vp_in_nI (show i + 3 < L by omega) (by omega)) dL_law_290 ?_
  refine ln_eqi (y := xs (i + 3)) (by rw [nI_clamp (by omega)]) ?_
  refine lv_aload_n hx hb dL_law_291 rfl (lv_at hl 3 rfl) ?_
  refine lv_iload_n hx hb dL_law_292 rfl (lv_at hl 0 rfl) ?_
  refine lv_iconst (v := (nI (4))) hx hb dL_law_293 (by decide) ?_
  refine ln_iadd hx hb dL_law_294 ?_
  refine va_sld hx hb hX hbl hbA hS (vp_in_nI (show i + 4 < L by omega) (by omega)) dL_law_295 ?_
  refine ln_eqi (y := xs (i + 4)) (by rw [nI_clamp (by omega)]) ?_
  refine lz_dia hx hb dL_law_296 dL_law_299 dL_law_300 dL_law_303 ?_
  refine kq_Vl (As := [.int (xs (i + 1)), .int (zI (xs (i + 2))), .int (xs (i + 3)), .int (zI (xs (i + 4)))]) (rest := []) (w := w) (wr := w2) (ci := 11) (k0 := k0) ⟨hx, hb, hml, hown, htsL⟩ (ia_led l D hI (xs (i + 1)) (zI (xs (i + 2))) (xs (i + 3)) (zI (xs (i + 4)))) (cwV 4 htsL gL_law_X11_led rfl rfl rfl (by decide +kernel) ⟨Nat.le_of_ble_eq_true rfl, Nat.le_of_ble_eq_true rfl⟩) rfl hat hP hK hD hN hka hS hA rfl hl.1 rfl (Nat.le_of_ble_eq_true rfl) dL_law_304 ⟨show 100 + i + 0 ≤ 600000 by omega, show 15000 + 8 * i + 0 ≤ 7302250 by omega⟩ (fun r1 w1 H locs hq1 hP hD hS => ?_)
  have hP := hP.perm (List.perm_append_comm (l₁ := w1) (l₂ := w2))
  have hD := hD.perm (List.perm_append_comm (l₁ := w1) (l₂ := w2))
  refine lv_pop2_2 hx hb dL_law_307 rfl ?_
  refine lv_aload_n hx hb dL_law_308 rfl (lv_at hl 1 rfl) ?_
  refine lv_aload_n hx hb dL_law_309 rfl (lv_at hl 3 rfl) ?_
  refine lv_iload_n hx hb dL_law_310 rfl (lv_at hl 0 rfl) ?_
  refine lv_iconst (v := (nI (1))) hx hb dL_law_311 (by decide) ?_
  refine ln_iadd hx hb dL_law_312 ?_
  refine va_sld hx hb hX hbl hbA hS (vp_in_nI (show i + 1 < L by omega) (by omega)) dL_law_313 ?_
  refine ln_eqi (y := xs (i + 1)) (by rw [nI_clamp (by omega)]) ?_
  refine lv_aload_n hx hb dL_law_314 rfl (lv_at hl 3 rfl) ?_
  refine lv_iload_n hx hb dL_law_315 rfl (lv_at hl 0 rfl) ?_
  refine lv_iconst (v := (nI (2))) hx hb dL_law_316 (by decide) ?_
  refine ln_iadd hx hb dL_law_317 ?_
  refine va_sld hx hb hX hbl hbA hS (vp_in_nI (show i + 2 < L by omega) (by omega)) dL_law_318 ?_
  refine ln_eqi (y := xs (i + 2)) (by rw [nI_clamp (by omega)]) ?_
  refine lz_dia hx hb dL_law_319 dL_law_322 dL_law_323 dL_law_326 ?_
  refine lv_aload_n hx hb dL_law_327 rfl (lv_at hl 3 rfl) ?_
  refine lv_iload_n hx hb dL_law_328 rfl (lv_at hl 0 rfl) ?_
  refine lv_iconst (v := (nI (3))) hx hb dL_law_329 (by decide) ?_
  refine ln_iadd hx hb dL_law_330 ?_
  refine va_sld hx hb hX hbl hbA hS (vp_in_nI (show i + 3 < L by omega) (by omega)) dL_law_331 ?_
  refine ln_eqi (y := xs (i + 3)) (by rw [nI_clamp (by omega)]) ?_
  refine lv_aload_n hx hb dL_law_332 rfl (lv_at hl 3 rfl) ?_
  refine lv_iload_n hx hb dL_law_333 rfl (lv_at hl 0 rfl) ?_
  refine lv_iconst (v := (nI (4))) hx hb dL_law_334 (by decide) ?_
  refine ln_iadd hx hb dL_law_335 ?_
  refine va_sld hx hb hX hbl hbA hS (vp_in_nI (show i + 4 < L by omega) (by omega)) dL_law_336 ?_
  refine ln_eqi (y := xs (i + 4)) (by rw [nI_clamp (by omega)]) ?_
  refine lz_dia hx hb dL_law_337 dL_law_340 dL_law_341 dL_law_344 ?_
  refine fr_Vl (As := [.int (xs (i + 1)), .int (zI (xs (i + 2))), .int (xs (i + 3)), .int (zI (xs (i + 4)))]) (rest := []) (w := w2) (wr := w1) (ci := 12) (k0 := 0) ⟨hx, hb, hml, hown, htsL⟩ (ma_led l D hM hok he20 hm20 hsz (xs (i + 1)) (zI (xs (i + 2))) (xs (i + 3)) (zI (xs (i + 4)))) (cwV 4 htsL gL_law_X12_led rfl rfl rfl (by decide +kernel) ⟨Nat.le_of_ble_eq_true rfl, Nat.le_of_ble_eq_true rfl⟩) rfl hat2 hP hKm hD hS hA rfl hl.1 rfl (Nat.le_of_ble_eq_true rfl) dL_law_345 ⟨show 100 + i + 0 + 0 ≤ 600000 by omega, show 15000 + 8 * i + 0 + 0 ≤ 7302250 by omega⟩ (fun r2 w3 H locs hq2 hP hD hS => ?_)
  refine lv_pop2_2 hx hb dL_law_348 rfl ?_
  refine lv_goto (tgt := 1345) hx hb dL_law_349 (by decide) ?_
  exact hend a kp bt sz sheets ke km w1 w3 _ _ _ _ hq1 hq2 hP hD hS (by omega) (by omega)
set_option maxHeartbeats 4000000 in
set_option maxRecDepth 100000 in
theorem law_4 (l : Launch) {p : Program} {e : Env} {s : State} {m : MethodId} {below : List Frame} {meth : Method} {c : Code} {b L : Nat} {xs : Nat → Int32} (C0 : lw_At p s m meth c b L xs) {D : va_G} {cy : Nat → ClassId} (hK : va_K D vwCl (cT cy) s) (hN : nst s) (hka : ka (fun q : Nat => s.heap.size ≤ q) s s.heap) {i : Nat} (hi : i + 7 ≤ L) (hL : L ≤ 3584) {d0 : Nat} {ad : Nat → Nat} {a kp bt sz : Nat → Nat} {sheets : Nat → Int32} {ke km : Nat} {w w2 : va_W} (hI : IvD cy d0 a kp bt sz sheets ke km w) (hM : Mdl cy ad a kp bt sz sheets ke km w2) {H : Heap} {locs : List Loc} {ls : Array Slot} (hP : va_P D vwCl (w ++ w2) H) (hD : va_D (fun q : Nat => s.heap.size ≤ q) (w ++ w2)) (hS : va_S (fun q : Nat => s.heap.size ≤ q) s.heap H locs) (hl : lv_has ls 4 [(3, .int (nI i)), (2, .ref (ad 0)), (1, .ref d0), (0, .ref b)]) (hend : ∀ (a kp bt sz : Nat → Nat) (sheets : Nat → Int32) (ke km : Nat) (w w2 : va_W) (H : Heap) (locs : List Loc) (cs sl : Nat), IvD cy d0 a kp bt sz sheets ke km w → Mdl cy ad a kp bt sz sheets ke km w2 → va_P D vwCl (w2 ++ w) H → va_D (fun q : Nat => s.heap.size ≤ q) (w2 ++ w) → va_S (fun q : Nat => s.heap.size ≤ q) s.heap H locs → cs ≤ 107 + i → sl ≤ 15056 + 8 * i → W p l e room_1 s m #[Value.ref b] below meth c H locs cs sl (lw_Z below #[Value.ref b] s) (F0 m 1345 ls [])) : W p l e room_1 s m #[Value.ref b] below meth c H locs (100 + i) (15000 + 8 * i) (lw_Z below #[Value.ref b] s) (F0 m 352 ls []) := by
  obtain ⟨hx, hb, hr, hml, hown, hts, hX, hbl, hlocks, hgv⟩ := C0
  have htsL : ∀ w ∈ wsL_law, w.before #[Value.ref b] s = true := fun w h => hts w (wsL_law_in w h)
  have hown : s.vm.findClass RL = some m.cls := hown
  have hA : ∀ q : Nat, s.heap.size ≤ q → (fun q : Nat => s.heap.size ≤ q) q := fun _ h => h
  have hbA : ¬ (fun q : Nat => s.heap.size ≤ q) b := Nat.not_le.mpr hbl
  have hKm : va_K D vwCl (mT (cy 0) (cy 1)) s := hK.sub [0, 1] rfl
  obtain ⟨hok, he20, hm20, hsz⟩ := IvD_f hI
  obtain ⟨k0, fs0, hat⟩ := IvD_at hI
  obtain ⟨fs2, hat2⟩ := Mdl_at hM
  refine lv_aload_n hx hb dL_law_352 rfl (lv_at hl 2 rfl) ?_
  refine lv_aload_n hx hb dL_law_353 rfl (lv_at hl 3 rfl) ?_
  refine lv_iload_n hx hb dL_law_354 rfl (lv_at hl 0 rfl) ?_
  refine lv_iconst (v := (nI (1))) hx hb dL_law_355 (by decide) ?_
  refine ln_iadd hx hb dL_law_356 ?_
  refine va_sld hx hb hX hbl hbA hS (vp_in_nI (show i + 1 < L by omega) (by omega)) dL_law_357 ?_
  refine ln_eqi (y := xs (i + 1)) (by rw [nI_clamp (by omega)]) ?_
  refine lv_aload_n hx hb dL_law_358 rfl (lv_at hl 3 rfl) ?_
  refine lv_iload_n hx hb dL_law_359 rfl (lv_at hl 0 rfl) ?_
  refine lv_iconst (v := (nI (2))) hx hb dL_law_360 (by decide) ?_
  refine ln_iadd hx hb dL_law_361 ?_
  refine va_sld hx hb hX hbl hbA hS (vp_in_nI (show i + 2 < L by omega) (by omega)) dL_law_362 ?_
  refine ln_eqi (y := xs (i + 2)) (by rw [nI_clamp (by omega)]) ?_
  refine lz_dia hx hb dL_law_363 dL_law_366 dL_law_367 dL_law_370 ?_
  refine lv_aload_n hx hb dL_law_371 rfl (lv_at hl 3 rfl) ?_
  refine lv_iload_n hx hb dL_law_372 rfl (lv_at hl 0 rfl) ?_
  refine lv_iconst (v := (nI (3))) hx hb dL_law_373 (by decide) ?_
  refine ln_iadd hx hb dL_law_374 ?_
  refine va_sld hx hb hX hbl hbA hS (vp_in_nI (show i + 3 < L by omega) (by omega)) dL_law_375 ?_
  refine ln_eqi (y := xs (i + 3)) (by rw [nI_clamp (by omega)]) ?_
  refine lz_dia hx hb dL_law_376 dL_law_379 dL_law_380 dL_law_383 ?_
  refine kq_Vl (As := [.int (xs (i + 1)), .int (zI (xs (i + 2))), .int (zI (xs (i + 3)))]) (rest := []) (w := w) (wr := w2) (ci := 11) (k0 := k0) ⟨hx, hb, hml, hown, htsL⟩ (ia_miss l D hI (xs (i + 1)) (zI (xs (i + 2))) (zI (xs (i + 3)))) (cwV 3 htsL gL_law_X11_miss rfl rfl rfl (by decide +kernel) ⟨Nat.le_of_ble_eq_true rfl, Nat.le_of_ble_eq_true rfl⟩) rfl hat hP hK hD hN hka hS hA rfl hl.1 rfl (Nat.le_of_ble_eq_true rfl) dL_law_384 ⟨show 100 + i + 0 ≤ 600000 by omega, show 15000 + 8 * i + 0 ≤ 7302250 by omega⟩ (fun r1 w1 H locs hq1 hP hD hS => ?_)
  have hP := hP.perm (List.perm_append_comm (l₁ := w1) (l₂ := w2))
  have hD := hD.perm (List.perm_append_comm (l₁ := w1) (l₂ := w2))
  refine lv_pop2_2 hx hb dL_law_387 rfl ?_
  refine lv_aload_n hx hb dL_law_388 rfl (lv_at hl 1 rfl) ?_
  refine lv_aload_n hx hb dL_law_389 rfl (lv_at hl 3 rfl) ?_
  refine lv_iload_n hx hb dL_law_390 rfl (lv_at hl 0 rfl) ?_
  refine lv_iconst (v := (nI (1))) hx hb dL_law_391 (by decide) ?_
  refine ln_iadd hx hb dL_law_392 ?_
  refine va_sld hx hb hX hbl hbA hS (vp_in_nI (show i + 1 < L by omega) (by omega)) dL_law_393 ?_
  refine ln_eqi (y := xs (i + 1)) (by rw [nI_clamp (by omega)]) ?_
  refine lv_aload_n hx hb dL_law_394 rfl (lv_at hl 3 rfl) ?_
  refine lv_iload_n hx hb dL_law_395 rfl (lv_at hl 0 rfl) ?_
  refine lv_iconst (v := (nI (2))) hx hb dL_law_396 (by decide) ?_
  refine ln_iadd hx hb dL_law_397 ?_
  refine va_sld hx hb hX hbl hbA hS (vp_in_nI (show i + 2 < L by omega) (by omega)) dL_law_398 ?_
  refine ln_eqi (y := xs (i + 2)) (by rw [nI_clamp (by omega)]) ?_
  refine lz_dia hx hb dL_law_399 dL_law_402 dL_law_403 dL_law_406 ?_
  refine lv_aload_n hx hb dL_law_407 rfl (lv_at hl 3 rfl) ?_
  refine lv_iload_n hx hb dL_law_408 rfl (lv_at hl 0 rfl) ?_
  refine lv_iconst (v := (nI (3))) hx hb dL_law_409 (by decide) ?_
  refine ln_iadd hx hb dL_law_410 ?_
  refine va_sld hx hb hX hbl hbA hS (vp_in_nI (show i + 3 < L by omega) (by omega)) dL_law_411 ?_
  refine ln_eqi (y := xs (i + 3)) (by rw [nI_clamp (by omega)]) ?_
  refine lz_dia hx hb dL_law_412 dL_law_415 dL_law_416 dL_law_419 ?_
  refine fr_Vl (As := [.int (xs (i + 1)), .int (zI (xs (i + 2))), .int (zI (xs (i + 3)))]) (rest := []) (w := w2) (wr := w1) (ci := 12) (k0 := 0) ⟨hx, hb, hml, hown, htsL⟩ (ma_miss l D hM hok he20 hm20 hsz (xs (i + 1)) (zI (xs (i + 2))) (zI (xs (i + 3)))) (cwV 3 htsL gL_law_X12_miss rfl rfl rfl (by decide +kernel) ⟨Nat.le_of_ble_eq_true rfl, Nat.le_of_ble_eq_true rfl⟩) rfl hat2 hP hKm hD hS hA rfl hl.1 rfl (Nat.le_of_ble_eq_true rfl) dL_law_420 ⟨show 100 + i + 0 + 0 ≤ 600000 by omega, show 15000 + 8 * i + 0 + 0 ≤ 7302250 by omega⟩ (fun r2 w3 H locs hq2 hP hD hS => ?_)
  refine lv_pop2_2 hx hb dL_law_423 rfl ?_
  refine lv_goto (tgt := 1345) hx hb dL_law_424 (by decide) ?_
  exact hend a kp bt sz sheets ke km w1 w3 _ _ _ _ hq1 hq2 hP hD hS (by omega) (by omega)
set_option maxHeartbeats 4000000 in
set_option maxRecDepth 100000 in
theorem law_5 (l : Launch) {p : Program} {e : Env} {s : State} {m : MethodId} {below : List Frame} {meth : Method} {c : Code} {b L : Nat} {xs : Nat → Int32} (C0 : lw_At p s m meth c b L xs) {D : va_G} {cy : Nat → ClassId} (hK : va_K D vwCl (cT cy) s) (hN : nst s) (hka : ka (fun q : Nat => s.heap.size ≤ q) s s.heap) {i : Nat} (hi : i + 7 ≤ L) (hL : L ≤ 3584) {d0 : Nat} {ad : Nat → Nat} {a kp bt sz : Nat → Nat} {sheets : Nat → Int32} {ke km : Nat} {w w2 : va_W} (hI : IvD cy d0 a kp bt sz sheets ke km w) (hM : Mdl cy ad a kp bt sz sheets ke km w2) {H : Heap} {locs : List Loc} {ls : Array Slot} (hP : va_P D vwCl (w ++ w2) H) (hD : va_D (fun q : Nat => s.heap.size ≤ q) (w ++ w2)) (hS : va_S (fun q : Nat => s.heap.size ≤ q) s.heap H locs) (hl : lv_has ls 4 [(3, .int (nI i)), (2, .ref (ad 0)), (1, .ref d0), (0, .ref b)]) (hend : ∀ (a kp bt sz : Nat → Nat) (sheets : Nat → Int32) (ke km : Nat) (w w2 : va_W) (H : Heap) (locs : List Loc) (cs sl : Nat), IvD cy d0 a kp bt sz sheets ke km w → Mdl cy ad a kp bt sz sheets ke km w2 → va_P D vwCl (w2 ++ w) H → va_D (fun q : Nat => s.heap.size ≤ q) (w2 ++ w) → va_S (fun q : Nat => s.heap.size ≤ q) s.heap H locs → cs ≤ 107 + i → sl ≤ 15056 + 8 * i → W p l e room_1 s m #[Value.ref b] below meth c H locs cs sl (lw_Z below #[Value.ref b] s) (F0 m 1345 ls [])) : W p l e room_1 s m #[Value.ref b] below meth c H locs (100 + i) (15000 + 8 * i) (lw_Z below #[Value.ref b] s) (F0 m 427 ls []) := by
  obtain ⟨hx, hb, hr, hml, hown, hts, hX, hbl, hlocks, hgv⟩ := C0
  have htsL : ∀ w ∈ wsL_law, w.before #[Value.ref b] s = true := fun w h => hts w (wsL_law_in w h)
  have hown : s.vm.findClass RL = some m.cls := hown
  have hA : ∀ q : Nat, s.heap.size ≤ q → (fun q : Nat => s.heap.size ≤ q) q := fun _ h => h
  have hbA : ¬ (fun q : Nat => s.heap.size ≤ q) b := Nat.not_le.mpr hbl
  have hKm : va_K D vwCl (mT (cy 0) (cy 1)) s := hK.sub [0, 1] rfl
  obtain ⟨hok, he20, hm20, hsz⟩ := IvD_f hI
  obtain ⟨k0, fs0, hat⟩ := IvD_at hI
  obtain ⟨fs2, hat2⟩ := Mdl_at hM
  refine lv_aload_n hx hb dL_law_427 rfl (lv_at hl 2 rfl) ?_
  refine lv_aload_n hx hb dL_law_428 rfl (lv_at hl 3 rfl) ?_
  refine lv_iload_n hx hb dL_law_429 rfl (lv_at hl 0 rfl) ?_
  refine lv_iconst (v := (nI (1))) hx hb dL_law_430 (by decide) ?_
  refine ln_iadd hx hb dL_law_431 ?_
  refine va_sld hx hb hX hbl hbA hS (vp_in_nI (show i + 1 < L by omega) (by omega)) dL_law_432 ?_
  refine ln_eqi (y := xs (i + 1)) (by rw [nI_clamp (by omega)]) ?_
  refine kq_Vl (As := [.int (xs (i + 1))]) (rest := []) (w := w) (wr := w2) (ci := 11) (k0 := k0) ⟨hx, hb, hml, hown, htsL⟩ (ia_doubt l D hI (xs (i + 1))) (cwV 1 htsL gL_law_X11_doubt rfl rfl rfl (by decide +kernel) ⟨Nat.le_of_ble_eq_true rfl, Nat.le_of_ble_eq_true rfl⟩) rfl hat hP hK hD hN hka hS hA rfl hl.1 rfl (Nat.le_of_ble_eq_true rfl) dL_law_433 ⟨show 100 + i + 0 ≤ 600000 by omega, show 15000 + 8 * i + 0 ≤ 7302250 by omega⟩ (fun r1 w1 H locs hq1 hP hD hS => ?_)
  have hP := hP.perm (List.perm_append_comm (l₁ := w1) (l₂ := w2))
  have hD := hD.perm (List.perm_append_comm (l₁ := w1) (l₂ := w2))
  refine lv_pop2_2 hx hb dL_law_436 rfl ?_
  refine lv_aload_n hx hb dL_law_437 rfl (lv_at hl 1 rfl) ?_
  refine lv_aload_n hx hb dL_law_438 rfl (lv_at hl 3 rfl) ?_
  refine lv_iload_n hx hb dL_law_439 rfl (lv_at hl 0 rfl) ?_
  refine lv_iconst (v := (nI (1))) hx hb dL_law_440 (by decide) ?_
  refine ln_iadd hx hb dL_law_441 ?_
  refine va_sld hx hb hX hbl hbA hS (vp_in_nI (show i + 1 < L by omega) (by omega)) dL_law_442 ?_
  refine ln_eqi (y := xs (i + 1)) (by rw [nI_clamp (by omega)]) ?_
  refine fr_Vl (As := [.int (xs (i + 1))]) (rest := []) (w := w2) (wr := w1) (ci := 12) (k0 := 0) ⟨hx, hb, hml, hown, htsL⟩ (ma_doubt l D hM hok he20 hm20 hsz (xs (i + 1))) (cwV 1 htsL gL_law_X12_doubt rfl rfl rfl (by decide +kernel) ⟨Nat.le_of_ble_eq_true rfl, Nat.le_of_ble_eq_true rfl⟩) rfl hat2 hP hKm hD hS hA rfl hl.1 rfl (Nat.le_of_ble_eq_true rfl) dL_law_443 ⟨show 100 + i + 0 + 0 ≤ 600000 by omega, show 15000 + 8 * i + 0 + 0 ≤ 7302250 by omega⟩ (fun r2 w3 H locs hq2 hP hD hS => ?_)
  refine lv_pop2_2 hx hb dL_law_446 rfl ?_
  refine lv_goto (tgt := 1345) hx hb dL_law_447 (by decide) ?_
  exact hend a kp bt sz sheets ke km w1 w3 _ _ _ _ hq1 hq2 hP hD hS (by omega) (by omega)
set_option maxHeartbeats 4000000 in
set_option maxRecDepth 100000 in
theorem law_6 (l : Launch) {p : Program} {e : Env} {s : State} {m : MethodId} {below : List Frame} {meth : Method} {c : Code} {b L : Nat} {xs : Nat → Int32} (C0 : lw_At p s m meth c b L xs) {D : va_G} {cy : Nat → ClassId} (hK : va_K D vwCl (cT cy) s) (hN : nst s) (hka : ka (fun q : Nat => s.heap.size ≤ q) s s.heap) {i : Nat} (hi : i + 7 ≤ L) (hL : L ≤ 3584) {d0 : Nat} {ad : Nat → Nat} {a kp bt sz : Nat → Nat} {sheets : Nat → Int32} {ke km : Nat} {w w2 : va_W} (hI : IvD cy d0 a kp bt sz sheets ke km w) (hM : Mdl cy ad a kp bt sz sheets ke km w2) {H : Heap} {locs : List Loc} {ls : Array Slot} (hP : va_P D vwCl (w ++ w2) H) (hD : va_D (fun q : Nat => s.heap.size ≤ q) (w ++ w2)) (hS : va_S (fun q : Nat => s.heap.size ≤ q) s.heap H locs) (hl : lv_has ls 4 [(3, .int (nI i)), (2, .ref (ad 0)), (1, .ref d0), (0, .ref b)]) (hend : ∀ (a kp bt sz : Nat → Nat) (sheets : Nat → Int32) (ke km : Nat) (w w2 : va_W) (H : Heap) (locs : List Loc) (cs sl : Nat), IvD cy d0 a kp bt sz sheets ke km w → Mdl cy ad a kp bt sz sheets ke km w2 → va_P D vwCl (w2 ++ w) H → va_D (fun q : Nat => s.heap.size ≤ q) (w2 ++ w) → va_S (fun q : Nat => s.heap.size ≤ q) s.heap H locs → cs ≤ 107 + i → sl ≤ 15056 + 8 * i → W p l e room_1 s m #[Value.ref b] below meth c H locs cs sl (lw_Z below #[Value.ref b] s) (F0 m 1345 ls [])) : W p l e room_1 s m #[Value.ref b] below meth c H locs (100 + i) (15000 + 8 * i) (lw_Z below #[Value.ref b] s) (F0 m 450 ls []) := by
  obtain ⟨hx, hb, hr, hml, hown, hts, hX, hbl, hlocks, hgv⟩ := C0
  have htsL : ∀ w ∈ wsL_law, w.before #[Value.ref b] s = true := fun w h => hts w (wsL_law_in w h)
  have hown : s.vm.findClass RL = some m.cls := hown
  have hA : ∀ q : Nat, s.heap.size ≤ q → (fun q : Nat => s.heap.size ≤ q) q := fun _ h => h
  have hbA : ¬ (fun q : Nat => s.heap.size ≤ q) b := Nat.not_le.mpr hbl
  have hKm : va_K D vwCl (mT (cy 0) (cy 1)) s := hK.sub [0, 1] rfl
  obtain ⟨hok, he20, hm20, hsz⟩ := IvD_f hI
  obtain ⟨k0, fs0, hat⟩ := IvD_at hI
  obtain ⟨fs2, hat2⟩ := Mdl_at hM
  refine lv_aload_n hx hb dL_law_450 rfl (lv_at hl 2 rfl) ?_
  refine lv_aload_n hx hb dL_law_451 rfl (lv_at hl 3 rfl) ?_
  refine lv_iload_n hx hb dL_law_452 rfl (lv_at hl 0 rfl) ?_
  refine lv_iconst (v := (nI (1))) hx hb dL_law_453 (by decide) ?_
  refine ln_iadd hx hb dL_law_454 ?_
  refine va_sld hx hb hX hbl hbA hS (vp_in_nI (show i + 1 < L by omega) (by omega)) dL_law_455 ?_
  refine ln_eqi (y := xs (i + 1)) (by rw [nI_clamp (by omega)]) ?_
  refine lv_aload_n hx hb dL_law_456 rfl (lv_at hl 3 rfl) ?_
  refine lv_iload_n hx hb dL_law_457 rfl (lv_at hl 0 rfl) ?_
  refine lv_iconst (v := (nI (2))) hx hb dL_law_458 (by decide) ?_
  refine ln_iadd hx hb dL_law_459 ?_
  refine va_sld hx hb hX hbl hbA hS (vp_in_nI (show i + 2 < L by omega) (by omega)) dL_law_460 ?_
  refine ln_eqi (y := xs (i + 2)) (by rw [nI_clamp (by omega)]) ?_
  refine lv_aload_n hx hb dL_law_461 rfl (lv_at hl 3 rfl) ?_
  refine lv_iload_n hx hb dL_law_462 rfl (lv_at hl 0 rfl) ?_
  refine lv_iconst (v := (nI (3))) hx hb dL_law_463 (by decide) ?_
  refine ln_iadd hx hb dL_law_464 ?_
  refine va_sld hx hb hX hbl hbA hS (vp_in_nI (show i + 3 < L by omega) (by omega)) dL_law_465 ?_
  refine ln_eqi (y := xs (i + 3)) (by rw [nI_clamp (by omega)]) ?_
  refine lv_aload_n hx hb dL_law_466 rfl (lv_at hl 3 rfl) ?_
  refine lv_iload_n hx hb dL_law_467 rfl (lv_at hl 0 rfl) ?_
  refine lv_iconst (v := (nI (4))) hx hb dL_law_468 (by decide) ?_
  refine ln_iadd hx hb dL_law_469 ?_
  refine va_sld hx hb hX hbl hbA hS (vp_in_nI (show i + 4 < L by omega) (by omega)) dL_law_470 ?_
  refine ln_eqi (y := xs (i + 4)) (by rw [nI_clamp (by omega)]) ?_
  refine lv_aload_n hx hb dL_law_471 rfl (lv_at hl 3 rfl) ?_
  refine lv_iload_n hx hb dL_law_472 rfl (lv_at hl 0 rfl) ?_
  refine lv_iconst (v := (nI (5))) hx hb dL_law_473 (by decide) ?_
  refine ln_iadd hx hb dL_law_474 ?_
  refine va_sld hx hb hX hbl hbA hS (vp_in_nI (show i + 5 < L by omega) (by omega)) dL_law_475 ?_
  refine ln_eqi (y := xs (i + 5)) (by rw [nI_clamp (by omega)]) ?_
  refine lv_aload_n hx hb dL_law_476 rfl (lv_at hl 3 rfl) ?_
  refine lv_iload_n hx hb dL_law_477 rfl (lv_at hl 0 rfl) ?_
  refine lv_bipush (v := (nI (6))) hx hb dL_law_478 (by decide) ?_
  refine ln_iadd hx hb dL_law_480 ?_
  refine va_sld hx hb hX hbl hbA hS (vp_in_nI (show i + 6 < L by omega) (by omega)) dL_law_481 ?_
  refine ln_eqi (y := xs (i + 6)) (by rw [nI_clamp (by omega)]) ?_
  refine kq_Vl (As := [.int (xs (i + 1)), .int (xs (i + 2)), .int (xs (i + 3)), .int (xs (i + 4)), .int (xs (i + 5)), .int (xs (i + 6))]) (rest := []) (w := w) (wr := w2) (ci := 11) (k0 := k0) ⟨hx, hb, hml, hown, htsL⟩ (ik_mark l D hI (xs (i + 1)) (xs (i + 2)) (xs (i + 3)) (xs (i + 4)) (xs (i + 5)) (xs (i + 6))) (cwV 6 htsL gL_law_X11_mark rfl rfl rfl (by decide +kernel) ⟨Nat.le_of_ble_eq_true rfl, Nat.le_of_ble_eq_true rfl⟩) rfl hat hP hK hD hN hka hS hA rfl hl.1 rfl (Nat.le_of_ble_eq_true rfl) dL_law_482 ⟨show 100 + i + 1 ≤ 600000 by omega, show 15000 + 8 * i + 6 ≤ 7302250 by omega⟩ (fun r1 w1 H locs hq1 hP hD hS => ?_)
  have hP := hP.perm (List.perm_append_comm (l₁ := w1) (l₂ := w2))
  have hD := hD.perm (List.perm_append_comm (l₁ := w1) (l₂ := w2))
  refine lv_pop2_2 hx hb dL_law_485 rfl ?_
  refine lv_aload_n hx hb dL_law_486 rfl (lv_at hl 1 rfl) ?_
  refine lv_aload_n hx hb dL_law_487 rfl (lv_at hl 3 rfl) ?_
  refine lv_iload_n hx hb dL_law_488 rfl (lv_at hl 0 rfl) ?_
  refine lv_iconst (v := (nI (1))) hx hb dL_law_489 (by decide) ?_
  refine ln_iadd hx hb dL_law_490 ?_
  refine va_sld hx hb hX hbl hbA hS (vp_in_nI (show i + 1 < L by omega) (by omega)) dL_law_491 ?_
  refine ln_eqi (y := xs (i + 1)) (by rw [nI_clamp (by omega)]) ?_
  refine lv_aload_n hx hb dL_law_492 rfl (lv_at hl 3 rfl) ?_
  refine lv_iload_n hx hb dL_law_493 rfl (lv_at hl 0 rfl) ?_
  refine lv_iconst (v := (nI (2))) hx hb dL_law_494 (by decide) ?_
  refine ln_iadd hx hb dL_law_495 ?_
  refine va_sld hx hb hX hbl hbA hS (vp_in_nI (show i + 2 < L by omega) (by omega)) dL_law_496 ?_
  refine ln_eqi (y := xs (i + 2)) (by rw [nI_clamp (by omega)]) ?_
  refine lv_aload_n hx hb dL_law_497 rfl (lv_at hl 3 rfl) ?_
  refine lv_iload_n hx hb dL_law_498 rfl (lv_at hl 0 rfl) ?_
  refine lv_iconst (v := (nI (3))) hx hb dL_law_499 (by decide) ?_
  refine ln_iadd hx hb dL_law_500 ?_
  refine va_sld hx hb hX hbl hbA hS (vp_in_nI (show i + 3 < L by omega) (by omega)) dL_law_501 ?_
  refine ln_eqi (y := xs (i + 3)) (by rw [nI_clamp (by omega)]) ?_
  refine lv_aload_n hx hb dL_law_502 rfl (lv_at hl 3 rfl) ?_
  refine lv_iload_n hx hb dL_law_503 rfl (lv_at hl 0 rfl) ?_
  refine lv_iconst (v := (nI (4))) hx hb dL_law_504 (by decide) ?_
  refine ln_iadd hx hb dL_law_505 ?_
  refine va_sld hx hb hX hbl hbA hS (vp_in_nI (show i + 4 < L by omega) (by omega)) dL_law_506 ?_
  refine ln_eqi (y := xs (i + 4)) (by rw [nI_clamp (by omega)]) ?_
  refine lv_aload_n hx hb dL_law_507 rfl (lv_at hl 3 rfl) ?_
  refine lv_iload_n hx hb dL_law_508 rfl (lv_at hl 0 rfl) ?_
  refine lv_iconst (v := (nI (5))) hx hb dL_law_509 (by decide) ?_
  refine ln_iadd hx hb dL_law_510 ?_
  refine va_sld hx hb hX hbl hbA hS (vp_in_nI (show i + 5 < L by omega) (by omega)) dL_law_511 ?_
  refine ln_eqi (y := xs (i + 5)) (by rw [nI_clamp (by omega)]) ?_
  refine lv_aload_n hx hb dL_law_512 rfl (lv_at hl 3 rfl) ?_
  refine lv_iload_n hx hb dL_law_513 rfl (lv_at hl 0 rfl) ?_
  refine lv_bipush (v := (nI (6))) hx hb dL_law_514 (by decide) ?_
  refine ln_iadd hx hb dL_law_516 ?_
  refine va_sld hx hb hX hbl hbA hS (vp_in_nI (show i + 6 < L by omega) (by omega)) dL_law_517 ?_
  refine ln_eqi (y := xs (i + 6)) (by rw [nI_clamp (by omega)]) ?_
  refine fr_Vl (As := [.int (xs (i + 1)), .int (xs (i + 2)), .int (xs (i + 3)), .int (xs (i + 4)), .int (xs (i + 5)), .int (xs (i + 6))]) (rest := []) (w := w2) (wr := w1) (ci := 12) (k0 := 0) ⟨hx, hb, hml, hown, htsL⟩ (mk_mark l D hM hok he20 hm20 hsz (xs (i + 1)) (xs (i + 2)) (xs (i + 3)) (xs (i + 4)) (xs (i + 5)) (xs (i + 6))) (cwV 6 htsL gL_law_X12_mark rfl rfl rfl (by decide +kernel) ⟨Nat.le_of_ble_eq_true rfl, Nat.le_of_ble_eq_true rfl⟩) rfl hat2 hP hKm hD hS hA rfl hl.1 rfl (Nat.le_of_ble_eq_true rfl) dL_law_518 ⟨show 100 + i + 1 + 0 ≤ 600000 by omega, show 15000 + 8 * i + 6 + 0 ≤ 7302250 by omega⟩ (fun r2 w3 H locs hq2 hP hD hS => ?_)
  obtain ⟨hr12, a9, kp9, bt9, sz9, sh9, ke9, km9, k1, k2⟩ := jn_mark hok (fun i hi => (hsz i hi).1) hq1 hq2
  refine lv_pop2_2 hx hb dL_law_521 rfl ?_
  refine lv_goto (tgt := 1345) hx hb dL_law_522 (by decide) ?_
  exact hend a9 kp9 bt9 sz9 sh9 ke9 km9 w1 w3 _ _ _ _ k1 k2 hP hD hS (by omega) (by omega)
set_option maxHeartbeats 4000000 in
set_option maxRecDepth 100000 in
theorem law_7 (l : Launch) {p : Program} {e : Env} {s : State} {m : MethodId} {below : List Frame} {meth : Method} {c : Code} {b L : Nat} {xs : Nat → Int32} (C0 : lw_At p s m meth c b L xs) {D : va_G} {cy : Nat → ClassId} (hK : va_K D vwCl (cT cy) s) (hN : nst s) (hka : ka (fun q : Nat => s.heap.size ≤ q) s s.heap) {i : Nat} (hi : i + 7 ≤ L) (hL : L ≤ 3584) {d0 : Nat} {ad : Nat → Nat} {a kp bt sz : Nat → Nat} {sheets : Nat → Int32} {ke km : Nat} {w w2 : va_W} (hI : IvD cy d0 a kp bt sz sheets ke km w) (hM : Mdl cy ad a kp bt sz sheets ke km w2) {H : Heap} {locs : List Loc} {ls : Array Slot} (hP : va_P D vwCl (w ++ w2) H) (hD : va_D (fun q : Nat => s.heap.size ≤ q) (w ++ w2)) (hS : va_S (fun q : Nat => s.heap.size ≤ q) s.heap H locs) (hl : lv_has ls 4 [(3, .int (nI i)), (2, .ref (ad 0)), (1, .ref d0), (0, .ref b)]) (hend : ∀ (a kp bt sz : Nat → Nat) (sheets : Nat → Int32) (ke km : Nat) (w w2 : va_W) (H : Heap) (locs : List Loc) (cs sl : Nat), IvD cy d0 a kp bt sz sheets ke km w → Mdl cy ad a kp bt sz sheets ke km w2 → va_P D vwCl (w2 ++ w) H → va_D (fun q : Nat => s.heap.size ≤ q) (w2 ++ w) → va_S (fun q : Nat => s.heap.size ≤ q) s.heap H locs → cs ≤ 107 + i → sl ≤ 15056 + 8 * i → W p l e room_1 s m #[Value.ref b] below meth c H locs cs sl (lw_Z below #[Value.ref b] s) (F0 m 1345 ls [])) : W p l e room_1 s m #[Value.ref b] below meth c H locs (100 + i) (15000 + 8 * i) (lw_Z below #[Value.ref b] s) (F0 m 525 ls []) := by
  obtain ⟨hx, hb, hr, hml, hown, hts, hX, hbl, hlocks, hgv⟩ := C0
  have htsL : ∀ w ∈ wsL_law, w.before #[Value.ref b] s = true := fun w h => hts w (wsL_law_in w h)
  have hown : s.vm.findClass RL = some m.cls := hown
  have hA : ∀ q : Nat, s.heap.size ≤ q → (fun q : Nat => s.heap.size ≤ q) q := fun _ h => h
  have hbA : ¬ (fun q : Nat => s.heap.size ≤ q) b := Nat.not_le.mpr hbl
  have hKm : va_K D vwCl (mT (cy 0) (cy 1)) s := hK.sub [0, 1] rfl
  obtain ⟨hok, he20, hm20, hsz⟩ := IvD_f hI
  obtain ⟨k0, fs0, hat⟩ := IvD_at hI
  obtain ⟨fs2, hat2⟩ := Mdl_at hM
  refine lv_aload_n hx hb dL_law_525 rfl (lv_at hl 2 rfl) ?_
  refine lv_aload_n hx hb dL_law_526 rfl (lv_at hl 3 rfl) ?_
  refine lv_iload_n hx hb dL_law_527 rfl (lv_at hl 0 rfl) ?_
  refine lv_iconst (v := (nI (1))) hx hb dL_law_528 (by decide) ?_
  refine ln_iadd hx hb dL_law_529 ?_
  refine va_sld hx hb hX hbl hbA hS (vp_in_nI (show i + 1 < L by omega) (by omega)) dL_law_530 ?_
  refine ln_eqi (y := xs (i + 1)) (by rw [nI_clamp (by omega)]) ?_
  refine lv_aload_n hx hb dL_law_531 rfl (lv_at hl 3 rfl) ?_
  refine lv_iload_n hx hb dL_law_532 rfl (lv_at hl 0 rfl) ?_
  refine lv_iconst (v := (nI (2))) hx hb dL_law_533 (by decide) ?_
  refine ln_iadd hx hb dL_law_534 ?_
  refine va_sld hx hb hX hbl hbA hS (vp_in_nI (show i + 2 < L by omega) (by omega)) dL_law_535 ?_
  refine ln_eqi (y := xs (i + 2)) (by rw [nI_clamp (by omega)]) ?_
  refine kq_Vl (As := [.int (xs (i + 1)), .int (xs (i + 2))]) (rest := []) (w := w) (wr := w2) (ci := 11) (k0 := k0) ⟨hx, hb, hml, hown, htsL⟩ (ia_as l D hI (xs (i + 1)) (xs (i + 2))) (cwV 2 htsL gL_law_X11_as rfl rfl rfl (by decide +kernel) ⟨Nat.le_of_ble_eq_true rfl, Nat.le_of_ble_eq_true rfl⟩) rfl hat hP hK hD hN hka hS hA rfl hl.1 rfl (Nat.le_of_ble_eq_true rfl) dL_law_536 ⟨show 100 + i + 0 ≤ 600000 by omega, show 15000 + 8 * i + 0 ≤ 7302250 by omega⟩ (fun r1 w1 H locs hq1 hP hD hS => ?_)
  have hP := hP.perm (List.perm_append_comm (l₁ := w1) (l₂ := w2))
  have hD := hD.perm (List.perm_append_comm (l₁ := w1) (l₂ := w2))
  refine lv_pop2_2 hx hb dL_law_539 rfl ?_
  refine lv_aload_n hx hb dL_law_540 rfl (lv_at hl 1 rfl) ?_
  refine lv_aload_n hx hb dL_law_541 rfl (lv_at hl 3 rfl) ?_
  refine lv_iload_n hx hb dL_law_542 rfl (lv_at hl 0 rfl) ?_
  refine lv_iconst (v := (nI (1))) hx hb dL_law_543 (by decide) ?_
  refine ln_iadd hx hb dL_law_544 ?_
  refine va_sld hx hb hX hbl hbA hS (vp_in_nI (show i + 1 < L by omega) (by omega)) dL_law_545 ?_
  refine ln_eqi (y := xs (i + 1)) (by rw [nI_clamp (by omega)]) ?_
  refine lv_aload_n hx hb dL_law_546 rfl (lv_at hl 3 rfl) ?_
  refine lv_iload_n hx hb dL_law_547 rfl (lv_at hl 0 rfl) ?_
  refine lv_iconst (v := (nI (2))) hx hb dL_law_548 (by decide) ?_
  refine ln_iadd hx hb dL_law_549 ?_
  refine va_sld hx hb hX hbl hbA hS (vp_in_nI (show i + 2 < L by omega) (by omega)) dL_law_550 ?_
  refine ln_eqi (y := xs (i + 2)) (by rw [nI_clamp (by omega)]) ?_
  refine fr_Vl (As := [.int (xs (i + 1)), .int (xs (i + 2))]) (rest := []) (w := w2) (wr := w1) (ci := 12) (k0 := 0) ⟨hx, hb, hml, hown, htsL⟩ (ma_as l D hM hok he20 hm20 hsz (xs (i + 1)) (xs (i + 2))) (cwV 2 htsL gL_law_X12_as rfl rfl rfl (by decide +kernel) ⟨Nat.le_of_ble_eq_true rfl, Nat.le_of_ble_eq_true rfl⟩) rfl hat2 hP hKm hD hS hA rfl hl.1 rfl (Nat.le_of_ble_eq_true rfl) dL_law_551 ⟨show 100 + i + 0 + 0 ≤ 600000 by omega, show 15000 + 8 * i + 0 + 0 ≤ 7302250 by omega⟩ (fun r2 w3 H locs hq2 hP hD hS => ?_)
  refine lv_pop2_2 hx hb dL_law_554 rfl ?_
  refine lv_goto (tgt := 1345) hx hb dL_law_555 (by decide) ?_
  exact hend a kp bt sz sheets ke km w1 w3 _ _ _ _ hq1 hq2 hP hD hS (by omega) (by omega)
set_option maxHeartbeats 4000000 in
set_option maxRecDepth 100000 in
theorem law_8 (l : Launch) {p : Program} {e : Env} {s : State} {m : MethodId} {below : List Frame} {meth : Method} {c : Code} {b L : Nat} {xs : Nat → Int32} (C0 : lw_At p s m meth c b L xs) {D : va_G} {cy : Nat → ClassId} (hK : va_K D vwCl (cT cy) s) (hN : nst s) (hka : ka (fun q : Nat => s.heap.size ≤ q) s s.heap) {i : Nat} (hi : i + 7 ≤ L) (hL : L ≤ 3584) {d0 : Nat} {ad : Nat → Nat} {a kp bt sz : Nat → Nat} {sheets : Nat → Int32} {ke km : Nat} {w w2 : va_W} (hI : IvD cy d0 a kp bt sz sheets ke km w) (hM : Mdl cy ad a kp bt sz sheets ke km w2) {H : Heap} {locs : List Loc} {ls : Array Slot} (hP : va_P D vwCl (w ++ w2) H) (hD : va_D (fun q : Nat => s.heap.size ≤ q) (w ++ w2)) (hS : va_S (fun q : Nat => s.heap.size ≤ q) s.heap H locs) (hl : lv_has ls 4 [(3, .int (nI i)), (2, .ref (ad 0)), (1, .ref d0), (0, .ref b)]) (hend : ∀ (a kp bt sz : Nat → Nat) (sheets : Nat → Int32) (ke km : Nat) (w w2 : va_W) (H : Heap) (locs : List Loc) (cs sl : Nat), IvD cy d0 a kp bt sz sheets ke km w → Mdl cy ad a kp bt sz sheets ke km w2 → va_P D vwCl (w2 ++ w) H → va_D (fun q : Nat => s.heap.size ≤ q) (w2 ++ w) → va_S (fun q : Nat => s.heap.size ≤ q) s.heap H locs → cs ≤ 107 + i → sl ≤ 15056 + 8 * i → W p l e room_1 s m #[Value.ref b] below meth c H locs cs sl (lw_Z below #[Value.ref b] s) (F0 m 1345 ls [])) : W p l e room_1 s m #[Value.ref b] below meth c H locs (100 + i) (15000 + 8 * i) (lw_Z below #[Value.ref b] s) (F0 m 558 ls []) := by
  obtain ⟨hx, hb, hr, hml, hown, hts, hX, hbl, hlocks, hgv⟩ := C0
  have htsL : ∀ w ∈ wsL_law, w.before #[Value.ref b] s = true := fun w h => hts w (wsL_law_in w h)
  have hown : s.vm.findClass RL = some m.cls := hown
  have hA : ∀ q : Nat, s.heap.size ≤ q → (fun q : Nat => s.heap.size ≤ q) q := fun _ h => h
  have hbA : ¬ (fun q : Nat => s.heap.size ≤ q) b := Nat.not_le.mpr hbl
  have hKm : va_K D vwCl (mT (cy 0) (cy 1)) s := hK.sub [0, 1] rfl
  obtain ⟨hok, he20, hm20, hsz⟩ := IvD_f hI
  obtain ⟨k0, fs0, hat⟩ := IvD_at hI
  obtain ⟨fs2, hat2⟩ := Mdl_at hM
  refine lv_aload_n hx hb dL_law_558 rfl (lv_at hl 2 rfl) ?_
  refine lv_aload_n hx hb dL_law_559 rfl (lv_at hl 3 rfl) ?_
  refine lv_iload_n hx hb dL_law_560 rfl (lv_at hl 0 rfl) ?_
  refine lv_iconst (v := (nI (1))) hx hb dL_law_561 (by decide) ?_
  refine ln_iadd hx hb dL_law_562 ?_
  refine va_sld hx hb hX hbl hbA hS (vp_in_nI (show i + 1 < L by omega) (by omega)) dL_law_563 ?_
  refine ln_eqi (y := xs (i + 1)) (by rw [nI_clamp (by omega)]) ?_
  refine lv_aload_n hx hb dL_law_564 rfl (lv_at hl 3 rfl) ?_
  refine lv_iload_n hx hb dL_law_565 rfl (lv_at hl 0 rfl) ?_
  refine lv_iconst (v := (nI (2))) hx hb dL_law_566 (by decide) ?_
  refine ln_iadd hx hb dL_law_567 ?_
  refine va_sld hx hb hX hbl hbA hS (vp_in_nI (show i + 2 < L by omega) (by omega)) dL_law_568 ?_
  refine ln_eqi (y := xs (i + 2)) (by rw [nI_clamp (by omega)]) ?_
  refine lz_dia hx hb dL_law_569 dL_law_572 dL_law_573 dL_law_576 ?_
  refine kq_Vl (As := [.int (xs (i + 1)), .int (zI (xs (i + 2)))]) (rest := []) (w := w) (wr := w2) (ci := 11) (k0 := k0) ⟨hx, hb, hml, hown, htsL⟩ (ia_at l D hI (xs (i + 1)) (zI (xs (i + 2)))) (cwV 2 htsL gL_law_X11_at rfl rfl rfl (by decide +kernel) ⟨Nat.le_of_ble_eq_true rfl, Nat.le_of_ble_eq_true rfl⟩) rfl hat hP hK hD hN hka hS hA rfl hl.1 rfl (Nat.le_of_ble_eq_true rfl) dL_law_577 ⟨show 100 + i + 0 ≤ 600000 by omega, show 15000 + 8 * i + 0 ≤ 7302250 by omega⟩ (fun r1 w1 H locs hq1 hP hD hS => ?_)
  have hP := hP.perm (List.perm_append_comm (l₁ := w1) (l₂ := w2))
  have hD := hD.perm (List.perm_append_comm (l₁ := w1) (l₂ := w2))
  refine lv_pop2_2 hx hb dL_law_580 rfl ?_
  refine lv_aload_n hx hb dL_law_581 rfl (lv_at hl 1 rfl) ?_
  refine lv_aload_n hx hb dL_law_582 rfl (lv_at hl 3 rfl) ?_
  refine lv_iload_n hx hb dL_law_583 rfl (lv_at hl 0 rfl) ?_
  refine lv_iconst (v := (nI (1))) hx hb dL_law_584 (by decide) ?_
  refine ln_iadd hx hb dL_law_585 ?_
  refine va_sld hx hb hX hbl hbA hS (vp_in_nI (show i + 1 < L by omega) (by omega)) dL_law_586 ?_
  refine ln_eqi (y := xs (i + 1)) (by rw [nI_clamp (by omega)]) ?_
  refine lv_aload_n hx hb dL_law_587 rfl (lv_at hl 3 rfl) ?_
  refine lv_iload_n hx hb dL_law_588 rfl (lv_at hl 0 rfl) ?_
  refine lv_iconst (v := (nI (2))) hx hb dL_law_589 (by decide) ?_
  refine ln_iadd hx hb dL_law_590 ?_
  refine va_sld hx hb hX hbl hbA hS (vp_in_nI (show i + 2 < L by omega) (by omega)) dL_law_591 ?_
  refine ln_eqi (y := xs (i + 2)) (by rw [nI_clamp (by omega)]) ?_
  refine lz_dia hx hb dL_law_592 dL_law_595 dL_law_596 dL_law_599 ?_
  refine fr_Vl (As := [.int (xs (i + 1)), .int (zI (xs (i + 2)))]) (rest := []) (w := w2) (wr := w1) (ci := 12) (k0 := 0) ⟨hx, hb, hml, hown, htsL⟩ (ma_at l D hM hok he20 hm20 hsz (xs (i + 1)) (zI (xs (i + 2)))) (cwV 2 htsL gL_law_X12_at rfl rfl rfl (by decide +kernel) ⟨Nat.le_of_ble_eq_true rfl, Nat.le_of_ble_eq_true rfl⟩) rfl hat2 hP hKm hD hS hA rfl hl.1 rfl (Nat.le_of_ble_eq_true rfl) dL_law_600 ⟨show 100 + i + 0 + 0 ≤ 600000 by omega, show 15000 + 8 * i + 0 + 0 ≤ 7302250 by omega⟩ (fun r2 w3 H locs hq2 hP hD hS => ?_)
  refine lv_pop2_2 hx hb dL_law_603 rfl ?_
  refine lv_goto (tgt := 1345) hx hb dL_law_604 (by decide) ?_
  exact hend a kp bt sz sheets ke km w1 w3 _ _ _ _ hq1 hq2 hP hD hS (by omega) (by omega)
set_option maxHeartbeats 4000000 in
set_option maxRecDepth 100000 in
theorem law_9 (l : Launch) {p : Program} {e : Env} {s : State} {m : MethodId} {below : List Frame} {meth : Method} {c : Code} {b L : Nat} {xs : Nat → Int32} (C0 : lw_At p s m meth c b L xs) {D : va_G} {cy : Nat → ClassId} (hK : va_K D vwCl (cT cy) s) (hN : nst s) (hka : ka (fun q : Nat => s.heap.size ≤ q) s s.heap) {i : Nat} (hi : i + 7 ≤ L) (hL : L ≤ 3584) {d0 : Nat} {ad : Nat → Nat} {a kp bt sz : Nat → Nat} {sheets : Nat → Int32} {ke km : Nat} {w w2 : va_W} (hI : IvD cy d0 a kp bt sz sheets ke km w) (hM : Mdl cy ad a kp bt sz sheets ke km w2) {H : Heap} {locs : List Loc} {ls : Array Slot} (hP : va_P D vwCl (w ++ w2) H) (hD : va_D (fun q : Nat => s.heap.size ≤ q) (w ++ w2)) (hS : va_S (fun q : Nat => s.heap.size ≤ q) s.heap H locs) (hl : lv_has ls 4 [(3, .int (nI i)), (2, .ref (ad 0)), (1, .ref d0), (0, .ref b)]) (hend : ∀ (a kp bt sz : Nat → Nat) (sheets : Nat → Int32) (ke km : Nat) (w w2 : va_W) (H : Heap) (locs : List Loc) (cs sl : Nat), IvD cy d0 a kp bt sz sheets ke km w → Mdl cy ad a kp bt sz sheets ke km w2 → va_P D vwCl (w2 ++ w) H → va_D (fun q : Nat => s.heap.size ≤ q) (w2 ++ w) → va_S (fun q : Nat => s.heap.size ≤ q) s.heap H locs → cs ≤ 107 + i → sl ≤ 15056 + 8 * i → W p l e room_1 s m #[Value.ref b] below meth c H locs cs sl (lw_Z below #[Value.ref b] s) (F0 m 1345 ls [])) : W p l e room_1 s m #[Value.ref b] below meth c H locs (100 + i) (15000 + 8 * i) (lw_Z below #[Value.ref b] s) (F0 m 607 ls []) := by
  obtain ⟨hx, hb, hr, hml, hown, hts, hX, hbl, hlocks, hgv⟩ := C0
  have htsL : ∀ w ∈ wsL_law, w.before #[Value.ref b] s = true := fun w h => hts w (wsL_law_in w h)
  have hown : s.vm.findClass RL = some m.cls := hown
  have hA : ∀ q : Nat, s.heap.size ≤ q → (fun q : Nat => s.heap.size ≤ q) q := fun _ h => h
  have hbA : ¬ (fun q : Nat => s.heap.size ≤ q) b := Nat.not_le.mpr hbl
  have hKm : va_K D vwCl (mT (cy 0) (cy 1)) s := hK.sub [0, 1] rfl
  obtain ⟨hok, he20, hm20, hsz⟩ := IvD_f hI
  obtain ⟨k0, fs0, hat⟩ := IvD_at hI
  obtain ⟨fs2, hat2⟩ := Mdl_at hM
  refine lv_aload_n hx hb dL_law_607 rfl (lv_at hl 2 rfl) ?_
  refine lv_aload_n hx hb dL_law_608 rfl (lv_at hl 3 rfl) ?_
  refine lv_iload_n hx hb dL_law_609 rfl (lv_at hl 0 rfl) ?_
  refine lv_iconst (v := (nI (1))) hx hb dL_law_610 (by decide) ?_
  refine ln_iadd hx hb dL_law_611 ?_
  refine va_sld hx hb hX hbl hbA hS (vp_in_nI (show i + 1 < L by omega) (by omega)) dL_law_612 ?_
  refine ln_eqi (y := xs (i + 1)) (by rw [nI_clamp (by omega)]) ?_
  refine lv_aload_n hx hb dL_law_613 rfl (lv_at hl 3 rfl) ?_
  refine lv_iload_n hx hb dL_law_614 rfl (lv_at hl 0 rfl) ?_
  refine lv_iconst (v := (nI (2))) hx hb dL_law_615 (by decide) ?_
  refine ln_iadd hx hb dL_law_616 ?_
  refine va_sld hx hb hX hbl hbA hS (vp_in_nI (show i + 2 < L by omega) (by omega)) dL_law_617 ?_
  refine ln_eqi (y := xs (i + 2)) (by rw [nI_clamp (by omega)]) ?_
  refine kq_Vl (As := [.int (xs (i + 1)), .int (xs (i + 2))]) (rest := []) (w := w) (wr := w2) (ci := 11) (k0 := k0) ⟨hx, hb, hml, hown, htsL⟩ (ia_agree l D hI (xs (i + 1)) (xs (i + 2))) (cwV 2 htsL gL_law_X11_agree rfl rfl rfl (by decide +kernel) ⟨Nat.le_of_ble_eq_true rfl, Nat.le_of_ble_eq_true rfl⟩) rfl hat hP hK hD hN hka hS hA rfl hl.1 rfl (Nat.le_of_ble_eq_true rfl) dL_law_618 ⟨show 100 + i + 0 ≤ 600000 by omega, show 15000 + 8 * i + 0 ≤ 7302250 by omega⟩ (fun r1 w1 H locs hq1 hP hD hS => ?_)
  have hP := hP.perm (List.perm_append_comm (l₁ := w1) (l₂ := w2))
  have hD := hD.perm (List.perm_append_comm (l₁ := w1) (l₂ := w2))
  refine lv_pop2_2 hx hb dL_law_621 rfl ?_
  refine lv_aload_n hx hb dL_law_622 rfl (lv_at hl 1 rfl) ?_
  refine lv_aload_n hx hb dL_law_623 rfl (lv_at hl 3 rfl) ?_
  refine lv_iload_n hx hb dL_law_624 rfl (lv_at hl 0 rfl) ?_
  refine lv_iconst (v := (nI (1))) hx hb dL_law_625 (by decide) ?_
  refine ln_iadd hx hb dL_law_626 ?_
  refine va_sld hx hb hX hbl hbA hS (vp_in_nI (show i + 1 < L by omega) (by omega)) dL_law_627 ?_
  refine ln_eqi (y := xs (i + 1)) (by rw [nI_clamp (by omega)]) ?_
  refine lv_aload_n hx hb dL_law_628 rfl (lv_at hl 3 rfl) ?_
  refine lv_iload_n hx hb dL_law_629 rfl (lv_at hl 0 rfl) ?_
  refine lv_iconst (v := (nI (2))) hx hb dL_law_630 (by decide) ?_
  refine ln_iadd hx hb dL_law_631 ?_
  refine va_sld hx hb hX hbl hbA hS (vp_in_nI (show i + 2 < L by omega) (by omega)) dL_law_632 ?_
  refine ln_eqi (y := xs (i + 2)) (by rw [nI_clamp (by omega)]) ?_
  refine fr_Vl (As := [.int (xs (i + 1)), .int (xs (i + 2))]) (rest := []) (w := w2) (wr := w1) (ci := 12) (k0 := 0) ⟨hx, hb, hml, hown, htsL⟩ (ma_agree l D hM hok he20 hm20 hsz (xs (i + 1)) (xs (i + 2))) (cwV 2 htsL gL_law_X12_agree rfl rfl rfl (by decide +kernel) ⟨Nat.le_of_ble_eq_true rfl, Nat.le_of_ble_eq_true rfl⟩) rfl hat2 hP hKm hD hS hA rfl hl.1 rfl (Nat.le_of_ble_eq_true rfl) dL_law_633 ⟨show 100 + i + 0 + 0 ≤ 600000 by omega, show 15000 + 8 * i + 0 + 0 ≤ 7302250 by omega⟩ (fun r2 w3 H locs hq2 hP hD hS => ?_)
  refine lv_pop2_2 hx hb dL_law_636 rfl ?_
  refine lv_goto (tgt := 1345) hx hb dL_law_637 (by decide) ?_
  exact hend a kp bt sz sheets ke km w1 w3 _ _ _ _ hq1 hq2 hP hD hS (by omega) (by omega)
