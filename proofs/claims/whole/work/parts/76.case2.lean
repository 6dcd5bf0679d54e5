theorem oR_empty (b : XB) (zs zq : Int) : 0 ≤ (oK_empty b zs zq) ∧ (oK_empty b zs zq) ≤ 2 := kR_rng (Or.inl rfl)
theorem oI_empty {b : XB} {zs zq : Int} (hi : bInv b) (h : (oK_empty b zs zq) = 0) : bInv (oB_empty b zs zq) := by
  exact uN_inv hi (Nat.zero_le _)
set_option maxHeartbeats 4000000 in
set_option maxRecDepth 100000 in
theorem cs_empty {p : Program} {l : Launch} {e : Env} {s : State} {m : MethodId} {below : List Frame} {meth : Method} {c : Code} {b0 L : Nat} {xs : Nat → Int32} {G : XG} (C : CF p l s m c b0 L xs G) {Q : State → Prop} {b : XB} {H : Heap} {locs : List Loc} {cells slots : Nat} {ls : Array Slot} (i : Nat) (hi : i + 5 ≤ L) (hL : L ≤ 2560) (I : LI G s.heap.size b s H locs) (hl : lv_has ls 8 [(4, .int (zI (i : Int))), (3, .ref (s.heap.size + 134)), (2, .ref (s.heap.size + 127)), (1, .ref s.heap.size), (0, .ref b0)]) (hc : cells + 8 ≤ 601024 ∧ slots + 48 ≤ 7293034)
    (kk : ∀ (b9 : XB) (H9 : Heap) (locs9 : List Loc) (ls9 : Array Slot), LI G s.heap.size b9 s H9 locs9 → lv_has ls9 8 [(4, .int (zI (i : Int))), (3, .ref (s.heap.size + 134)), (2, .ref (s.heap.size + 127)), (1, .ref s.heap.size), (0, .ref b0)] → W p l e room_1 s m #[Value.ref b0] below meth c H9 locs9 (cells + 8) (slots + 48) Q (F0 m 1642 ls9 [])) : W p l e room_1 s m #[Value.ref b0] below meth c H locs cells slots Q (F0 m 228 ls []) := by
  obtain ⟨hx, hb, hml, hown, hts, hX, hbl, hK, hT, hN, hfl⟩ := C
  obtain ⟨hW, hJ, hI, ⟨th, ov, un, hM⟩, hS⟩ := I
  have hbA : ¬ (s.heap.size ≤ b0) := by omega
  have hMlt := hM.lt
  obtain ⟨zs, hzs, ezs⟩ := x_num (xs (i + 1))
  obtain ⟨zq, hzq, ezq⟩ := x_num (xs (i + 2))
  refine lv_aload_n hx hb dL_law_228 rfl (lv_at hl 3 rfl) ?_
  refine lv_aload_n hx hb dL_law_229 rfl (lv_at hl 4 rfl) ?_
  refine lv_iload hx hb dL_law_230 (lv_at hl 0 rfl) ?_
  refine x_iconst hx hb dL_law_232 ?_
  refine x_iadd hx hb dL_law_233 ?_
  refine x_sld hx hb hX hbl hbA hS (i + 1) (by omega) (by omega) hL ezs dL_law_234 ?_
  refine lv_aload_n hx hb dL_law_235 rfl (lv_at hl 4 rfl) ?_
  refine lv_iload hx hb dL_law_236 (lv_at hl 0 rfl) ?_
  refine x_iconst hx hb dL_law_238 ?_
  refine x_iadd hx hb dL_law_239 ?_
  refine x_sld hx hb hX hbl hbA hS (i + 2) (by omega) (by omega) hL ezq dL_law_240 ?_
  refine lv_aload_n hx hb dL_law_241 rfl (lv_at hl 1 rfl) ?_
  refine x_wI (vx_runSW (As := [.ref s.heap.size, .int (zI zs), .int (zI zq), .ref (s.heap.size + 134)]) (rest := []) ⟨hx, hb, hml, hown, hts⟩ (c_L_empty l hfl G s.heap.size (s.heap.size + 134) s.heap.size (Nat.le_refl _) (by omega) b zs hzs zq hzq) (vx_cwSW 4 hts gL_law_L_empty rfl rfl rfl (by decide +kernel) ⟨Nat.le_of_ble_eq_true rfl, Nat.le_of_ble_eq_true rfl⟩) (x_preW hW hJ hI hK hT hN hS (fun q h => h)) rfl rfl hl.1 rfl (lv_room (Nat.le_of_ble_eq_true rfl)) dL_law_242 hc) hS (fun q _ (h : xB s.heap.size (s.heap.size + 134) q) => (by rcases h with h | h <;> omega : s.heap.size ≤ q)) (fun q (h : xB s.heap.size (s.heap.size + 134) q) => (by rcases h with h | h <;> omega : s.heap.size ≤ q)) (fun H1 locs1 hP hz hk hS => ?_)
  obtain ⟨hX1, w1, hJ1, hw1⟩ := hP
  have hM1 := hM.kept (fun a h1 h2 => hk a (by omega) (fun (h : xB s.heap.size (s.heap.size + 134) a) => by rcases h with h | h <;> omega))
  refine lv_istore (lv' := [(5, .int (zI (oK_empty b zs zq))), (4, .int (zI (i : Int))), (3, .ref (s.heap.size + 134)), (2, .ref (s.heap.size + 127)), (1, .ref s.heap.size), (0, .ref b0)]) hx hb dL_law_245 hl (by decide) rfl (fun ls hl => ?_)
  refine lv_aload_n hx hb dL_law_247 rfl (lv_at hl 3 rfl) ?_
  refine lv_aload_n hx hb dL_law_248 rfl (lv_at hl 5 rfl) ?_
  refine lv_iload hx hb dL_law_249 (lv_at hl 1 rfl) ?_
  refine x_iconst hx hb dL_law_251 ?_
  refine x_iadd hx hb dL_law_252 ?_
  refine x_sld hx hb hX hbl hbA hS (i + 1) (by omega) (by omega) hL ezs dL_law_253 ?_
  refine lv_aload_n hx hb dL_law_254 rfl (lv_at hl 5 rfl) ?_
  refine lv_iload hx hb dL_law_255 (lv_at hl 1 rfl) ?_
  refine x_iconst hx hb dL_law_257 ?_
  refine x_iadd hx hb dL_law_258 ?_
  refine x_sld hx hb hX hbl hbA hS (i + 2) (by omega) (by omega) hL ezq dL_law_259 ?_
  refine va_calli (va_runV (As := [.int (zI zs), .int (zI zq)]) (rest := []) ⟨hx, hb, hml, hown, hts⟩ (c_X4_empty l G (s.heap.size + 127) b th ov un zs hzs zq hzq) (cwV 2 hts gL_law_X4_empty rfl rfl rfl (by decide +kernel) ⟨Nat.le_of_ble_eq_true rfl, Nat.le_of_ble_eq_true rfl⟩) (x_preM hM1 hI hK) rfl rfl hl.1 rfl (lv_room (Nat.le_of_ble_eq_true rfl)) dL_law_260 hc) hS (fun q _ (h : mA (s.heap.size + 127) q) => (by omega : s.heap.size ≤ q)) (fun q (h : mA (s.heap.size + 127) q) => (by omega : s.heap.size ≤ q)) (fun r u t H2 locs2 ht _ hr6 hB hz2 hk2 hS => ?_)
  obtain ⟨Hx, e1, ov2, un2, hM2⟩ := hB
  have e2 : Hx = H2 := e1.symm.trans ht
  subst e2
  replace hM2 : MW G (s.heap.size + 127) (if (oK_empty b zs zq) = 0 then (oB_empty b zs zq) else b) (oK_empty b zs zq) ov2 un2 Hx := hM2
  replace hr6 : (oK_empty b zs zq) = 0 → r = zI (oV_empty b zs zq) := hr6
  have hJ2 := hJ1.kept (hk2 _ hJ1.lt (fun (h : s.heap.size + 127 ≤ s.heap.size + 134 ∧ s.heap.size + 134 < s.heap.size + 127 + 7) => by omega))
  have hX2 : BX G s.heap.size (if (oK_empty b zs zq) = 0 then (oB_empty b zs zq) else b) Hx := by
    obtain ⟨lim2, dif2, hX1⟩ := hX1
    have hlt := hX1.lt
    exact ⟨lim2, dif2, hX1.kept (fun a h1 h2 => hk2 a (by omega) (fun (h : s.heap.size + 127 ≤ a ∧ a < s.heap.size + 127 + 7) => by omega))⟩
  have hI2 : bInv (if (oK_empty b zs zq) = 0 then (oB_empty b zs zq) else b) := by
    split
    · exact oI_empty hI (by assumption)
    · exact hI
  have hkr := oR_empty b zs zq
  have hw2 : (oK_empty b zs zq) = 0 → w1 0 = (zI (oV_empty b zs zq)).toInt64 := hw1
  have hLI : LI G s.heap.size (if (oK_empty b zs zq) = 0 then (oB_empty b zs zq) else b) s Hx locs2 := ⟨hX2, ⟨w1, hJ2⟩, hI2, ⟨_, _, _, hM2⟩, hS⟩
  generalize hkz : (oK_empty b zs zq) = kz at *
  generalize (if kz = 0 then (oB_empty b zs zq) else b) = b9 at *
  refine lv_istore (lv' := [(6, .int r), (5, .int (zI kz)), (4, .int (zI (i : Int))), (3, .ref (s.heap.size + 134)), (2, .ref (s.heap.size + 127)), (1, .ref s.heap.size), (0, .ref b0)]) hx hb dL_law_263 hl (by decide) rfl (fun ls hl => ?_)
  refine lv_aload_n hx hb dL_law_265 rfl (lv_at hl 4 rfl) ?_
  refine x_cI (va_runV (As := []) (rest := []) ⟨hx, hb, hml, hown, hts⟩ (c_X4_thrown l G (s.heap.size + 127) b9 kz ov2 un2) (cwV 0 hts gL_law_X4_thrown rfl rfl rfl (by decide +kernel) ⟨Nat.le_of_ble_eq_true rfl, Nat.le_of_ble_eq_true rfl⟩) (x_preM hM2 hI2 hK) rfl rfl hl.1 rfl (lv_room (Nat.le_of_ble_eq_true rfl)) dL_law_266 hc) ?_
  refine lv_iload hx hb dL_law_269 (lv_at hl 1 rfl) ?_
  refine lv_icmp_eq (tgt := 276) hx hb dL_law_271 (by decide) (fun _ => ?_) (fun h => absurd rfl h)
  refine lv_iload hx hb dL_law_276 (lv_at hl 1 rfl) ?_
  refine x_if_ne (tgt := 293) hx hb dL_law_278 (by decide) (by omega) (fun hn => ?_) (fun hk0 => ?_)
  · refine lv_goto (tgt := 1642) hx hb dL_law_293 (by decide) ?_
    exact kk _ _ _ _ hLI (lv_sub hl [2, 3, 4, 5, 6] rfl)
  · refine lv_aload_n hx hb dL_law_281 rfl (lv_at hl 3 rfl) ?_
    refine x_iconst hx hb dL_law_282 ?_
    refine x_lald hx hb hK hJ2 0 (by decide) (by decide) (by decide) dL_law_283 ?_
    rw [hw2 hk0]
    refine lv_iload hx hb dL_law_284 (lv_at hl 0 rfl) ?_
    refine lv_i2l hx hb dL_law_286 (congrArg Int32.toInt64 (hr6 hk0)) ?_
    refine x_lcmpS hx hb dL_law_287 ?_
    refine lv_if_eq (tgt := 293) hx hb dL_law_288 (by decide) (fun _ => ?_) (fun h => absurd rfl h)
    refine lv_goto (tgt := 1642) hx hb dL_law_293 (by decide) ?_
    exact kk _ _ _ _ hLI (lv_sub hl [2, 3, 4, 5, 6] rfl)
theorem oR_length (b : XB) (zs zq : Int) : 0 ≤ (oK_length b zs zq) ∧ (oK_length b zs zq) ≤ 2 := kR_rng (Or.inl rfl)
theorem oI_length {b : XB} {zs zq : Int} (hi : bInv b) (h : (oK_length b zs zq) = 0) : bInv (oB_length b zs zq) := by
  exact hi
set_option maxHeartbeats 4000000 in
set_option maxRecDepth 100000 in
theorem cs_length {p : Program} {l : Launch} {e : Env} {s : State} {m : MethodId} {below : List Frame} {meth : Method} {c : Code} {b0 L : Nat} {xs : Nat → Int32} {G : XG} (C : CF p l s m c b0 L xs G) {Q : State → Prop} {b : XB} {H : Heap} {locs : List Loc} {cells slots : Nat} {ls : Array Slot} (i : Nat) (hi : i + 5 ≤ L) (hL : L ≤ 2560) (I : LI G s.heap.size b s H locs) (hl : lv_has ls 8 [(4, .int (zI (i : Int))), (3, .ref (s.heap.size + 134)), (2, .ref (s.heap.size + 127)), (1, .ref s.heap.size), (0, .ref b0)]) (hc : cells + 8 ≤ 601024 ∧ slots + 48 ≤ 7293034)
    (kk : ∀ (b9 : XB) (H9 : Heap) (locs9 : List Loc) (ls9 : Array Slot), LI G s.heap.size b9 s H9 locs9 → lv_has ls9 8 [(4, .int (zI (i : Int))), (3, .ref (s.heap.size + 134)), (2, .ref (s.heap.size + 127)), (1, .ref s.heap.size), (0, .ref b0)] → W p l e room_1 s m #[Value.ref b0] below meth c H9 locs9 (cells + 8) (slots + 48) Q (F0 m 1642 ls9 [])) : W p l e room_1 s m #[Value.ref b0] below meth c H locs cells slots Q (F0 m 296 ls []) := by
  obtain ⟨hx, hb, hml, hown, hts, hX, hbl, hK, hT, hN, hfl⟩ := C
  obtain ⟨hW, hJ, hI, ⟨th, ov, un, hM⟩, hS⟩ := I
  have hbA : ¬ (s.heap.size ≤ b0) := by omega
  have hMlt := hM.lt
  obtain ⟨zs, hzs, ezs⟩ := x_num (xs (i + 1))
  obtain ⟨zq, hzq, ezq⟩ := x_num (xs (i + 2))
  refine lv_aload_n hx hb dL_law_296 rfl (lv_at hl 3 rfl) ?_
  refine lv_aload_n hx hb dL_law_297 rfl (lv_at hl 4 rfl) ?_
  refine lv_iload hx hb dL_law_298 (lv_at hl 0 rfl) ?_
  refine x_iconst hx hb dL_law_300 ?_
  refine x_iadd hx hb dL_law_301 ?_
  refine x_sld hx hb hX hbl hbA hS (i + 1) (by omega) (by omega) hL ezs dL_law_302 ?_
  refine lv_aload_n hx hb dL_law_303 rfl (lv_at hl 4 rfl) ?_
  refine lv_iload hx hb dL_law_304 (lv_at hl 0 rfl) ?_
  refine x_iconst hx hb dL_law_306 ?_
  refine x_iadd hx hb dL_law_307 ?_
  refine x_sld hx hb hX hbl hbA hS (i + 2) (by omega) (by omega) hL ezq dL_law_308 ?_
  refine lv_aload_n hx hb dL_law_309 rfl (lv_at hl 1 rfl) ?_
  refine x_wI (vx_runSW (As := [.ref s.heap.size, .int (zI zs), .int (zI zq), .ref (s.heap.size + 134)]) (rest := []) ⟨hx, hb, hml, hown, hts⟩ (c_L_length l hfl G s.heap.size (s.heap.size + 134) s.heap.size (Nat.le_refl _) (by omega) b zs hzs zq hzq) (vx_cwSW 4 hts gL_law_L_length rfl rfl rfl (by decide +kernel) ⟨Nat.le_of_ble_eq_true rfl, Nat.le_of_ble_eq_true rfl⟩) (x_preW hW hJ hI hK hT hN hS (fun q h => h)) rfl rfl hl.1 rfl (lv_room (Nat.le_of_ble_eq_true rfl)) dL_law_310 hc) hS (fun q _ (h : xB s.heap.size (s.heap.size + 134) q) => (by rcases h with h | h <;> omega : s.heap.size ≤ q)) (fun q (h : xB s.heap.size (s.heap.size + 134) q) => (by rcases h with h | h <;> omega : s.heap.size ≤ q)) (fun H1 locs1 hP hz hk hS => ?_)
  obtain ⟨hX1, w1, hJ1, hw1⟩ := hP
  have hM1 := hM.kept (fun a h1 h2 => hk a (by omega) (fun (h : xB s.heap.size (s.heap.size + 134) a) => by rcases h with h | h <;> omega))
  refine lv_istore (lv' := [(5, .int (zI (oK_length b zs zq))), (4, .int (zI (i : Int))), (3, .ref (s.heap.size + 134)), (2, .ref (s.heap.size + 127)), (1, .ref s.heap.size), (0, .ref b0)]) hx hb dL_law_313 hl (by decide) rfl (fun ls hl => ?_)
  refine lv_aload_n hx hb dL_law_315 rfl (lv_at hl 3 rfl) ?_
  refine lv_aload_n hx hb dL_law_316 rfl (lv_at hl 5 rfl) ?_
  refine lv_iload hx hb dL_law_317 (lv_at hl 1 rfl) ?_
  refine x_iconst hx hb dL_law_319 ?_
  refine x_iadd hx hb dL_law_320 ?_
  refine x_sld hx hb hX hbl hbA hS (i + 1) (by omega) (by omega) hL ezs dL_law_321 ?_
  refine lv_aload_n hx hb dL_law_322 rfl (lv_at hl 5 rfl) ?_
  refine lv_iload hx hb dL_law_323 (lv_at hl 1 rfl) ?_
  refine x_iconst hx hb dL_law_325 ?_
  refine x_iadd hx hb dL_law_326 ?_
  refine x_sld hx hb hX hbl hbA hS (i + 2) (by omega) (by omega) hL ezq dL_law_327 ?_
  refine va_calli (va_runV (As := [.int (zI zs), .int (zI zq)]) (rest := []) ⟨hx, hb, hml, hown, hts⟩ (c_X4_length l G (s.heap.size + 127) b th ov un zs hzs zq hzq) (cwV 2 hts gL_law_X4_length rfl rfl rfl (by decide +kernel) ⟨Nat.le_of_ble_eq_true rfl, Nat.le_of_ble_eq_true rfl⟩) (x_preM hM1 hI hK) rfl rfl hl.1 rfl (lv_room (Nat.le_of_ble_eq_true rfl)) dL_law_328 hc) hS (fun q _ (h : mA (s.heap.size + 127) q) => (by omega : s.heap.size ≤ q)) (fun q (h : mA (s.heap.size + 127) q) => (by omega : s.heap.size ≤ q)) (fun r u t H2 locs2 ht _ hr6 hB hz2 hk2 hS => ?_)
  obtain ⟨Hx, e1, ov2, un2, hM2⟩ := hB
  have e2 : Hx = H2 := e1.symm.trans ht
  subst e2
  replace hM2 : MW G (s.heap.size + 127) (if (oK_length b zs zq) = 0 then (oB_length b zs zq) else b) (oK_length b zs zq) ov2 un2 Hx := hM2
  replace hr6 : (oK_length b zs zq) = 0 → r = zI (oV_length b zs zq) := hr6
  have hJ2 := hJ1.kept (hk2 _ hJ1.lt (fun (h : s.heap.size + 127 ≤ s.heap.size + 134 ∧ s.heap.size + 134 < s.heap.size + 127 + 7) => by omega))
  have hX2 : BX G s.heap.size (if (oK_length b zs zq) = 0 then (oB_length b zs zq) else b) Hx := by
    obtain ⟨lim2, dif2, hX1⟩ := hX1
    have hlt := hX1.lt
    exact ⟨lim2, dif2, hX1.kept (fun a h1 h2 => hk2 a (by omega) (fun (h : s.heap.size + 127 ≤ a ∧ a < s.heap.size + 127 + 7) => by omega))⟩
  have hI2 : bInv (if (oK_length b zs zq) = 0 then (oB_length b zs zq) else b) := by
    split
    · exact oI_length hI (by assumption)
    · exact hI
  have hkr := oR_length b zs zq
  have hw2 : (oK_length b zs zq) = 0 → w1 0 = (zI (oV_length b zs zq)).toInt64 := hw1
  have hLI : LI G s.heap.size (if (oK_length b zs zq) = 0 then (oB_length b zs zq) else b) s Hx locs2 := ⟨hX2, ⟨w1, hJ2⟩, hI2, ⟨_, _, _, hM2⟩, hS⟩
  generalize hkz : (oK_length b zs zq) = kz at *
  generalize (if kz = 0 then (oB_length b zs zq) else b) = b9 at *
  refine lv_istore (lv' := [(6, .int r), (5, .int (zI kz)), (4, .int (zI (i : Int))), (3, .ref (s.heap.size + 134)), (2, .ref (s.heap.size + 127)), (1, .ref s.heap.size), (0, .ref b0)]) hx hb dL_law_331 hl (by decide) rfl (fun ls hl => ?_)
  refine lv_aload_n hx hb dL_law_333 rfl (lv_at hl 4 rfl) ?_
  refine x_cI (va_runV (As := []) (rest := []) ⟨hx, hb, hml, hown, hts⟩ (c_X4_thrown l G (s.heap.size + 127) b9 kz ov2 un2) (cwV 0 hts gL_law_X4_thrown rfl rfl rfl (by decide +kernel) ⟨Nat.le_of_ble_eq_true rfl, Nat.le_of_ble_eq_true rfl⟩) (x_preM hM2 hI2 hK) rfl rfl hl.1 rfl (lv_room (Nat.le_of_ble_eq_true rfl)) dL_law_334 hc) ?_
  refine lv_iload hx hb dL_law_337 (lv_at hl 1 rfl) ?_
  refine lv_icmp_eq (tgt := 344) hx hb dL_law_339 (by decide) (fun _ => ?_) (fun h => absurd rfl h)
  refine lv_iload hx hb dL_law_344 (lv_at hl 1 rfl) ?_
  refine x_if_ne (tgt := 361) hx hb dL_law_346 (by decide) (by omega) (fun hn => ?_) (fun hk0 => ?_)
  · refine lv_goto (tgt := 1642) hx hb dL_law_361 (by decide) ?_
    exact kk _ _ _ _ hLI (lv_sub hl [2, 3, 4, 5, 6] rfl)
  · refine lv_aload_n hx hb dL_law_349 rfl (lv_at hl 3 rfl) ?_
    refine x_iconst hx hb dL_law_350 ?_
    refine x_lald hx hb hK hJ2 0 (by decide) (by decide) (by decide) dL_law_351 ?_
    rw [hw2 hk0]
    refine lv_iload hx hb dL_law_352 (lv_at hl 0 rfl) ?_
    refine lv_i2l hx hb dL_law_354 (congrArg Int32.toInt64 (hr6 hk0)) ?_
    refine x_lcmpS hx hb dL_law_355 ?_
    refine lv_if_eq (tgt := 361) hx hb dL_law_356 (by decide) (fun _ => ?_) (fun h => absurd rfl h)
    refine lv_goto (tgt := 1642) hx hb dL_law_361 (by decide) ?_
    exact kk _ _ _ _ hLI (lv_sub hl [2, 3, 4, 5, 6] rfl)
theorem oR_at (b : XB) (zs zq zr : Int) : 0 ≤ (oK_at b zs zq zr) ∧ (oK_at b zs zq zr) ≤ 2 := kR_rng (Or.inl rfl)
theorem oI_at {b : XB} {zs zq zr : Int} (hi : bInv b) (h : (oK_at b zs zq zr) = 0) : bInv (oB_at b zs zq zr) := by
  exact hi
set_option maxHeartbeats 4000000 in
set_option maxRecDepth 100000 in
theorem cs_at {p : Program} {l : Launch} {e : Env} {s : State} {m : MethodId} {below : List Frame} {meth : Method} {c : Code} {b0 L : Nat} {xs : Nat → Int32} {G : XG} (C : CF p l s m c b0 L xs G) {Q : State → Prop} {b : XB} {H : Heap} {locs : List Loc} {cells slots : Nat} {ls : Array Slot} (i : Nat) (hi : i + 5 ≤ L) (hL : L ≤ 2560) (I : LI G s.heap.size b s H locs) (hl : lv_has ls 8 [(4, .int (zI (i : Int))), (3, .ref (s.heap.size + 134)), (2, .ref (s.heap.size + 127)), (1, .ref s.heap.size), (0, .ref b0)]) (hc : cells + 8 ≤ 601024 ∧ slots + 48 ≤ 7293034)
    (kk : ∀ (b9 : XB) (H9 : Heap) (locs9 : List Loc) (ls9 : Array Slot), LI G s.heap.size b9 s H9 locs9 → lv_has ls9 8 [(4, .int (zI (i : Int))), (3, .ref (s.heap.size + 134)), (2, .ref (s.heap.size + 127)), (1, .ref s.heap.size), (0, .ref b0)] → W p l e room_1 s m #[Value.ref b0] below meth c H9 locs9 (cells + 8) (slots + 48) Q (F0 m 1642 ls9 [])) : W p l e room_1 s m #[Value.ref b0] below meth c H locs cells slots Q (F0 m 364 ls []) := by
  obtain ⟨hx, hb, hml, hown, hts, hX, hbl, hK, hT, hN, hfl⟩ := C
  obtain ⟨hW, hJ, hI, ⟨th, ov, un, hM⟩, hS⟩ := I
  have hbA : ¬ (s.heap.size ≤ b0) := by omega
  have hMlt := hM.lt
  obtain ⟨zs, hzs, ezs⟩ := x_num (xs (i + 1))
  obtain ⟨zq, hzq, ezq⟩ := x_num (xs (i + 2))
  obtain ⟨zr, hzr, ezr⟩ := x_num (xs (i + 3))
  refine lv_aload_n hx hb dL_law_364 rfl (lv_at hl 3 rfl) ?_
  refine lv_aload_n hx hb dL_law_365 rfl (lv_at hl 4 rfl) ?_
  refine lv_iload hx hb dL_law_366 (lv_at hl 0 rfl) ?_
  refine x_iconst hx hb dL_law_368 ?_
  refine x_iadd hx hb dL_law_369 ?_
  refine x_sld hx hb hX hbl hbA hS (i + 1) (by omega) (by omega) hL ezs dL_law_370 ?_
  refine lv_aload_n hx hb dL_law_371 rfl (lv_at hl 4 rfl) ?_
  refine lv_iload hx hb dL_law_372 (lv_at hl 0 rfl) ?_
  refine x_iconst hx hb dL_law_374 ?_
  refine x_iadd hx hb dL_law_375 ?_
  refine x_sld hx hb hX hbl hbA hS (i + 2) (by omega) (by omega) hL ezq dL_law_376 ?_
  refine lv_aload_n hx hb dL_law_377 rfl (lv_at hl 4 rfl) ?_
  refine lv_iload hx hb dL_law_378 (lv_at hl 0 rfl) ?_
  refine x_iconst hx hb dL_law_380 ?_
  refine x_iadd hx hb dL_law_381 ?_
  refine x_sld hx hb hX hbl hbA hS (i + 3) (by omega) (by omega) hL ezr dL_law_382 ?_
  refine lv_aload_n hx hb dL_law_383 rfl (lv_at hl 1 rfl) ?_
  refine x_wI (vx_runSW (As := [.ref s.heap.size, .int (zI zs), .int (zI zq), .int (zI zr), .ref (s.heap.size + 134)]) (rest := []) ⟨hx, hb, hml, hown, hts⟩ (c_L_at l hfl G s.heap.size (s.heap.size + 134) s.heap.size (Nat.le_refl _) (by omega) b zs hzs zq hzq zr hzr) (vx_cwSW 5 hts gL_law_L_at rfl rfl rfl (by decide +kernel) ⟨Nat.le_of_ble_eq_true rfl, Nat.le_of_ble_eq_true rfl⟩) (x_preW hW hJ hI hK hT hN hS (fun q h => h)) rfl rfl hl.1 rfl (lv_room (Nat.le_of_ble_eq_true rfl)) dL_law_384 hc) hS (fun q _ (h : xB s.heap.size (s.heap.size + 134) q) => (by rcases h with h | h <;> omega : s.heap.size ≤ q)) (fun q (h : xB s.heap.size (s.heap.size + 134) q) => (by rcases h with h | h <;> omega : s.heap.size ≤ q)) (fun H1 locs1 hP hz hk hS => ?_)
  obtain ⟨hX1, w1, hJ1, hw1⟩ := hP
  have hM1 := hM.kept (fun a h1 h2 => hk a (by omega) (fun (h : xB s.heap.size (s.heap.size + 134) a) => by rcases h with h | h <;> omega))
  refine lv_istore (lv' := [(5, .int (zI (oK_at b zs zq zr))), (4, .int (zI (i : Int))), (3, .ref (s.heap.size + 134)), (2, .ref (s.heap.size + 127)), (1, .ref s.heap.size), (0, .ref b0)]) hx hb dL_law_387 hl (by decide) rfl (fun ls hl => ?_)
  refine lv_aload_n hx hb dL_law_389 rfl (lv_at hl 3 rfl) ?_
  refine lv_aload_n hx hb dL_law_390 rfl (lv_at hl 5 rfl) ?_
  refine lv_iload hx hb dL_law_391 (lv_at hl 1 rfl) ?_
  refine x_iconst hx hb dL_law_393 ?_
  refine x_iadd hx hb dL_law_394 ?_
  refine x_sld hx hb hX hbl hbA hS (i + 1) (by omega) (by omega) hL ezs dL_law_395 ?_
  refine lv_aload_n hx hb dL_law_396 rfl (lv_at hl 5 rfl) ?_
  refine lv_iload hx hb dL_law_397 (lv_at hl 1 rfl) ?_
  refine x_iconst hx hb dL_law_399 ?_
  refine x_iadd hx hb dL_law_400 ?_
  refine x_sld hx hb hX hbl hbA hS (i + 2) (by omega) (by omega) hL ezq dL_law_401 ?_
  refine lv_aload_n hx hb dL_law_402 rfl (lv_at hl 5 rfl) ?_
  refine lv_iload hx hb dL_law_403 (lv_at hl 1 rfl) ?_
  refine x_iconst hx hb dL_law_405 ?_
  refine x_iadd hx hb dL_law_406 ?_
  refine x_sld hx hb hX hbl hbA hS (i + 3) (by omega) (by omega) hL ezr dL_law_407 ?_
  refine va_calli (va_runV (As := [.int (zI zs), .int (zI zq), .int (zI zr)]) (rest := []) ⟨hx, hb, hml, hown, hts⟩ (c_X4_at l G (s.heap.size + 127) b th ov un zs hzs zq hzq zr hzr) (cwV 3 hts gL_law_X4_at rfl rfl rfl (by decide +kernel) ⟨Nat.le_of_ble_eq_true rfl, Nat.le_of_ble_eq_true rfl⟩) (x_preM hM1 hI hK) rfl rfl hl.1 rfl (lv_room (Nat.le_of_ble_eq_true rfl)) dL_law_408 hc) hS (fun q _ (h : mA (s.heap.size + 127) q) => (by omega : s.heap.size ≤ q)) (fun q (h : mA (s.heap.size + 127) q) => (by omega : s.heap.size ≤ q)) (fun r u t H2 locs2 ht _ hr6 hB hz2 hk2 hS => ?_)
  obtain ⟨Hx, e1, ov2, un2, hM2⟩ := hB
  have e2 : Hx = H2 := e1.symm.trans ht
  subst e2
  replace hM2 : MW G (s.heap.size + 127) (if (oK_at b zs zq zr) = 0 then (oB_at b zs zq zr) else b) (oK_at b zs zq zr) ov2 un2 Hx := hM2
  replace hr6 : (oK_at b zs zq zr) = 0 → r = zI (oV_at b zs zq zr) := hr6
  have hJ2 := hJ1.kept (hk2 _ hJ1.lt (fun (h : s.heap.size + 127 ≤ s.heap.size + 134 ∧ s.heap.size + 134 < s.heap.size + 127 + 7) => by omega))
  have hX2 : BX G s.heap.size (if (oK_at b zs zq zr) = 0 then (oB_at b zs zq zr) else b) Hx := by
    obtain ⟨lim2, dif2, hX1⟩ := hX1
    have hlt := hX1.lt
    exact ⟨lim2, dif2, hX1.kept (fun a h1 h2 => hk2 a (by omega) (fun (h : s.heap.size + 127 ≤ a ∧ a < s.heap.size + 127 + 7) => by omega))⟩
  have hI2 : bInv (if (oK_at b zs zq zr) = 0 then (oB_at b zs zq zr) else b) := by
    split
    · exact oI_at hI (by assumption)
    · exact hI
  have hkr := oR_at b zs zq zr
  have hw2 : (oK_at b zs zq zr) = 0 → w1 0 = (zI (oV_at b zs zq zr)).toInt64 := hw1
  have hLI : LI G s.heap.size (if (oK_at b zs zq zr) = 0 then (oB_at b zs zq zr) else b) s Hx locs2 := ⟨hX2, ⟨w1, hJ2⟩, hI2, ⟨_, _, _, hM2⟩, hS⟩
  generalize hkz : (oK_at b zs zq zr) = kz at *
  generalize (if kz = 0 then (oB_at b zs zq zr) else b) = b9 at *
  refine lv_istore (lv' := [(6, .int r), (5, .int (zI kz)), (4, .int (zI (i : Int))), (3, .ref (s.heap.size + 134)), (2, .ref (s.heap.size + 127)), (1, .ref s.heap.size), (0, .ref b0)]) hx hb dL_law_411 hl (by decide) rfl (fun ls hl => ?_)
  refine lv_aload_n hx hb dL_law_413 rfl (lv_at hl 4 rfl) ?_
  refine x_cI (va_runV (As := []) (rest := []) ⟨hx, hb, hml, hown, hts⟩ (c_X4_thrown l G (s.heap.size + 127) b9 kz ov2 un2) (cwV 0 hts gL_law_X4_thrown rfl rfl rfl (by decide +kernel) ⟨Nat.le_of_ble_eq_true rfl, Nat.le_of_ble_eq_true rfl⟩) (x_preM hM2 hI2 hK) rfl rfl hl.1 rfl (lv_room (Nat.le_of_ble_eq_true rfl)) dL_law_414 hc) ?_
  refine lv_iload hx hb dL_law_417 (lv_at hl 1 rfl) ?_
  refine lv_icmp_eq (tgt := 424) hx hb dL_law_419 (by decide) (fun _ => ?_) (fun h => absurd rfl h)
  refine lv_iload hx hb dL_law_424 (lv_at hl 1 rfl) ?_
  refine x_if_ne (tgt := 441) hx hb dL_law_426 (by decide) (by omega) (fun hn => ?_) (fun hk0 => ?_)
  · refine lv_goto (tgt := 1642) hx hb dL_law_441 (by decide) ?_
    exact kk _ _ _ _ hLI (lv_sub hl [2, 3, 4, 5, 6] rfl)
  · refine lv_aload_n hx hb dL_law_429 rfl (lv_at hl 3 rfl) ?_
    refine x_iconst hx hb dL_law_430 ?_
    refine x_lald hx hb hK hJ2 0 (by decide) (by decide) (by decide) dL_law_431 ?_
    rw [hw2 hk0]
    refine lv_iload hx hb dL_law_432 (lv_at hl 0 rfl) ?_
    refine lv_i2l hx hb dL_law_434 (congrArg Int32.toInt64 (hr6 hk0)) ?_
    refine x_lcmpS hx hb dL_law_435 ?_
    refine lv_if_eq (tgt := 441) hx hb dL_law_436 (by decide) (fun _ => ?_) (fun h => absurd rfl h)
    refine lv_goto (tgt := 1642) hx hb dL_law_441 (by decide) ?_
    exact kk _ _ _ _ hLI (lv_sub hl [2, 3, 4, 5, 6] rfl)
theorem oR_judge (b : XB) (zq zd zj : Int) : 0 ≤ (oK_judge b zq zd zj) ∧ (oK_judge b zq zd zj) ≤ 2 := kR_rng (Or.inl rfl)
theorem oI_judge {b : XB} {zq zd zj : Int} (hi : bInv b) (h : (oK_judge b zq zd zj) = 0) : bInv (oB_judge b zq zd zj) := by
  have hp := (kR_0 h).1
  exact uJ_inv hi (by omega)
set_option maxHeartbeats 4000000 in
set_option maxRecDepth 100000 in
theorem cs_judge {p : Program} {l : Launch} {e : Env} {s : State} {m : MethodId} {below : List Frame} {meth : Method} {c : Code} {b0 L : Nat} {xs : Nat → Int32} {G : XG} (C : CF p l s m c b0 L xs G) {Q : State → Prop} {b : XB} {H : Heap} {locs : List Loc} {cells slots : Nat} {ls : Array Slot} (i : Nat) (hi : i + 5 ≤ L) (hL : L ≤ 2560) (I : LI G s.heap.size b s H locs) (hl : lv_has ls 8 [(4, .int (zI (i : Int))), (3, .ref (s.heap.size + 134)), (2, .ref (s.heap.size + 127)), (1, .ref s.heap.size), (0, .ref b0)]) (hc : cells + 8 ≤ 601024 ∧ slots + 48 ≤ 7293034)
    (kk : ∀ (b9 : XB) (H9 : Heap) (locs9 : List Loc) (ls9 : Array Slot), LI G s.heap.size b9 s H9 locs9 → lv_has ls9 8 [(4, .int (zI (i : Int))), (3, .ref (s.heap.size + 134)), (2, .ref (s.heap.size + 127)), (1, .ref s.heap.size), (0, .ref b0)] → W p l e room_1 s m #[Value.ref b0] below meth c H9 locs9 (cells + 8) (slots + 48) Q (F0 m 1642 ls9 [])) : W p l e room_1 s m #[Value.ref b0] below meth c H locs cells slots Q (F0 m 444 ls []) := by
  obtain ⟨hx, hb, hml, hown, hts, hX, hbl, hK, hT, hN, hfl⟩ := C
  obtain ⟨hW, hJ, hI, ⟨th, ov, un, hM⟩, hS⟩ := I
  have hbA : ¬ (s.heap.size ≤ b0) := by omega
  have hMlt := hM.lt
  obtain ⟨zq, hzq, ezq⟩ := x_num (xs (i + 1))
  obtain ⟨zd, hzd, ezd⟩ := x_num (xs (i + 2))
  obtain ⟨zj, hzj, ezj⟩ := x_num (xs (i + 3))
  refine lv_aload_n hx hb dL_law_444 rfl (lv_at hl 3 rfl) ?_
  refine lv_aload_n hx hb dL_law_445 rfl (lv_at hl 4 rfl) ?_
  refine lv_iload hx hb dL_law_446 (lv_at hl 0 rfl) ?_
  refine x_iconst hx hb dL_law_448 ?_
  refine x_iadd hx hb dL_law_449 ?_
  refine x_sld hx hb hX hbl hbA hS (i + 1) (by omega) (by omega) hL ezq dL_law_450 ?_
  refine lv_aload_n hx hb dL_law_451 rfl (lv_at hl 4 rfl) ?_
  refine lv_iload hx hb dL_law_452 (lv_at hl 0 rfl) ?_
  refine x_iconst hx hb dL_law_454 ?_
  refine x_iadd hx hb dL_law_455 ?_
  refine x_sld hx hb hX hbl hbA hS (i + 2) (by omega) (by omega) hL ezd dL_law_456 ?_
  refine lv_aload_n hx hb dL_law_457 rfl (lv_at hl 4 rfl) ?_
  refine lv_iload hx hb dL_law_458 (lv_at hl 0 rfl) ?_
  refine x_iconst hx hb dL_law_460 ?_
  refine x_iadd hx hb dL_law_461 ?_
  refine x_sld hx hb hX hbl hbA hS (i + 3) (by omega) (by omega) hL ezj dL_law_462 ?_
  refine lv_aload_n hx hb dL_law_463 rfl (lv_at hl 1 rfl) ?_
  refine x_wI (vx_runSW (As := [.ref s.heap.size, .int (zI zq), .int (zI zd), .int (zI zj), .ref (s.heap.size + 134)]) (rest := []) ⟨hx, hb, hml, hown, hts⟩ (c_L_judge l hfl G s.heap.size (s.heap.size + 134) s.heap.size (Nat.le_refl _) (by omega) b zq hzq zd hzd zj hzj) (vx_cwSW 5 hts gL_law_L_judge rfl rfl rfl (by decide +kernel) ⟨Nat.le_of_ble_eq_true rfl, Nat.le_of_ble_eq_true rfl⟩) (x_preW hW hJ hI hK hT hN hS (fun q h => h)) rfl rfl hl.1 rfl (lv_room (Nat.le_of_ble_eq_true rfl)) dL_law_464 hc) hS (fun q _ (h : xB s.heap.size (s.heap.size + 134) q) => (by rcases h with h | h <;> omega : s.heap.size ≤ q)) (fun q (h : xB s.heap.size (s.heap.size + 134) q) => (by rcases h with h | h <;> omega : s.heap.size ≤ q)) (fun H1 locs1 hP hz hk hS => ?_)
  obtain ⟨hX1, w1, hJ1, hw1⟩ := hP
  have hM1 := hM.kept (fun a h1 h2 => hk a (by omega) (fun (h : xB s.heap.size (s.heap.size + 134) a) => by rcases h with h | h <;> omega))
  refine lv_istore (lv' := [(5, .int (zI (oK_judge b zq zd zj))), (4, .int (zI (i : Int))), (3, .ref (s.heap.size + 134)), (2, .ref (s.heap.size + 127)), (1, .ref s.heap.size), (0, .ref b0)]) hx hb dL_law_467 hl (by decide) rfl (fun ls hl => ?_)
  refine lv_aload_n hx hb dL_law_469 rfl (lv_at hl 3 rfl) ?_
  refine lv_aload_n hx hb dL_law_470 rfl (lv_at hl 5 rfl) ?_
  refine lv_iload hx hb dL_law_471 (lv_at hl 1 rfl) ?_
  refine x_iconst hx hb dL_law_473 ?_
  refine x_iadd hx hb dL_law_474 ?_
  refine x_sld hx hb hX hbl hbA hS (i + 1) (by omega) (by omega) hL ezq dL_law_475 ?_
  refine lv_aload_n hx hb dL_law_476 rfl (lv_at hl 5 rfl) ?_
  refine lv_iload hx hb dL_law_477 (lv_at hl 1 rfl) ?_
  refine x_iconst hx hb dL_law_479 ?_
  refine x_iadd hx hb dL_law_480 ?_
  refine x_sld hx hb hX hbl hbA hS (i + 2) (by omega) (by omega) hL ezd dL_law_481 ?_
  refine lv_aload_n hx hb dL_law_482 rfl (lv_at hl 5 rfl) ?_
  refine lv_iload hx hb dL_law_483 (lv_at hl 1 rfl) ?_
  refine x_iconst hx hb dL_law_485 ?_
  refine x_iadd hx hb dL_law_486 ?_
  refine x_sld hx hb hX hbl hbA hS (i + 3) (by omega) (by omega) hL ezj dL_law_487 ?_
  refine va_calli (va_runV (As := [.int (zI zq), .int (zI zd), .int (zI zj)]) (rest := []) ⟨hx, hb, hml, hown, hts⟩ (c_X4_judge l G (s.heap.size + 127) b th ov un zq hzq zd hzd zj hzj) (cwV 3 hts gL_law_X4_judge rfl rfl rfl (by decide +kernel) ⟨Nat.le_of_ble_eq_true rfl, Nat.le_of_ble_eq_true rfl⟩) (x_preM hM1 hI hK) rfl rfl hl.1 rfl (lv_room (Nat.le_of_ble_eq_true rfl)) dL_law_488 hc) hS (fun q _ (h : mA (s.heap.size + 127) q) => (by omega : s.heap.size ≤ q)) (fun q (h : mA (s.heap.size + 127) q) => (by omega : s.heap.size ≤ q)) (fun r u t H2 locs2 ht _ hr6 hB hz2 hk2 hS => ?_)
  obtain ⟨Hx, e1, ov2, un2, hM2⟩ := hB
  have e2 : Hx = H2 := e1.symm.trans ht
  subst e2
  replace hM2 : MW G (s.heap.size + 127) (if (oK_judge b zq zd zj) = 0 then (oB_judge b zq zd zj) else b) (oK_judge b zq zd zj) ov2 un2 Hx := hM2
  replace hr6 : (oK_judge b zq zd zj) = 0 → r = zI (oV_judge b zq zd zj) := hr6
  have hJ2 := hJ1.kept (hk2 _ hJ1.lt (fun (h : s.heap.size + 127 ≤ s.heap.size + 134 ∧ s.heap.size + 134 < s.heap.size + 127 + 7) => by omega))
  have hX2 : BX G s.heap.size (if (oK_judge b zq zd zj) = 0 then (oB_judge b zq zd zj) else b) Hx := by
    obtain ⟨lim2, dif2, hX1⟩ := hX1
    have hlt := hX1.lt
    exact ⟨lim2, dif2, hX1.kept (fun a h1 h2 => hk2 a (by omega) (fun (h : s.heap.size + 127 ≤ a ∧ a < s.heap.size + 127 + 7) => by omega))⟩
  have hI2 : bInv (if (oK_judge b zq zd zj) = 0 then (oB_judge b zq zd zj) else b) := by
    split
    · exact oI_judge hI (by assumption)
    · exact hI
  have hkr := oR_judge b zq zd zj
  have hw2 : (oK_judge b zq zd zj) = 0 → w1 0 = (zI (oV_judge b zq zd zj)).toInt64 := hw1
  have hLI : LI G s.heap.size (if (oK_judge b zq zd zj) = 0 then (oB_judge b zq zd zj) else b) s Hx locs2 := ⟨hX2, ⟨w1, hJ2⟩, hI2, ⟨_, _, _, hM2⟩, hS⟩
  generalize hkz : (oK_judge b zq zd zj) = kz at *
  generalize (if kz = 0 then (oB_judge b zq zd zj) else b) = b9 at *
  refine lv_istore (lv' := [(6, .int r), (5, .int (zI kz)), (4, .int (zI (i : Int))), (3, .ref (s.heap.size + 134)), (2, .ref (s.heap.size + 127)), (1, .ref s.heap.size), (0, .ref b0)]) hx hb dL_law_491 hl (by decide) rfl (fun ls hl => ?_)
  refine lv_aload_n hx hb dL_law_493 rfl (lv_at hl 4 rfl) ?_
  refine x_cI (va_runV (As := []) (rest := []) ⟨hx, hb, hml, hown, hts⟩ (c_X4_thrown l G (s.heap.size + 127) b9 kz ov2 un2) (cwV 0 hts gL_law_X4_thrown rfl rfl rfl (by decide +kernel) ⟨Nat.le_of_ble_eq_true rfl, Nat.le_of_ble_eq_true rfl⟩) (x_preM hM2 hI2 hK) rfl rfl hl.1 rfl (lv_room (Nat.le_of_ble_eq_true rfl)) dL_law_494 hc) ?_
  refine lv_iload hx hb dL_law_497 (lv_at hl 1 rfl) ?_
  refine lv_icmp_eq (tgt := 504) hx hb dL_law_499 (by decide) (fun _ => ?_) (fun h => absurd rfl h)
  refine lv_iload hx hb dL_law_504 (lv_at hl 1 rfl) ?_
  refine x_if_ne (tgt := 521) hx hb dL_law_506 (by decide) (by omega) (fun hn => ?_) (fun hk0 => ?_)
  · refine lv_goto (tgt := 1642) hx hb dL_law_521 (by decide) ?_
    exact kk _ _ _ _ hLI (lv_sub hl [2, 3, 4, 5, 6] rfl)
  · refine lv_aload_n hx hb dL_law_509 rfl (lv_at hl 3 rfl) ?_
    refine x_iconst hx hb dL_law_510 ?_
    refine x_lald hx hb hK hJ2 0 (by decide) (by decide) (by decide) dL_law_511 ?_
    rw [hw2 hk0]
    refine lv_iload hx hb dL_law_512 (lv_at hl 0 rfl) ?_
    refine lv_i2l hx hb dL_law_514 (congrArg Int32.toInt64 (hr6 hk0)) ?_
    refine x_lcmpS hx hb dL_law_515 ?_
    refine lv_if_eq (tgt := 521) hx hb dL_law_516 (by decide) (fun _ => ?_) (fun h => absurd rfl h)
    refine lv_goto (tgt := 1642) hx hb dL_law_521 (by decide) ?_
    exact kk _ _ _ _ hLI (lv_sub hl [2, 3, 4, 5, 6] rfl)
theorem oR_pool (b : XB) (zq zr : Int) : 0 ≤ (oK_pool b zq zr) ∧ (oK_pool b zq zr) ≤ 2 := kR_rng (Or.inl rfl)
theorem oI_pool {b : XB} {zq zr : Int} (hi : bInv b) (h : (oK_pool b zq zr) = 0) : bInv (oB_pool b zq zr) := by
  exact hi
set_option maxHeartbeats 4000000 in
set_option maxRecDepth 100000 in
theorem cs_pool {p : Program} {l : Launch} {e : Env} {s : State} {m : MethodId} {below : List Frame} {meth : Method} {c : Code} {b0 L : Nat} {xs : Nat → Int32} {G : XG} (C : CF p l s m c b0 L xs G) {Q : State → Prop} {b : XB} {H : Heap} {locs : List Loc} {cells slots : Nat} {ls : Array Slot} (i : Nat) (hi : i + 5 ≤ L) (hL : L ≤ 2560) (I : LI G s.heap.size b s H locs) (hl : lv_has ls 8 [(4, .int (zI (i : Int))), (3, .ref (s.heap.size + 134)), (2, .ref (s.heap.size + 127)), (1, .ref s.heap.size), (0, .ref b0)]) (hc : cells + 8 ≤ 601024 ∧ slots + 48 ≤ 7293034)
    (kk : ∀ (b9 : XB) (H9 : Heap) (locs9 : List Loc) (ls9 : Array Slot), LI G s.heap.size b9 s H9 locs9 → lv_has ls9 8 [(4, .int (zI (i : Int))), (3, .ref (s.heap.size + 134)), (2, .ref (s.heap.size + 127)), (1, .ref s.heap.size), (0, .ref b0)] → W p l e room_1 s m #[Value.ref b0] below meth c H9 locs9 (cells + 8) (slots + 48) Q (F0 m 1642 ls9 [])) : W p l e room_1 s m #[Value.ref b0] below meth c H locs cells slots Q (F0 m 524 ls []) := by
  obtain ⟨hx, hb, hml, hown, hts, hX, hbl, hK, hT, hN, hfl⟩ := C
  obtain ⟨hW, hJ, hI, ⟨th, ov, un, hM⟩, hS⟩ := I
  have hbA : ¬ (s.heap.size ≤ b0) := by omega
  have hMlt := hM.lt
  obtain ⟨zq, hzq, ezq⟩ := x_num (xs (i + 1))
  obtain ⟨zr, hzr, ezr⟩ := x_num (xs (i + 2))
  refine lv_aload_n hx hb dL_law_524 rfl (lv_at hl 3 rfl) ?_
  refine lv_aload_n hx hb dL_law_525 rfl (lv_at hl 4 rfl) ?_
  refine lv_iload hx hb dL_law_526 (lv_at hl 0 rfl) ?_
  refine x_iconst hx hb dL_law_528 ?_
  refine x_iadd hx hb dL_law_529 ?_
  refine x_sld hx hb hX hbl hbA hS (i + 1) (by omega) (by omega) hL ezq dL_law_530 ?_
  refine lv_aload_n hx hb dL_law_531 rfl (lv_at hl 4 rfl) ?_
  refine lv_iload hx hb dL_law_532 (lv_at hl 0 rfl) ?_
  refine x_iconst hx hb dL_law_534 ?_
  refine x_iadd hx hb dL_law_535 ?_
  refine x_sld hx hb hX hbl hbA hS (i + 2) (by omega) (by omega) hL ezr dL_law_536 ?_
  refine lv_aload_n hx hb dL_law_537 rfl (lv_at hl 1 rfl) ?_
  refine x_wI (vx_runSW (As := [.ref s.heap.size, .int (zI zq), .int (zI zr), .ref (s.heap.size + 134)]) (rest := []) ⟨hx, hb, hml, hown, hts⟩ (c_L_pool l hfl G s.heap.size (s.heap.size + 134) s.heap.size (Nat.le_refl _) (by omega) b zq hzq zr hzr) (vx_cwSW 4 hts gL_law_L_pool rfl rfl rfl (by decide +kernel) ⟨Nat.le_of_ble_eq_true rfl, Nat.le_of_ble_eq_true rfl⟩) (x_preW hW hJ hI hK hT hN hS (fun q h => h)) rfl rfl hl.1 rfl (lv_room (Nat.le_of_ble_eq_true rfl)) dL_law_538 hc) hS (fun q _ (h : xB s.heap.size (s.heap.size + 134) q) => (by rcases h with h | h <;> omega : s.heap.size ≤ q)) (fun q (h : xB s.heap.size (s.heap.size + 134) q) => (by rcases h with h | h <;> omega : s.heap.size ≤ q)) (fun H1 locs1 hP hz hk hS => ?_)
  obtain ⟨hX1, w1, hJ1, hw1⟩ := hP
  have hM1 := hM.kept (fun a h1 h2 => hk a (by omega) (fun (h : xB s.heap.size (s.heap.size + 134) a) => by rcases h with h | h <;> omega))
  refine lv_istore (lv' := [(5, .int (zI (oK_pool b zq zr))), (4, .int (zI (i : Int))), (3, .ref (s.heap.size + 134)), (2, .ref (s.heap.size + 127)), (1, .ref s.heap.size), (0, .ref b0)]) hx hb dL_law_541 hl (by decide) rfl (fun ls hl => ?_)
  refine lv_aload_n hx hb dL_law_543 rfl (lv_at hl 3 rfl) ?_
  refine lv_aload_n hx hb dL_law_544 rfl (lv_at hl 5 rfl) ?_
  refine lv_iload hx hb dL_law_545 (lv_at hl 1 rfl) ?_
  refine x_iconst hx hb dL_law_547 ?_
  refine x_iadd hx hb dL_law_548 ?_
  refine x_sld hx hb hX hbl hbA hS (i + 1) (by omega) (by omega) hL ezq dL_law_549 ?_
  refine lv_aload_n hx hb dL_law_550 rfl (lv_at hl 5 rfl) ?_
  refine lv_iload hx hb dL_law_551 (lv_at hl 1 rfl) ?_
  refine x_iconst hx hb dL_law_553 ?_
  refine x_iadd hx hb dL_law_554 ?_
  refine x_sld hx hb hX hbl hbA hS (i + 2) (by omega) (by omega) hL ezr dL_law_555 ?_
  refine va_calli (va_runV (As := [.int (zI zq), .int (zI zr)]) (rest := []) ⟨hx, hb, hml, hown, hts⟩ (c_X4_pool l G (s.heap.size + 127) b th ov un zq hzq zr hzr) (cwV 2 hts gL_law_X4_pool rfl rfl rfl (by decide +kernel) ⟨Nat.le_of_ble_eq_true rfl, Nat.le_of_ble_eq_true rfl⟩) (x_preM hM1 hI hK) rfl rfl hl.1 rfl (lv_room (Nat.le_of_ble_eq_true rfl)) dL_law_556 hc) hS (fun q _ (h : mA (s.heap.size + 127) q) => (by omega : s.heap.size ≤ q)) (fun q (h : mA (s.heap.size + 127) q) => (by omega : s.heap.size ≤ q)) (fun r u t H2 locs2 ht _ hr6 hB hz2 hk2 hS => ?_)
  obtain ⟨Hx, e1, ov2, un2, hM2⟩ := hB
  have e2 : Hx = H2 := e1.symm.trans ht
  subst e2
  replace hM2 : MW G (s.heap.size + 127) (if (oK_pool b zq zr) = 0 then (oB_pool b zq zr) else b) (oK_pool b zq zr) ov2 un2 Hx := hM2
  replace hr6 : (oK_pool b zq zr) = 0 → r = zI (oV_pool b zq zr) := hr6
  have hJ2 := hJ1.kept (hk2 _ hJ1.lt (fun (h : s.heap.size + 127 ≤ s.heap.size + 134 ∧ s.heap.size + 134 < s.heap.size + 127 + 7) => by omega))
  have hX2 : BX G s.heap.size (if (oK_pool b zq zr) = 0 then (oB_pool b zq zr) else b) Hx := by
    obtain ⟨lim2, dif2, hX1⟩ := hX1
    have hlt := hX1.lt
    exact ⟨lim2, dif2, hX1.kept (fun a h1 h2 => hk2 a (by omega) (fun (h : s.heap.size + 127 ≤ a ∧ a < s.heap.size + 127 + 7) => by omega))⟩
  have hI2 : bInv (if (oK_pool b zq zr) = 0 then (oB_pool b zq zr) else b) := by
    split
    · exact oI_pool hI (by assumption)
    · exact hI
  have hkr := oR_pool b zq zr
  have hw2 : (oK_pool b zq zr) = 0 → w1 0 = (zI (oV_pool b zq zr)).toInt64 := hw1
  have hLI : LI G s.heap.size (if (oK_pool b zq zr) = 0 then (oB_pool b zq zr) else b) s Hx locs2 := ⟨hX2, ⟨w1, hJ2⟩, hI2, ⟨_, _, _, hM2⟩, hS⟩
  generalize hkz : (oK_pool b zq zr) = kz at *
  generalize (if kz = 0 then (oB_pool b zq zr) else b) = b9 at *
  refine lv_istore (lv' := [(6, .int r), (5, .int (zI kz)), (4, .int (zI (i : Int))), (3, .ref (s.heap.size + 134)), (2, .ref (s.heap.size + 127)), (1, .ref s.heap.size), (0, .ref b0)]) hx hb dL_law_559 hl (by decide) rfl (fun ls hl => ?_)
  refine lv_aload_n hx hb dL_law_561 rfl (lv_at hl 4 rfl) ?_
  refine x_cI (va_runV (As := []) (rest := []) ⟨hx, hb, hml, hown, hts⟩ (c_X4_thrown l G (s.heap.size + 127) b9 kz ov2 un2) (cwV 0 hts gL_law_X4_thrown rfl rfl rfl (by decide +kernel) ⟨Nat.le_of_ble_eq_true rfl, Nat.le_of_ble_eq_true rfl⟩) (x_preM hM2 hI2 hK) rfl rfl hl.1 rfl (lv_room (Nat.le_of_ble_eq_true rfl)) dL_law_562 hc) ?_
  refine lv_iload hx hb dL_law_565 (lv_at hl 1 rfl) ?_
  refine lv_icmp_eq (tgt := 572) hx hb dL_law_567 (by decide) (fun _ => ?_) (fun h => absurd rfl h)
  refine lv_iload hx hb dL_law_572 (lv_at hl 1 rfl) ?_
  refine x_if_ne (tgt := 589) hx hb dL_law_574 (by decide) (by omega) (fun hn => ?_) (fun hk0 => ?_)
  · refine lv_goto (tgt := 1642) hx hb dL_law_589 (by decide) ?_
    exact kk _ _ _ _ hLI (lv_sub hl [2, 3, 4, 5, 6] rfl)
  · refine lv_aload_n hx hb dL_law_577 rfl (lv_at hl 3 rfl) ?_
    refine x_iconst hx hb dL_law_578 ?_
    refine x_lald hx hb hK hJ2 0 (by decide) (by decide) (by decide) dL_law_579 ?_
    rw [hw2 hk0]
    refine lv_iload hx hb dL_law_580 (lv_at hl 0 rfl) ?_
    refine lv_i2l hx hb dL_law_582 (congrArg Int32.toInt64 (hr6 hk0)) ?_
    refine x_lcmpS hx hb dL_law_583 ?_
    refine lv_if_eq (tgt := 589) hx hb dL_law_584 (by decide) (fun _ => ?_) (fun h => absurd rfl h)
    refine lv_goto (tgt := 1642) hx hb dL_law_589 (by decide) ?_
    exact kk _ _ _ _ hLI (lv_sub hl [2, 3, 4, 5, 6] rfl)
theorem oR_toJudge (b : XB) (zq zr : Int) : 0 ≤ (oK_toJudge b zq zr) ∧ (oK_toJudge b zq zr) ≤ 2 := kR_rng (Or.inl rfl)
theorem oI_toJudge {b : XB} {zq zr : Int} (hi : bInv b) (h : (oK_toJudge b zq zr) = 0) : bInv (oB_toJudge b zq zr) := by
  exact hi
set_option maxHeartbeats 4000000 in
set_option maxRecDepth 100000 in
theorem cs_toJudge {p : Program} {l : Launch} {e : Env} {s : State} {m : MethodId} {below : List Frame} {meth : Method} {c : Code} {b0 L : Nat} {xs : Nat → Int32} {G : XG} (C : CF p l s m c b0 L xs G) {Q : State → Prop} {b : XB} {H : Heap} {locs : List Loc} {cells slots : Nat} {ls : Array Slot} (i : Nat) (hi : i + 5 ≤ L) (hL : L ≤ 2560) (I : LI G s.heap.size b s H locs) (hl : lv_has ls 8 [(4, .int (zI (i : Int))), (3, .ref (s.heap.size + 134)), (2, .ref (s.heap.size + 127)), (1, .ref s.heap.size), (0, .ref b0)]) (hc : cells + 8 ≤ 601024 ∧ slots + 48 ≤ 7293034)
    (kk : ∀ (b9 : XB) (H9 : Heap) (locs9 : List Loc) (ls9 : Array Slot), LI G s.heap.size b9 s H9 locs9 → lv_has ls9 8 [(4, .int (zI (i : Int))), (3, .ref (s.heap.size + 134)), (2, .ref (s.heap.size + 127)), (1, .ref s.heap.size), (0, .ref b0)] → W p l e room_1 s m #[Value.ref b0] below meth c H9 locs9 (cells + 8) (slots + 48) Q (F0 m 1642 ls9 [])) : W p l e room_1 s m #[Value.ref b0] below meth c H locs cells slots Q (F0 m 592 ls []) := by
  obtain ⟨hx, hb, hml, hown, hts, hX, hbl, hK, hT, hN, hfl⟩ := C
  obtain ⟨hW, hJ, hI, ⟨th, ov, un, hM⟩, hS⟩ := I
  have hbA : ¬ (s.heap.size ≤ b0) := by omega
  have hMlt := hM.lt
  obtain ⟨zq, hzq, ezq⟩ := x_num (xs (i + 1))
  obtain ⟨zr, hzr, ezr⟩ := x_num (xs (i + 2))
  refine lv_aload_n hx hb dL_law_592 rfl (lv_at hl 3 rfl) ?_
  refine lv_aload_n hx hb dL_law_593 rfl (lv_at hl 4 rfl) ?_
  refine lv_iload hx hb dL_law_594 (lv_at hl 0 rfl) ?_
  refine x_iconst hx hb dL_law_596 ?_
  refine x_iadd hx hb dL_law_597 ?_
  refine x_sld hx hb hX hbl hbA hS (i + 1) (by omega) (by omega) hL ezq dL_law_598 ?_
  refine lv_aload_n hx hb dL_law_599 rfl (lv_at hl 4 rfl) ?_
  refine lv_iload hx hb dL_law_600 (lv_at hl 0 rfl) ?_
  refine x_iconst hx hb dL_law_602 ?_
  refine x_iadd hx hb dL_law_603 ?_
  refine x_sld hx hb hX hbl hbA hS (i + 2) (by omega) (by omega) hL ezr dL_law_604 ?_
  refine lv_aload_n hx hb dL_law_605 rfl (lv_at hl 1 rfl) ?_
  refine x_wI (vx_runSW (As := [.ref s.heap.size, .int (zI zq), .int (zI zr), .ref (s.heap.size + 134)]) (rest := []) ⟨hx, hb, hml, hown, hts⟩ (c_L_toJudge l hfl G s.heap.size (s.heap.size + 134) s.heap.size (Nat.le_refl _) (by omega) b zq hzq zr hzr) (vx_cwSW 4 hts gL_law_L_toJudge rfl rfl rfl (by decide +kernel) ⟨Nat.le_of_ble_eq_true rfl, Nat.le_of_ble_eq_true rfl⟩) (x_preW hW hJ hI hK hT hN hS (fun q h => h)) rfl rfl hl.1 rfl (lv_room (Nat.le_of_ble_eq_true rfl)) dL_law_606 hc) hS (fun q _ (h : xB s.heap.size (s.heap.size + 134) q) => (by rcases h with h | h <;> omega : s.heap.size ≤ q)) (fun q (h : xB s.heap.size (s.heap.size + 134) q) => (by rcases h with h | h <;> omega : s.heap.size ≤ q)) (fun H1 locs1 hP hz hk hS => ?_)
  obtain ⟨hX1, w1, hJ1, hw1⟩ := hP
  have hM1 := hM.kept (fun a h1 h2 => hk a (by omega) (fun (h : xB s.heap.size (s.heap.size + 134) a) => by rcases h with h | h <;> omega))
  refine lv_istore (lv' := [(5, .int (zI (oK_toJudge b zq zr))), (4, .int (zI (i : Int))), (3, .ref (s.heap.size + 134)), (2, .ref (s.heap.size + 127)), (1, .ref s.heap.size), (0, .ref b0)]) hx hb dL_law_609 hl (by decide) rfl (fun ls hl => ?_)
  refine lv_aload_n hx hb dL_law_611 rfl (lv_at hl 3 rfl) ?_
  refine lv_aload_n hx hb dL_law_612 rfl (lv_at hl 5 rfl) ?_
  refine lv_iload hx hb dL_law_613 (lv_at hl 1 rfl) ?_
  refine x_iconst hx hb dL_law_615 ?_
  refine x_iadd hx hb dL_law_616 ?_
  refine x_sld hx hb hX hbl hbA hS (i + 1) (by omega) (by omega) hL ezq dL_law_617 ?_
  refine lv_aload_n hx hb dL_law_618 rfl (lv_at hl 5 rfl) ?_
  refine lv_iload hx hb dL_law_619 (lv_at hl 1 rfl) ?_
  refine x_iconst hx hb dL_law_621 ?_
  refine x_iadd hx hb dL_law_622 ?_
  refine x_sld hx hb hX hbl hbA hS (i + 2) (by omega) (by omega) hL ezr dL_law_623 ?_
  refine va_calli (va_runV (As := [.int (zI zq), .int (zI zr)]) (rest := []) ⟨hx, hb, hml, hown, hts⟩ (c_X4_toJudge l G (s.heap.size + 127) b th ov un zq hzq zr hzr) (cwV 2 hts gL_law_X4_toJudge rfl rfl rfl (by decide +kernel) ⟨Nat.le_of_ble_eq_true rfl, Nat.le_of_ble_eq_true rfl⟩) (x_preM hM1 hI hK) rfl rfl hl.1 rfl (lv_room (Nat.le_of_ble_eq_true rfl)) dL_law_624 hc) hS (fun q _ (h : mA (s.heap.size + 127) q) => (by omega : s.heap.size ≤ q)) (fun q (h : mA (s.heap.size + 127) q) => (by omega : s.heap.size ≤ q)) (fun r u t H2 locs2 ht _ hr6 hB hz2 hk2 hS => ?_)
  obtain ⟨Hx, e1, ov2, un2, hM2⟩ := hB
  have e2 : Hx = H2 := e1.symm.trans ht
  subst e2
  replace hM2 : MW G (s.heap.size + 127) (if (oK_toJudge b zq zr) = 0 then (oB_toJudge b zq zr) else b) (oK_toJudge b zq zr) ov2 un2 Hx := hM2
  replace hr6 : (oK_toJudge b zq zr) = 0 → r = zI (oV_toJudge b zq zr) := hr6
  have hJ2 := hJ1.kept (hk2 _ hJ1.lt (fun (h : s.heap.size + 127 ≤ s.heap.size + 134 ∧ s.heap.size + 134 < s.heap.size + 127 + 7) => by omega))
  have hX2 : BX G s.heap.size (if (oK_toJudge b zq zr) = 0 then (oB_toJudge b zq zr) else b) Hx := by
    obtain ⟨lim2, dif2, hX1⟩ := hX1
    have hlt := hX1.lt
    exact ⟨lim2, dif2, hX1.kept (fun a h1 h2 => hk2 a (by omega) (fun (h : s.heap.size + 127 ≤ a ∧ a < s.heap.size + 127 + 7) => by omega))⟩
  have hI2 : bInv (if (oK_toJudge b zq zr) = 0 then (oB_toJudge b zq zr) else b) := by
    split
    · exact oI_toJudge hI (by assumption)
    · exact hI
  have hkr := oR_toJudge b zq zr
  have hw2 : (oK_toJudge b zq zr) = 0 → w1 0 = (zI (oV_toJudge b zq zr)).toInt64 := hw1
  have hLI : LI G s.heap.size (if (oK_toJudge b zq zr) = 0 then (oB_toJudge b zq zr) else b) s Hx locs2 := ⟨hX2, ⟨w1, hJ2⟩, hI2, ⟨_, _, _, hM2⟩, hS⟩
  generalize hkz : (oK_toJudge b zq zr) = kz at *
  generalize (if kz = 0 then (oB_toJudge b zq zr) else b) = b9 at *
  refine lv_istore (lv' := [(6, .int r), (5, .int (zI kz)), (4, .int (zI (i : Int))), (3, .ref (s.heap.size + 134)), (2, .ref (s.heap.size + 127)), (1, .ref s.heap.size), (0, .ref b0)]) hx hb dL_law_627 hl (by decide) rfl (fun ls hl => ?_)
  refine lv_aload_n hx hb dL_law_629 rfl (lv_at hl 4 rfl) ?_
  refine x_cI (va_runV (As := []) (rest := []) ⟨hx, hb, hml, hown, hts⟩ (c_X4_thrown l G (s.heap.size + 127) b9 kz ov2 un2) (cwV 0 hts gL_law_X4_thrown rfl rfl rfl (by decide +kernel) ⟨Nat.le_of_ble_eq_true rfl, Nat.le_of_ble_eq_true rfl⟩) (x_preM hM2 hI2 hK) rfl rfl hl.1 rfl (lv_room (Nat.le_of_ble_eq_true rfl)) dL_law_630 hc) ?_
  refine lv_iload hx hb dL_law_633 (lv_at hl 1 rfl) ?_
  refine lv_icmp_eq (tgt := 640) hx hb dL_law_635 (by decide) (fun _ => ?_) (fun h => absurd rfl h)
  refine lv_iload hx hb dL_law_640 (lv_at hl 1 rfl) ?_
  refine x_if_ne (tgt := 657) hx hb dL_law_642 (by decide) (by omega) (fun hn => ?_) (fun hk0 => ?_)
  · refine lv_goto (tgt := 1642) hx hb dL_law_657 (by decide) ?_
    exact kk _ _ _ _ hLI (lv_sub hl [2, 3, 4, 5, 6] rfl)
  · refine lv_aload_n hx hb dL_law_645 rfl (lv_at hl 3 rfl) ?_
    refine x_iconst hx hb dL_law_646 ?_
    refine x_lald hx hb hK hJ2 0 (by decide) (by decide) (by decide) dL_law_647 ?_
    rw [hw2 hk0]
    refine lv_iload hx hb dL_law_648 (lv_at hl 0 rfl) ?_
    refine lv_i2l hx hb dL_law_650 (congrArg Int32.toInt64 (hr6 hk0)) ?_
    refine x_lcmpS hx hb dL_law_651 ?_
    refine lv_if_eq (tgt := 657) hx hb dL_law_652 (by decide) (fun _ => ?_) (fun h => absurd rfl h)
    refine lv_goto (tgt := 1642) hx hb dL_law_657 (by decide) ?_
    exact kk _ _ _ _ hLI (lv_sub hl [2, 3, 4, 5, 6] rfl)
theorem oR_hits (b : XB) (zs zq zr : Int) : 0 ≤ (oK_hits b zs zq zr) ∧ (oK_hits b zs zq zr) ≤ 2 := kR_rng (Or.inl rfl)
theorem oI_hits {b : XB} {zs zq zr : Int} (hi : bInv b) (h : (oK_hits b zs zq zr) = 0) : bInv (oB_hits b zs zq zr) := by
  exact hi
set_option maxHeartbeats 4000000 in
set_option maxRecDepth 100000 in
theorem cs_hits {p : Program} {l : Launch} {e : Env} {s : State} {m : MethodId} {below : List Frame} {meth : Method} {c : Code} {b0 L : Nat} {xs : Nat → Int32} {G : XG} (C : CF p l s m c b0 L xs G) {Q : State → Prop} {b : XB} {H : Heap} {locs : List Loc} {cells slots : Nat} {ls : Array Slot} (i : Nat) (hi : i + 5 ≤ L) (hL : L ≤ 2560) (I : LI G s.heap.size b s H locs) (hl : lv_has ls 8 [(4, .int (zI (i : Int))), (3, .ref (s.heap.size + 134)), (2, .ref (s.heap.size + 127)), (1, .ref s.heap.size), (0, .ref b0)]) (hc : cells + 8 ≤ 601024 ∧ slots + 48 ≤ 7293034)
    (kk : ∀ (b9 : XB) (H9 : Heap) (locs9 : List Loc) (ls9 : Array Slot), LI G s.heap.size b9 s H9 locs9 → lv_has ls9 8 [(4, .int (zI (i : Int))), (3, .ref (s.heap.size + 134)), (2, .ref (s.heap.size + 127)), (1, .ref s.heap.size), (0, .ref b0)] → W p l e room_1 s m #[Value.ref b0] below meth c H9 locs9 (cells + 8) (slots + 48) Q (F0 m 1642 ls9 [])) : W p l e room_1 s m #[Value.ref b0] below meth c H locs cells slots Q (F0 m 660 ls []) := by
  obtain ⟨hx, hb, hml, hown, hts, hX, hbl, hK, hT, hN, hfl⟩ := C
  obtain ⟨hW, hJ, hI, ⟨th, ov, un, hM⟩, hS⟩ := I
  have hbA : ¬ (s.heap.size ≤ b0) := by omega
  have hMlt := hM.lt
  obtain ⟨zs, hzs, ezs⟩ := x_num (xs (i + 1))
  obtain ⟨zq, hzq, ezq⟩ := x_num (xs (i + 2))
  obtain ⟨zr, hzr, ezr⟩ := x_num (xs (i + 3))
  refine lv_aload_n hx hb dL_law_660 rfl (lv_at hl 3 rfl) ?_
  refine lv_aload_n hx hb dL_law_661 rfl (lv_at hl 4 rfl) ?_
  refine lv_iload hx hb dL_law_662 (lv_at hl 0 rfl) ?_
  refine x_iconst hx hb dL_law_664 ?_
  refine x_iadd hx hb dL_law_665 ?_
  refine x_sld hx hb hX hbl hbA hS (i + 1) (by omega) (by omega) hL ezs dL_law_666 ?_
  refine lv_aload_n hx hb dL_law_667 rfl (lv_at hl 4 rfl) ?_
  refine lv_iload hx hb dL_law_668 (lv_at hl 0 rfl) ?_
  refine x_iconst hx hb dL_law_670 ?_
  refine x_iadd hx hb dL_law_671 ?_
  refine x_sld hx hb hX hbl hbA hS (i + 2) (by omega) (by omega) hL ezq dL_law_672 ?_
  refine lv_aload_n hx hb dL_law_673 rfl (lv_at hl 4 rfl) ?_
  refine lv_iload hx hb dL_law_674 (lv_at hl 0 rfl) ?_
  refine x_iconst hx hb dL_law_676 ?_
  refine x_iadd hx hb dL_law_677 ?_
  refine x_sld hx hb hX hbl hbA hS (i + 3) (by omega) (by omega) hL ezr dL_law_678 ?_
  refine lv_aload_n hx hb dL_law_679 rfl (lv_at hl 1 rfl) ?_
  refine x_wI (vx_runSW (As := [.ref s.heap.size, .int (zI zs), .int (zI zq), .int (zI zr), .ref (s.heap.size + 134)]) (rest := []) ⟨hx, hb, hml, hown, hts⟩ (c_L_hits l hfl G s.heap.size (s.heap.size + 134) s.heap.size (Nat.le_refl _) (by omega) b zs hzs zq hzq zr hzr) (vx_cwSW 5 hts gL_law_L_hits rfl rfl rfl (by decide +kernel) ⟨Nat.le_of_ble_eq_true rfl, Nat.le_of_ble_eq_true rfl⟩) (x_preW hW hJ hI hK hT hN hS (fun q h => h)) rfl rfl hl.1 rfl (lv_room (Nat.le_of_ble_eq_true rfl)) dL_law_680 hc) hS (fun q _ (h : xB s.heap.size (s.heap.size + 134) q) => (by rcases h with h | h <;> omega : s.heap.size ≤ q)) (fun q (h : xB s.heap.size (s.heap.size + 134) q) => (by rcases h with h | h <;> omega : s.heap.size ≤ q)) (fun H1 locs1 hP hz hk hS => ?_)
  obtain ⟨hX1, w1, hJ1, hw1⟩ := hP
  have hM1 := hM.kept (fun a h1 h2 => hk a (by omega) (fun (h : xB s.heap.size (s.heap.size + 134) a) => by rcases h with h | h <;> omega))
  refine lv_istore (lv' := [(5, .int (zI (oK_hits b zs zq zr))), (4, .int (zI (i : Int))), (3, .ref (s.heap.size + 134)), (2, .ref (s.heap.size + 127)), (1, .ref s.heap.size), (0, .ref b0)]) hx hb dL_law_683 hl (by decide) rfl (fun ls hl => ?_)
  refine lv_aload_n hx hb dL_law_685 rfl (lv_at hl 3 rfl) ?_
  refine lv_aload_n hx hb dL_law_686 rfl (lv_at hl 5 rfl) ?_
  refine lv_iload hx hb dL_law_687 (lv_at hl 1 rfl) ?_
  refine x_iconst hx hb dL_law_689 ?_
  refine x_iadd hx hb dL_law_690 ?_
  refine x_sld hx hb hX hbl hbA hS (i + 1) (by omega) (by omega) hL ezs dL_law_691 ?_
  refine lv_aload_n hx hb dL_law_692 rfl (lv_at hl 5 rfl) ?_
  refine lv_iload hx hb dL_law_693 (lv_at hl 1 rfl) ?_
  refine x_iconst hx hb dL_law_695 ?_
  refine x_iadd hx hb dL_law_696 ?_
  refine x_sld hx hb hX hbl hbA hS (i + 2) (by omega) (by omega) hL ezq dL_law_697 ?_
  refine lv_aload_n hx hb dL_law_698 rfl (lv_at hl 5 rfl) ?_
  refine lv_iload hx hb dL_law_699 (lv_at hl 1 rfl) ?_
  refine x_iconst hx hb dL_law_701 ?_
  refine x_iadd hx hb dL_law_702 ?_
  refine x_sld hx hb hX hbl hbA hS (i + 3) (by omega) (by omega) hL ezr dL_law_703 ?_
  refine va_calli (va_runV (As := [.int (zI zs), .int (zI zq), .int (zI zr)]) (rest := []) ⟨hx, hb, hml, hown, hts⟩ (c_X4_hits l G (s.heap.size + 127) b th ov un zs hzs zq hzq zr hzr) (cwV 3 hts gL_law_X4_hits rfl rfl rfl (by decide +kernel) ⟨Nat.le_of_ble_eq_true rfl, Nat.le_of_ble_eq_true rfl⟩) (x_preM hM1 hI hK) rfl rfl hl.1 rfl (lv_room (Nat.le_of_ble_eq_true rfl)) dL_law_704 hc) hS (fun q _ (h : mA (s.heap.size + 127) q) => (by omega : s.heap.size ≤ q)) (fun q (h : mA (s.heap.size + 127) q) => (by omega : s.heap.size ≤ q)) (fun r u t H2 locs2 ht _ hr6 hB hz2 hk2 hS => ?_)
  obtain ⟨Hx, e1, ov2, un2, hM2⟩ := hB
  have e2 : Hx = H2 := e1.symm.trans ht
  subst e2
  replace hM2 : MW G (s.heap.size + 127) (if (oK_hits b zs zq zr) = 0 then (oB_hits b zs zq zr) else b) (oK_hits b zs zq zr) ov2 un2 Hx := hM2
  replace hr6 : (oK_hits b zs zq zr) = 0 → r = zI (oV_hits b zs zq zr) := hr6
  have hJ2 := hJ1.kept (hk2 _ hJ1.lt (fun (h : s.heap.size + 127 ≤ s.heap.size + 134 ∧ s.heap.size + 134 < s.heap.size + 127 + 7) => by omega))
  have hX2 : BX G s.heap.size (if (oK_hits b zs zq zr) = 0 then (oB_hits b zs zq zr) else b) Hx := by
    obtain ⟨lim2, dif2, hX1⟩ := hX1
    have hlt := hX1.lt
    exact ⟨lim2, dif2, hX1.kept (fun a h1 h2 => hk2 a (by omega) (fun (h : s.heap.size + 127 ≤ a ∧ a < s.heap.size + 127 + 7) => by omega))⟩
  have hI2 : bInv (if (oK_hits b zs zq zr) = 0 then (oB_hits b zs zq zr) else b) := by
    split
    · exact oI_hits hI (by assumption)
    · exact hI
  have hkr := oR_hits b zs zq zr
  have hw2 : (oK_hits b zs zq zr) = 0 → w1 0 = (zI (oV_hits b zs zq zr)).toInt64 := hw1
  have hLI : LI G s.heap.size (if (oK_hits b zs zq zr) = 0 then (oB_hits b zs zq zr) else b) s Hx locs2 := ⟨hX2, ⟨w1, hJ2⟩, hI2, ⟨_, _, _, hM2⟩, hS⟩
  generalize hkz : (oK_hits b zs zq zr) = kz at *
  generalize (if kz = 0 then (oB_hits b zs zq zr) else b) = b9 at *
  refine lv_istore (lv' := [(6, .int r), (5, .int (zI kz)), (4, .int (zI (i : Int))), (3, .ref (s.heap.size + 134)), (2, .ref (s.heap.size + 127)), (1, .ref s.heap.size), (0, .ref b0)]) hx hb dL_law_707 hl (by decide) rfl (fun ls hl => ?_)
  refine lv_aload_n hx hb dL_law_709 rfl (lv_at hl 4 rfl) ?_
  refine x_cI (va_runV (As := []) (rest := []) ⟨hx, hb, hml, hown, hts⟩ (c_X4_thrown l G (s.heap.size + 127) b9 kz ov2 un2) (cwV 0 hts gL_law_X4_thrown rfl rfl rfl (by decide +kernel) ⟨Nat.le_of_ble_eq_true rfl, Nat.le_of_ble_eq_true rfl⟩) (x_preM hM2 hI2 hK) rfl rfl hl.1 rfl (lv_room (Nat.le_of_ble_eq_true rfl)) dL_law_710 hc) ?_
  refine lv_iload hx hb dL_law_713 (lv_at hl 1 rfl) ?_
  refine lv_icmp_eq (tgt := 720) hx hb dL_law_715 (by decide) (fun _ => ?_) (fun h => absurd rfl h)
  refine lv_iload hx hb dL_law_720 (lv_at hl 1 rfl) ?_
  refine x_if_ne (tgt := 737) hx hb dL_law_722 (by decide) (by omega) (fun hn => ?_) (fun hk0 => ?_)
  · refine lv_goto (tgt := 1642) hx hb dL_law_737 (by decide) ?_
    exact kk _ _ _ _ hLI (lv_sub hl [2, 3, 4, 5, 6] rfl)
  · refine lv_aload_n hx hb dL_law_725 rfl (lv_at hl 3 rfl) ?_
    refine x_iconst hx hb dL_law_726 ?_
    refine x_lald hx hb hK hJ2 0 (by decide) (by decide) (by decide) dL_law_727 ?_
    rw [hw2 hk0]
    refine lv_iload hx hb dL_law_728 (lv_at hl 0 rfl) ?_
    refine lv_i2l hx hb dL_law_730 (congrArg Int32.toInt64 (hr6 hk0)) ?_
    refine x_lcmpS hx hb dL_law_731 ?_
    refine lv_if_eq (tgt := 737) hx hb dL_law_732 (by decide) (fun _ => ?_) (fun h => absurd rfl h)
    refine lv_goto (tgt := 1642) hx hb dL_law_737 (by decide) ?_
    exact kk _ _ _ _ hLI (lv_sub hl [2, 3, 4, 5, 6] rfl)
theorem oR_precisionNumerator (b : XB) (zs zq zr : Int) : 0 ≤ (oK_precisionNumerator b zs zq zr) ∧ (oK_precisionNumerator b zs zq zr) ≤ 2 := kR_rng (Or.inl rfl)
theorem oI_precisionNumerator {b : XB} {zs zq zr : Int} (hi : bInv b) (h : (oK_precisionNumerator b zs zq zr) = 0) : bInv (oB_precisionNumerator b zs zq zr) := by
  exact hi
set_option maxHeartbeats 4000000 in
set_option maxRecDepth 100000 in
theorem cs_precisionNumerator {p : Program} {l : Launch} {e : Env} {s : State} {m : MethodId} {below : List Frame} {meth : Method} {c : Code} {b0 L : Nat} {xs : Nat → Int32} {G : XG} (C : CF p l s m c b0 L xs G) {Q : State → Prop} {b : XB} {H : Heap} {locs : List Loc} {cells slots : Nat} {ls : Array Slot} (i : Nat) (hi : i + 5 ≤ L) (hL : L ≤ 2560) (I : LI G s.heap.size b s H locs) (hl : lv_has ls 8 [(4, .int (zI (i : Int))), (3, .ref (s.heap.size + 134)), (2, .ref (s.heap.size + 127)), (1, .ref s.heap.size), (0, .ref b0)]) (hc : cells + 8 ≤ 601024 ∧ slots + 48 ≤ 7293034)
    (kk : ∀ (b9 : XB) (H9 : Heap) (locs9 : List Loc) (ls9 : Array Slot), LI G s.heap.size b9 s H9 locs9 → lv_has ls9 8 [(4, .int (zI (i : Int))), (3, .ref (s.heap.size + 134)), (2, .ref (s.heap.size + 127)), (1, .ref s.heap.size), (0, .ref b0)] → W p l e room_1 s m #[Value.ref b0] below meth c H9 locs9 (cells + 8) (slots + 48) Q (F0 m 1642 ls9 [])) : W p l e room_1 s m #[Value.ref b0] below meth c H locs cells slots Q (F0 m 740 ls []) := by
  obtain ⟨hx, hb, hml, hown, hts, hX, hbl, hK, hT, hN, hfl⟩ := C
  obtain ⟨hW, hJ, hI, ⟨th, ov, un, hM⟩, hS⟩ := I
  have hbA : ¬ (s.heap.size ≤ b0) := by omega
  have hMlt := hM.lt
  obtain ⟨zs, hzs, ezs⟩ := x_num (xs (i + 1))
  obtain ⟨zq, hzq, ezq⟩ := x_num (xs (i + 2))
  obtain ⟨zr, hzr, ezr⟩ := x_num (xs (i + 3))
  refine lv_aload_n hx hb dL_law_740 rfl (lv_at hl 3 rfl) ?_
  refine lv_aload_n hx hb dL_law_741 rfl (lv_at hl 4 rfl) ?_
  refine lv_iload hx hb dL_law_742 (lv_at hl 0 rfl) ?_
  refine x_iconst hx hb dL_law_744 ?_
  refine x_iadd hx hb dL_law_745 ?_
  refine x_sld hx hb hX hbl hbA hS (i + 1) (by omega) (by omega) hL ezs dL_law_746 ?_
  refine lv_aload_n hx hb dL_law_747 rfl (lv_at hl 4 rfl) ?_
  refine lv_iload hx hb dL_law_748 (lv_at hl 0 rfl) ?_
  refine x_iconst hx hb dL_law_750 ?_
  refine x_iadd hx hb dL_law_751 ?_
  refine x_sld hx hb hX hbl hbA hS (i + 2) (by omega) (by omega) hL ezq dL_law_752 ?_
  refine lv_aload_n hx hb dL_law_753 rfl (lv_at hl 4 rfl) ?_
  refine lv_iload hx hb dL_law_754 (lv_at hl 0 rfl) ?_
  refine x_iconst hx hb dL_law_756 ?_
  refine x_iadd hx hb dL_law_757 ?_
  refine x_sld hx hb hX hbl hbA hS (i + 3) (by omega) (by omega) hL ezr dL_law_758 ?_
  refine lv_aload_n hx hb dL_law_759 rfl (lv_at hl 1 rfl) ?_
  refine x_wI (vx_runSW (As := [.ref s.heap.size, .int (zI zs), .int (zI zq), .int (zI zr), .ref (s.heap.size + 134)]) (rest := []) ⟨hx, hb, hml, hown, hts⟩ (c_L_precisionNumerator l hfl G s.heap.size (s.heap.size + 134) s.heap.size (Nat.le_refl _) (by omega) b zs hzs zq hzq zr hzr) (vx_cwSW 5 hts gL_law_L_precisionNumerator rfl rfl rfl (by decide +kernel) ⟨Nat.le_of_ble_eq_true rfl, Nat.le_of_ble_eq_true rfl⟩) (x_preW hW hJ hI hK hT hN hS (fun q h => h)) rfl rfl hl.1 rfl (lv_room (Nat.le_of_ble_eq_true rfl)) dL_law_760 hc) hS (fun q _ (h : xB s.heap.size (s.heap.size + 134) q) => (by rcases h with h | h <;> omega : s.heap.size ≤ q)) (fun q (h : xB s.heap.size (s.heap.size + 134) q) => (by rcases h with h | h <;> omega : s.heap.size ≤ q)) (fun H1 locs1 hP hz hk hS => ?_)
  obtain ⟨hX1, w1, hJ1, hw1⟩ := hP
  have hM1 := hM.kept (fun a h1 h2 => hk a (by omega) (fun (h : xB s.heap.size (s.heap.size + 134) a) => by rcases h with h | h <;> omega))
  refine lv_istore (lv' := [(5, .int (zI (oK_precisionNumerator b zs zq zr))), (4, .int (zI (i : Int))), (3, .ref (s.heap.size + 134)), (2, .ref (s.heap.size + 127)), (1, .ref s.heap.size), (0, .ref b0)]) hx hb dL_law_763 hl (by decide) rfl (fun ls hl => ?_)
  refine lv_aload_n hx hb dL_law_765 rfl (lv_at hl 3 rfl) ?_
  refine lv_aload_n hx hb dL_law_766 rfl (lv_at hl 5 rfl) ?_
  refine lv_iload hx hb dL_law_767 (lv_at hl 1 rfl) ?_
  refine x_iconst hx hb dL_law_769 ?_
  refine x_iadd hx hb dL_law_770 ?_
  refine x_sld hx hb hX hbl hbA hS (i + 1) (by omega) (by omega) hL ezs dL_law_771 ?_
  refine lv_aload_n hx hb dL_law_772 rfl (lv_at hl 5 rfl) ?_
  refine lv_iload hx hb dL_law_773 (lv_at hl 1 rfl) ?_
  refine x_iconst hx hb dL_law_775 ?_
  refine x_iadd hx hb dL_law_776 ?_
  refine x_sld hx hb hX hbl hbA hS (i + 2) (by omega) (by omega) hL ezq dL_law_777 ?_
  refine lv_aload_n hx hb dL_law_778 rfl (lv_at hl 5 rfl) ?_
  refine lv_iload hx hb dL_law_779 (lv_at hl 1 rfl) ?_
  refine x_iconst hx hb dL_law_781 ?_
  refine x_iadd hx hb dL_law_782 ?_
  refine x_sld hx hb hX hbl hbA hS (i + 3) (by omega) (by omega) hL ezr dL_law_783 ?_
  refine va_calll (va_runV (As := [.int (zI zs), .int (zI zq), .int (zI zr)]) (rest := []) ⟨hx, hb, hml, hown, hts⟩ (c_X4_precisionNumerator l G (s.heap.size + 127) b th ov un zs hzs zq hzq zr hzr) (cwV 3 hts gL_law_X4_precisionNumerator rfl rfl rfl (by decide +kernel) ⟨Nat.le_of_ble_eq_true rfl, Nat.le_of_ble_eq_true rfl⟩) (x_preM hM1 hI hK) rfl rfl hl.1 rfl (lv_room (Nat.le_of_ble_eq_true rfl)) dL_law_784 hc) hS (fun q _ (h : mA (s.heap.size + 127) q) => (by omega : s.heap.size ≤ q)) (fun q (h : mA (s.heap.size + 127) q) => (by omega : s.heap.size ≤ q)) (fun r u t H2 locs2 ht _ hr6 hB hz2 hk2 hS => ?_)
  obtain ⟨Hx, e1, ov2, un2, hM2⟩ := hB
  have e2 : Hx = H2 := e1.symm.trans ht
  subst e2
  replace hM2 : MW G (s.heap.size + 127) (if (oK_precisionNumerator b zs zq zr) = 0 then (oB_precisionNumerator b zs zq zr) else b) (oK_precisionNumerator b zs zq zr) ov2 un2 Hx := hM2
  replace hr6 : (oK_precisionNumerator b zs zq zr) = 0 → r = lI (oV_precisionNumerator b zs zq zr) := hr6
  have hJ2 := hJ1.kept (hk2 _ hJ1.lt (fun (h : s.heap.size + 127 ≤ s.heap.size + 134 ∧ s.heap.size + 134 < s.heap.size + 127 + 7) => by omega))
  have hX2 : BX G s.heap.size (if (oK_precisionNumerator b zs zq zr) = 0 then (oB_precisionNumerator b zs zq zr) else b) Hx := by
    obtain ⟨lim2, dif2, hX1⟩ := hX1
    have hlt := hX1.lt
    exact ⟨lim2, dif2, hX1.kept (fun a h1 h2 => hk2 a (by omega) (fun (h : s.heap.size + 127 ≤ a ∧ a < s.heap.size + 127 + 7) => by omega))⟩
  have hI2 : bInv (if (oK_precisionNumerator b zs zq zr) = 0 then (oB_precisionNumerator b zs zq zr) else b) := by
    split
    · exact oI_precisionNumerator hI (by assumption)
    · exact hI
  have hkr := oR_precisionNumerator b zs zq zr
  have hw2 : (oK_precisionNumerator b zs zq zr) = 0 → w1 0 = lI (oV_precisionNumerator b zs zq zr) := hw1
  have hLI : LI G s.heap.size (if (oK_precisionNumerator b zs zq zr) = 0 then (oB_precisionNumerator b zs zq zr) else b) s Hx locs2 := ⟨hX2, ⟨w1, hJ2⟩, hI2, ⟨_, _, _, hM2⟩, hS⟩
  generalize hkz : (oK_precisionNumerator b zs zq zr) = kz at *
  generalize (if kz = 0 then (oB_precisionNumerator b zs zq zr) else b) = b9 at *
  refine lv_lstore (lv' := [(6, .long r), (5, .int (zI kz)), (4, .int (zI (i : Int))), (3, .ref (s.heap.size + 134)), (2, .ref (s.heap.size + 127)), (1, .ref s.heap.size), (0, .ref b0)]) hx hb dL_law_787 hl (by decide) rfl (fun ls hl => ?_)
  refine lv_aload_n hx hb dL_law_789 rfl (lv_at hl 4 rfl) ?_
  refine x_cI (va_runV (As := []) (rest := []) ⟨hx, hb, hml, hown, hts⟩ (c_X4_thrown l G (s.heap.size + 127) b9 kz ov2 un2) (cwV 0 hts gL_law_X4_thrown rfl rfl rfl (by decide +kernel) ⟨Nat.le_of_ble_eq_true rfl, Nat.le_of_ble_eq_true rfl⟩) (x_preM hM2 hI2 hK) rfl rfl hl.1 rfl (lv_room (Nat.le_of_ble_eq_true rfl)) dL_law_790 hc) ?_
  refine lv_iload hx hb dL_law_793 (lv_at hl 1 rfl) ?_
  refine lv_icmp_eq (tgt := 800) hx hb dL_law_795 (by decide) (fun _ => ?_) (fun h => absurd rfl h)
  refine lv_iload hx hb dL_law_800 (lv_at hl 1 rfl) ?_
  refine x_if_ne (tgt := 816) hx hb dL_law_802 (by decide) (by omega) (fun hn => ?_) (fun hk0 => ?_)
  · refine lv_goto (tgt := 1642) hx hb dL_law_816 (by decide) ?_
    exact kk _ _ _ _ hLI (lv_sub hl [2, 3, 4, 5, 6] rfl)
  · refine lv_aload_n hx hb dL_law_805 rfl (lv_at hl 3 rfl) ?_
    refine x_iconst hx hb dL_law_806 ?_
    refine x_lald hx hb hK hJ2 0 (by decide) (by decide) (by decide) dL_law_807 ?_
    rw [hw2 hk0]
    refine lv_lload hx hb dL_law_808 (lv_at hl 0 rfl) ?_
    rw [hr6 hk0]
    refine x_lcmpS hx hb dL_law_810 ?_
    refine lv_if_eq (tgt := 816) hx hb dL_law_811 (by decide) (fun _ => ?_) (fun h => absurd rfl h)
    refine lv_goto (tgt := 1642) hx hb dL_law_816 (by decide) ?_
    exact kk _ _ _ _ hLI (lv_sub hl [2, 3, 4, 5, 6] rfl)
theorem oR_precisionDenominator (b : XB) (zs zq zr : Int) : 0 ≤ (oK_precisionDenominator b zs zq zr) ∧ (oK_precisionDenominator b zs zq zr) ≤ 2 := kR_rng (Or.inl rfl)
theorem oI_precisionDenominator {b : XB} {zs zq zr : Int} (hi : bInv b) (h : (oK_precisionDenominator b zs zq zr) = 0) : bInv (oB_precisionDenominator b zs zq zr) := by
  exact hi
set_option maxHeartbeats 4000000 in
set_option maxRecDepth 100000 in
theorem cs_precisionDenominator {p : Program} {l : Launch} {e : Env} {s : State} {m : MethodId} {below : List Frame} {meth : Method} {c : Code} {b0 L : Nat} {xs : Nat → Int32} {G : XG} (C : CF p l s m c b0 L xs G) {Q : State → Prop} {b : XB} {H : Heap} {locs : List Loc} {cells slots : Nat} {ls : Array Slot} (i : Nat) (hi : i + 5 ≤ L) (hL : L ≤ 2560) (I : LI G s.heap.size b s H locs) (hl : lv_has ls 8 [(4, .int (zI (i : Int))), (3, .ref (s.heap.size + 134)), (2, .ref (s.heap.size + 127)), (1, .ref s.heap.size), (0, .ref b0)]) (hc : cells + 8 ≤ 601024 ∧ slots + 48 ≤ 7293034)
    (kk : ∀ (b9 : XB) (H9 : Heap) (locs9 : List Loc) (ls9 : Array Slot), LI G s.heap.size b9 s H9 locs9 → lv_has ls9 8 [(4, .int (zI (i : Int))), (3, .ref (s.heap.size + 134)), (2, .ref (s.heap.size + 127)), (1, .ref s.heap.size), (0, .ref b0)] → W p l e room_1 s m #[Value.ref b0] below meth c H9 locs9 (cells + 8) (slots + 48) Q (F0 m 1642 ls9 [])) : W p l e room_1 s m #[Value.ref b0] below meth c H locs cells slots Q (F0 m 819 ls []) := by
  obtain ⟨hx, hb, hml, hown, hts, hX, hbl, hK, hT, hN, hfl⟩ := C
  obtain ⟨hW, hJ, hI, ⟨th, ov, un, hM⟩, hS⟩ := I
  have hbA : ¬ (s.heap.size ≤ b0) := by omega
  have hMlt := hM.lt
  obtain ⟨zs, hzs, ezs⟩ := x_num (xs (i + 1))
  obtain ⟨zq, hzq, ezq⟩ := x_num (xs (i + 2))
  obtain ⟨zr, hzr, ezr⟩ := x_num (xs (i + 3))
  refine lv_aload_n hx hb dL_law_819 rfl (lv_at hl 3 rfl) ?_
  refine lv_aload_n hx hb dL_law_820 rfl (lv_at hl 4 rfl) ?_
  refine lv_iload hx hb dL_law_821 (lv_at hl 0 rfl) ?_
  refine x_iconst hx hb dL_law_823 ?_
  refine x_iadd hx hb dL_law_824 ?_
  refine x_sld hx hb hX hbl hbA hS (i + 1) (by omega) (by omega) hL ezs dL_law_825 ?_
  refine lv_aload_n hx hb dL_law_826 rfl (lv_at hl 4 rfl) ?_
  refine lv_iload hx hb dL_law_827 (lv_at hl 0 rfl) ?_
  refine x_iconst hx hb dL_law_829 ?_
  refine x_iadd hx hb dL_law_830 ?_
  refine x_sld hx hb hX hbl hbA hS (i + 2) (by omega) (by omega) hL ezq dL_law_831 ?_
  refine lv_aload_n hx hb dL_law_832 rfl (lv_at hl 4 rfl) ?_
  refine lv_iload hx hb dL_law_833 (lv_at hl 0 rfl) ?_
  refine x_iconst hx hb dL_law_835 ?_
  refine x_iadd hx hb dL_law_836 ?_
  refine x_sld hx hb hX hbl hbA hS (i + 3) (by omega) (by omega) hL ezr dL_law_837 ?_
  refine lv_aload_n hx hb dL_law_838 rfl (lv_at hl 1 rfl) ?_
  refine x_wI (vx_runSW (As := [.ref s.heap.size, .int (zI zs), .int (zI zq), .int (zI zr), .ref (s.heap.size + 134)]) (rest := []) ⟨hx, hb, hml, hown, hts⟩ (c_L_precisionDenominator l hfl G s.heap.size (s.heap.size + 134) s.heap.size (Nat.le_refl _) (by omega) b zs hzs zq hzq zr hzr) (vx_cwSW 5 hts gL_law_L_precisionDenominator rfl rfl rfl (by decide +kernel) ⟨Nat.le_of_ble_eq_true rfl, Nat.le_of_ble_eq_true rfl⟩) (x_preW hW hJ hI hK hT hN hS (fun q h => h)) rfl rfl hl.1 rfl (lv_room (Nat.le_of_ble_eq_true rfl)) dL_law_839 hc) hS (fun q _ (h : xB s.heap.size (s.heap.size + 134) q) => (by rcases h with h | h <;> omega : s.heap.size ≤ q)) (fun q (h : xB s.heap.size (s.heap.size + 134) q) => (by rcases h with h | h <;> omega : s.heap.size ≤ q)) (fun H1 locs1 hP hz hk hS => ?_)
  obtain ⟨hX1, w1, hJ1, hw1⟩ := hP
  have hM1 := hM.kept (fun a h1 h2 => hk a (by omega) (fun (h : xB s.heap.size (s.heap.size + 134) a) => by rcases h with h | h <;> omega))
  refine lv_istore (lv' := [(5, .int (zI (oK_precisionDenominator b zs zq zr))), (4, .int (zI (i : Int))), (3, .ref (s.heap.size + 134)), (2, .ref (s.heap.size + 127)), (1, .ref s.heap.size), (0, .ref b0)]) hx hb dL_law_842 hl (by decide) rfl (fun ls hl => ?_)
  refine lv_aload_n hx hb dL_law_844 rfl (lv_at hl 3 rfl) ?_
  refine lv_aload_n hx hb dL_law_845 rfl (lv_at hl 5 rfl) ?_
  refine lv_iload hx hb dL_law_846 (lv_at hl 1 rfl) ?_
  refine x_iconst hx hb dL_law_848 ?_
  refine x_iadd hx hb dL_law_849 ?_
  refine x_sld hx hb hX hbl hbA hS (i + 1) (by omega) (by omega) hL ezs dL_law_850 ?_
  refine lv_aload_n hx hb dL_law_851 rfl (lv_at hl 5 rfl) ?_
  refine lv_iload hx hb dL_law_852 (lv_at hl 1 rfl) ?_
  refine x_iconst hx hb dL_law_854 ?_
  refine x_iadd hx hb dL_law_855 ?_
  refine x_sld hx hb hX hbl hbA hS (i + 2) (by omega) (by omega) hL ezq dL_law_856 ?_
  refine lv_aload_n hx hb dL_law_857 rfl (lv_at hl 5 rfl) ?_
  refine lv_iload hx hb dL_law_858 (lv_at hl 1 rfl) ?_
  refine x_iconst hx hb dL_law_860 ?_
  refine x_iadd hx hb dL_law_861 ?_
  refine x_sld hx hb hX hbl hbA hS (i + 3) (by omega) (by omega) hL ezr dL_law_862 ?_
  refine va_calll (va_runV (As := [.int (zI zs), .int (zI zq), .int (zI zr)]) (rest := []) ⟨hx, hb, hml, hown, hts⟩ (c_X4_precisionDenominator l G (s.heap.size + 127) b th ov un zs hzs zq hzq zr hzr) (cwV 3 hts gL_law_X4_precisionDenominator rfl rfl rfl (by decide +kernel) ⟨Nat.le_of_ble_eq_true rfl, Nat.le_of_ble_eq_true rfl⟩) (x_preM hM1 hI hK) rfl rfl hl.1 rfl (lv_room (Nat.le_of_ble_eq_true rfl)) dL_law_863 hc) hS (fun q _ (h : mA (s.heap.size + 127) q) => (by omega : s.heap.size ≤ q)) (fun q (h : mA (s.heap.size + 127) q) => (by omega : s.heap.size ≤ q)) (fun r u t H2 locs2 ht _ hr6 hB hz2 hk2 hS => ?_)
  obtain ⟨Hx, e1, ov2, un2, hM2⟩ := hB
  have e2 : Hx = H2 := e1.symm.trans ht
  subst e2
  replace hM2 : MW G (s.heap.size + 127) (if (oK_precisionDenominator b zs zq zr) = 0 then (oB_precisionDenominator b zs zq zr) else b) (oK_precisionDenominator b zs zq zr) ov2 un2 Hx := hM2
  replace hr6 : (oK_precisionDenominator b zs zq zr) = 0 → r = lI (oV_precisionDenominator b zs zq zr) := hr6
  have hJ2 := hJ1.kept (hk2 _ hJ1.lt (fun (h : s.heap.size + 127 ≤ s.heap.size + 134 ∧ s.heap.size + 134 < s.heap.size + 127 + 7) => by omega))
  have hX2 : BX G s.heap.size (if (oK_precisionDenominator b zs zq zr) = 0 then (oB_precisionDenominator b zs zq zr) else b) Hx := by
    obtain ⟨lim2, dif2, hX1⟩ := hX1
    have hlt := hX1.lt
    exact ⟨lim2, dif2, hX1.kept (fun a h1 h2 => hk2 a (by omega) (fun (h : s.heap.size + 127 ≤ a ∧ a < s.heap.size + 127 + 7) => by omega))⟩
  have hI2 : bInv (if (oK_precisionDenominator b zs zq zr) = 0 then (oB_precisionDenominator b zs zq zr) else b) := by
    split
    · exact oI_precisionDenominator hI (by assumption)
    · exact hI
  have hkr := oR_precisionDenominator b zs zq zr
  have hw2 : (oK_precisionDenominator b zs zq zr) = 0 → w1 0 = lI (oV_precisionDenominator b zs zq zr) := hw1
  have hLI : LI G s.heap.size (if (oK_precisionDenominator b zs zq zr) = 0 then (oB_precisionDenominator b zs zq zr) else b) s Hx locs2 := ⟨hX2, ⟨w1, hJ2⟩, hI2, ⟨_, _, _, hM2⟩, hS⟩
  generalize hkz : (oK_precisionDenominator b zs zq zr) = kz at *
  generalize (if kz = 0 then (oB_precisionDenominator b zs zq zr) else b) = b9 at *
  refine lv_lstore (lv' := [(6, .long r), (5, .int (zI kz)), (4, .int (zI (i : Int))), (3, .ref (s.heap.size + 134)), (2, .ref (s.heap.size + 127)), (1, .ref s.heap.size), (0, .ref b0)]) hx hb dL_law_866 hl (by decide) rfl (fun ls hl => ?_)
  refine lv_aload_n hx hb dL_law_868 rfl (lv_at hl 4 rfl) ?_
  refine x_cI (va_runV (As := []) (rest := []) ⟨hx, hb, hml, hown, hts⟩ (c_X4_thrown l G (s.heap.size + 127) b9 kz ov2 un2) (cwV 0 hts gL_law_X4_thrown rfl rfl rfl (by decide +kernel) ⟨Nat.le_of_ble_eq_true rfl, Nat.le_of_ble_eq_true rfl⟩) (x_preM hM2 hI2 hK) rfl rfl hl.1 rfl (lv_room (Nat.le_of_ble_eq_true rfl)) dL_law_869 hc) ?_
  refine lv_iload hx hb dL_law_872 (lv_at hl 1 rfl) ?_
  refine lv_icmp_eq (tgt := 879) hx hb dL_law_874 (by decide) (fun _ => ?_) (fun h => absurd rfl h)
  refine lv_iload hx hb dL_law_879 (lv_at hl 1 rfl) ?_
  refine x_if_ne (tgt := 895) hx hb dL_law_881 (by decide) (by omega) (fun hn => ?_) (fun hk0 => ?_)
  · refine lv_goto (tgt := 1642) hx hb dL_law_895 (by decide) ?_
    exact kk _ _ _ _ hLI (lv_sub hl [2, 3, 4, 5, 6] rfl)
  · refine lv_aload_n hx hb dL_law_884 rfl (lv_at hl 3 rfl) ?_
    refine x_iconst hx hb dL_law_885 ?_
    refine x_lald hx hb hK hJ2 0 (by decide) (by decide) (by decide) dL_law_886 ?_
    rw [hw2 hk0]
    refine lv_lload hx hb dL_law_887 (lv_at hl 0 rfl) ?_
    rw [hr6 hk0]
    refine x_lcmpS hx hb dL_law_889 ?_
    refine lv_if_eq (tgt := 895) hx hb dL_law_890 (by decide) (fun _ => ?_) (fun h => absurd rfl h)
    refine lv_goto (tgt := 1642) hx hb dL_law_895 (by decide) ?_
    exact kk _ _ _ _ hLI (lv_sub hl [2, 3, 4, 5, 6] rfl)
theorem oR_reciprocalNumerator (b : XB) (zs zq : Int) : 0 ≤ (oK_reciprocalNumerator b zs zq) ∧ (oK_reciprocalNumerator b zs zq) ≤ 2 := kR_rng (Or.inl rfl)
theorem oI_reciprocalNumerator {b : XB} {zs zq : Int} (hi : bInv b) (h : (oK_reciprocalNumerator b zs zq) = 0) : bInv (oB_reciprocalNumerator b zs zq) := by
  exact hi
set_option maxHeartbeats 4000000 in
set_option maxRecDepth 100000 in
theorem cs_reciprocalNumerator {p : Program} {l : Launch} {e : Env} {s : State} {m : MethodId} {below : List Frame} {meth : Method} {c : Code} {b0 L : Nat} {xs : Nat → Int32} {G : XG} (C : CF p l s m c b0 L xs G) {Q : State → Prop} {b : XB} {H : Heap} {locs : List Loc} {cells slots : Nat} {ls : Array Slot} (i : Nat) (hi : i + 5 ≤ L) (hL : L ≤ 2560) (I : LI G s.heap.size b s H locs) (hl : lv_has ls 8 [(4, .int (zI (i : Int))), (3, .ref (s.heap.size + 134)), (2, .ref (s.heap.size + 127)), (1, .ref s.heap.size), (0, .ref b0)]) (hc : cells + 8 ≤ 601024 ∧ slots + 48 ≤ 7293034)
    (kk : ∀ (b9 : XB) (H9 : Heap) (locs9 : List Loc) (ls9 : Array Slot), LI G s.heap.size b9 s H9 locs9 → lv_has ls9 8 [(4, .int (zI (i : Int))), (3, .ref (s.heap.size + 134)), (2, .ref (s.heap.size + 127)), (1, .ref s.heap.size), (0, .ref b0)] → W p l e room_1 s m #[Value.ref b0] below meth c H9 locs9 (cells + 8) (slots + 48) Q (F0 m 1642 ls9 [])) : W p l e room_1 s m #[Value.ref b0] below meth c H locs cells slots Q (F0 m 898 ls []) := by
  obtain ⟨hx, hb, hml, hown, hts, hX, hbl, hK, hT, hN, hfl⟩ := C
  obtain ⟨hW, hJ, hI, ⟨th, ov, un, hM⟩, hS⟩ := I
  have hbA : ¬ (s.heap.size ≤ b0) := by omega
  have hMlt := hM.lt
  obtain ⟨zs, hzs, ezs⟩ := x_num (xs (i + 1))
  obtain ⟨zq, hzq, ezq⟩ := x_num (xs (i + 2))
  refine lv_aload_n hx hb dL_law_898 rfl (lv_at hl 3 rfl) ?_
  refine lv_aload_n hx hb dL_law_899 rfl (lv_at hl 4 rfl) ?_
  refine lv_iload hx hb dL_law_900 (lv_at hl 0 rfl) ?_
  refine x_iconst hx hb dL_law_902 ?_
  refine x_iadd hx hb dL_law_903 ?_
  refine x_sld hx hb hX hbl hbA hS (i + 1) (by omega) (by omega) hL ezs dL_law_904 ?_
  refine lv_aload_n hx hb dL_law_905 rfl (lv_at hl 4 rfl) ?_
  refine lv_iload hx hb dL_law_906 (lv_at hl 0 rfl) ?_
  refine x_iconst hx hb dL_law_908 ?_
  refine x_iadd hx hb dL_law_909 ?_
  refine x_sld hx hb hX hbl hbA hS (i + 2) (by omega) (by omega) hL ezq dL_law_910 ?_
  refine lv_aload_n hx hb dL_law_911 rfl (lv_at hl 1 rfl) ?_
  refine x_wI (vx_runSW (As := [.ref s.heap.size, .int (zI zs), .int (zI zq), .ref (s.heap.size + 134)]) (rest := []) ⟨hx, hb, hml, hown, hts⟩ (c_L_reciprocalNumerator l hfl G s.heap.size (s.heap.size + 134) s.heap.size (Nat.le_refl _) (by omega) b zs hzs zq hzq) (vx_cwSW 4 hts gL_law_L_reciprocalNumerator rfl rfl rfl (by decide +kernel) ⟨Nat.le_of_ble_eq_true rfl, Nat.le_of_ble_eq_true rfl⟩) (x_preW hW hJ hI hK hT hN hS (fun q h => h)) rfl rfl hl.1 rfl (lv_room (Nat.le_of_ble_eq_true rfl)) dL_law_912 hc) hS (fun q _ (h : xB s.heap.size (s.heap.size + 134) q) => (by rcases h with h | h <;> omega : s.heap.size ≤ q)) (fun q (h : xB s.heap.size (s.heap.size + 134) q) => (by rcases h with h | h <;> omega : s.heap.size ≤ q)) (fun H1 locs1 hP hz hk hS => ?_)
  obtain ⟨hX1, w1, hJ1, hw1⟩ := hP
  have hM1 := hM.kept (fun a h1 h2 => hk a (by omega) (fun (h : xB s.heap.size (s.heap.size + 134) a) => by rcases h with h | h <;> omega))
  refine lv_istore (lv' := [(5, .int (zI (oK_reciprocalNumerator b zs zq))), (4, .int (zI (i : Int))), (3, .ref (s.heap.size + 134)), (2, .ref (s.heap.size + 127)), (1, .ref s.heap.size), (0, .ref b0)]) hx hb dL_law_915 hl (by decide) rfl (fun ls hl => ?_)
  refine lv_aload_n hx hb dL_law_917 rfl (lv_at hl 3 rfl) ?_
  refine lv_aload_n hx hb dL_law_918 rfl (lv_at hl 5 rfl) ?_
  refine lv_iload hx hb dL_law_919 (lv_at hl 1 rfl) ?_
  refine x_iconst hx hb dL_law_921 ?_
  refine x_iadd hx hb dL_law_922 ?_
  refine x_sld hx hb hX hbl hbA hS (i + 1) (by omega) (by omega) hL ezs dL_law_923 ?_
  refine lv_aload_n hx hb dL_law_924 rfl (lv_at hl 5 rfl) ?_
  refine lv_iload hx hb dL_law_925 (lv_at hl 1 rfl) ?_
  refine x_iconst hx hb dL_law_927 ?_
  refine x_iadd hx hb dL_law_928 ?_
  refine x_sld hx hb hX hbl hbA hS (i + 2) (by omega) (by omega) hL ezq dL_law_929 ?_
  refine va_calll (va_runV (As := [.int (zI zs), .int (zI zq)]) (rest := []) ⟨hx, hb, hml, hown, hts⟩ (c_X4_reciprocalNumerator l G (s.heap.size + 127) b th ov un zs hzs zq hzq) (cwV 2 hts gL_law_X4_reciprocalNumerator rfl rfl rfl (by decide +kernel) ⟨Nat.le_of_ble_eq_true rfl, Nat.le_of_ble_eq_true rfl⟩) (x_preM hM1 hI hK) rfl rfl hl.1 rfl (lv_room (Nat.le_of_ble_eq_true rfl)) dL_law_930 hc) hS (fun q _ (h : mA (s.heap.size + 127) q) => (by omega : s.heap.size ≤ q)) (fun q (h : mA (s.heap.size + 127) q) => (by omega : s.heap.size ≤ q)) (fun r u t H2 locs2 ht _ hr6 hB hz2 hk2 hS => ?_)
  obtain ⟨Hx, e1, ov2, un2, hM2⟩ := hB
  have e2 : Hx = H2 := e1.symm.trans ht
  subst e2
  replace hM2 : MW G (s.heap.size + 127) (if (oK_reciprocalNumerator b zs zq) = 0 then (oB_reciprocalNumerator b zs zq) else b) (oK_reciprocalNumerator b zs zq) ov2 un2 Hx := hM2
  replace hr6 : (oK_reciprocalNumerator b zs zq) = 0 → r = lI (oV_reciprocalNumerator b zs zq) := hr6
  have hJ2 := hJ1.kept (hk2 _ hJ1.lt (fun (h : s.heap.size + 127 ≤ s.heap.size + 134 ∧ s.heap.size + 134 < s.heap.size + 127 + 7) => by omega))
  have hX2 : BX G s.heap.size (if (oK_reciprocalNumerator b zs zq) = 0 then (oB_reciprocalNumerator b zs zq) else b) Hx := by
    obtain ⟨lim2, dif2, hX1⟩ := hX1
    have hlt := hX1.lt
    exact ⟨lim2, dif2, hX1.kept (fun a h1 h2 => hk2 a (by omega) (fun (h : s.heap.size + 127 ≤ a ∧ a < s.heap.size + 127 + 7) => by omega))⟩
  have hI2 : bInv (if (oK_reciprocalNumerator b zs zq) = 0 then (oB_reciprocalNumerator b zs zq) else b) := by
    split
    · exact oI_reciprocalNumerator hI (by assumption)
    · exact hI
  have hkr := oR_reciprocalNumerator b zs zq
  have hw2 : (oK_reciprocalNumerator b zs zq) = 0 → w1 0 = lI (oV_reciprocalNumerator b zs zq) := hw1
  have hLI : LI G s.heap.size (if (oK_reciprocalNumerator b zs zq) = 0 then (oB_reciprocalNumerator b zs zq) else b) s Hx locs2 := ⟨hX2, ⟨w1, hJ2⟩, hI2, ⟨_, _, _, hM2⟩, hS⟩
  generalize hkz : (oK_reciprocalNumerator b zs zq) = kz at *
  generalize (if kz = 0 then (oB_reciprocalNumerator b zs zq) else b) = b9 at *
  refine lv_lstore (lv' := [(6, .long r), (5, .int (zI kz)), (4, .int (zI (i : Int))), (3, .ref (s.heap.size + 134)), (2, .ref (s.heap.size + 127)), (1, .ref s.heap.size), (0, .ref b0)]) hx hb dL_law_933 hl (by decide) rfl (fun ls hl => ?_)
  refine lv_aload_n hx hb dL_law_935 rfl (lv_at hl 4 rfl) ?_
  refine x_cI (va_runV (As := []) (rest := []) ⟨hx, hb, hml, hown, hts⟩ (c_X4_thrown l G (s.heap.size + 127) b9 kz ov2 un2) (cwV 0 hts gL_law_X4_thrown rfl rfl rfl (by decide +kernel) ⟨Nat.le_of_ble_eq_true rfl, Nat.le_of_ble_eq_true rfl⟩) (x_preM hM2 hI2 hK) rfl rfl hl.1 rfl (lv_room (Nat.le_of_ble_eq_true rfl)) dL_law_936 hc) ?_
  refine lv_iload hx hb dL_law_939 (lv_at hl 1 rfl) ?_
  refine lv_icmp_eq (tgt := 946) hx hb dL_law_941 (by decide) (fun _ => ?_) (fun h => absurd rfl h)
  refine lv_iload hx hb dL_law_946 (lv_at hl 1 rfl) ?_
  refine x_if_ne (tgt := 962) hx hb dL_law_948 (by decide) (by omega) (fun hn => ?_) (fun hk0 => ?_)
  · refine lv_goto (tgt := 1642) hx hb dL_law_962 (by decide) ?_
    exact kk _ _ _ _ hLI (lv_sub hl [2, 3, 4, 5, 6] rfl)
  · refine lv_aload_n hx hb dL_law_951 rfl (lv_at hl 3 rfl) ?_
    refine x_iconst hx hb dL_law_952 ?_
    refine x_lald hx hb hK hJ2 0 (by decide) (by decide) (by decide) dL_law_953 ?_
    rw [hw2 hk0]
    refine lv_lload hx hb dL_law_954 (lv_at hl 0 rfl) ?_
    rw [hr6 hk0]
    refine x_lcmpS hx hb dL_law_956 ?_
    refine lv_if_eq (tgt := 962) hx hb dL_law_957 (by decide) (fun _ => ?_) (fun h => absurd rfl h)
    refine lv_goto (tgt := 1642) hx hb dL_law_962 (by decide) ?_
    exact kk _ _ _ _ hLI (lv_sub hl [2, 3, 4, 5, 6] rfl)
theorem oR_reciprocalDenominator (b : XB) (zs zq : Int) : 0 ≤ (oK_reciprocalDenominator b zs zq) ∧ (oK_reciprocalDenominator b zs zq) ≤ 2 := kR_rng (Or.inl rfl)
theorem oI_reciprocalDenominator {b : XB} {zs zq : Int} (hi : bInv b) (h : (oK_reciprocalDenominator b zs zq) = 0) : bInv (oB_reciprocalDenominator b zs zq) := by
  exact hi
set_option maxHeartbeats 4000000 in
set_option maxRecDepth 100000 in
theorem cs_reciprocalDenominator {p : Program} {l : Launch} {e : Env} {s : State} {m : MethodId} {below : List Frame} {meth : Method} {c : Code} {b0 L : Nat} {xs : Nat → Int32} {G : XG} (C : CF p l s m c b0 L xs G) {Q : State → Prop} {b : XB} {H : Heap} {locs : List Loc} {cells slots : Nat} {ls : Array Slot} (i : Nat) (hi : i + 5 ≤ L) (hL : L ≤ 2560) (I : LI G s.heap.size b s H locs) (hl : lv_has ls 8 [(4, .int (zI (i : Int))), (3, .ref (s.heap.size + 134)), (2, .ref (s.heap.size + 127)), (1, .ref s.heap.size), (0, .ref b0)]) (hc : cells + 8 ≤ 601024 ∧ slots + 48 ≤ 7293034)
    (kk : ∀ (b9 : XB) (H9 : Heap) (locs9 : List Loc) (ls9 : Array Slot), LI G s.heap.size b9 s H9 locs9 → lv_has ls9 8 [(4, .int (zI (i : Int))), (3, .ref (s.heap.size + 134)), (2, .ref (s.heap.size + 127)), (1, .ref s.heap.size), (0, .ref b0)] → W p l e room_1 s m #[Value.ref b0] below meth c H9 locs9 (cells + 8) (slots + 48) Q (F0 m 1642 ls9 [])) : W p l e room_1 s m #[Value.ref b0] below meth c H locs cells slots Q (F0 m 965 ls []) := by
  obtain ⟨hx, hb, hml, hown, hts, hX, hbl, hK, hT, hN, hfl⟩ := C
  obtain ⟨hW, hJ, hI, ⟨th, ov, un, hM⟩, hS⟩ := I
  have hbA : ¬ (s.heap.size ≤ b0) := by omega
  have hMlt := hM.lt
  obtain ⟨zs, hzs, ezs⟩ := x_num (xs (i + 1))
  obtain ⟨zq, hzq, ezq⟩ := x_num (xs (i + 2))
  refine lv_aload_n hx hb dL_law_965 rfl (lv_at hl 3 rfl) ?_
  refine lv_aload_n hx hb dL_law_966 rfl (lv_at hl 4 rfl) ?_
  refine lv_iload hx hb dL_law_967 (lv_at hl 0 rfl) ?_
  refine x_iconst hx hb dL_law_969 ?_
  refine x_iadd hx hb dL_law_970 ?_
  refine x_sld hx hb hX hbl hbA hS (i + 1) (by omega) (by omega) hL ezs dL_law_971 ?_
  refine lv_aload_n hx hb dL_law_972 rfl (lv_at hl 4 rfl) ?_
  refine lv_iload hx hb dL_law_973 (lv_at hl 0 rfl) ?_
  refine x_iconst hx hb dL_law_975 ?_
  refine x_iadd hx hb dL_law_976 ?_
  refine x_sld hx hb hX hbl hbA hS (i + 2) (by omega) (by omega) hL ezq dL_law_977 ?_
  refine lv_aload_n hx hb dL_law_978 rfl (lv_at hl 1 rfl) ?_
  refine x_wI (vx_runSW (As := [.ref s.heap.size, .int (zI zs), .int (zI zq), .ref (s.heap.size + 134)]) (rest := []) ⟨hx, hb, hml, hown, hts⟩ (c_L_reciprocalDenominator l hfl G s.heap.size (s.heap.size + 134) s.heap.size (Nat.le_refl _) (by omega) b zs hzs zq hzq) (vx_cwSW 4 hts gL_law_L_reciprocalDenominator rfl rfl rfl (by decide +kernel) ⟨Nat.le_of_ble_eq_true rfl, Nat.le_of_ble_eq_true rfl⟩) (x_preW hW hJ hI hK hT hN hS (fun q h => h)) rfl rfl hl.1 rfl (lv_room (Nat.le_of_ble_eq_true rfl)) dL_law_979 hc) hS (fun q _ (h : xB s.heap.size (s.heap.size + 134) q) => (by rcases h with h | h <;> omega : s.heap.size ≤ q)) (fun q (h : xB s.heap.size (s.heap.size + 134) q) => (by rcases h with h | h <;> omega : s.heap.size ≤ q)) (fun H1 locs1 hP hz hk hS => ?_)
  obtain ⟨hX1, w1, hJ1, hw1⟩ := hP
  have hM1 := hM.kept (fun a h1 h2 => hk a (by omega) (fun (h : xB s.heap.size (s.heap.size + 134) a) => by rcases h with h | h <;> omega))
  refine lv_istore (lv' := [(5, .int (zI (oK_reciprocalDenominator b zs zq))), (4, .int (zI (i : Int))), (3, .ref (s.heap.size + 134)), (2, .ref (s.heap.size + 127)), (1, .ref s.heap.size), (0, .ref b0)]) hx hb dL_law_982 hl (by decide) rfl (fun ls hl => ?_)
  refine lv_aload_n hx hb dL_law_984 rfl (lv_at hl 3 rfl) ?_
  refine lv_aload_n hx hb dL_law_985 rfl (lv_at hl 5 rfl) ?_
  refine lv_iload hx hb dL_law_986 (lv_at hl 1 rfl) ?_
  refine x_iconst hx hb dL_law_988 ?_
  refine x_iadd hx hb dL_law_989 ?_
  refine x_sld hx hb hX hbl hbA hS (i + 1) (by omega) (by omega) hL ezs dL_law_990 ?_
  refine lv_aload_n hx hb dL_law_991 rfl (lv_at hl 5 rfl) ?_
  refine lv_iload hx hb dL_law_992 (lv_at hl 1 rfl) ?_
  refine x_iconst hx hb dL_law_994 ?_
  refine x_iadd hx hb dL_law_995 ?_
  refine x_sld hx hb hX hbl hbA hS (i + 2) (by omega) (by omega) hL ezq dL_law_996 ?_
  refine va_calll (va_runV (As := [.int (zI zs), .int (zI zq)]) (rest := []) ⟨hx, hb, hml, hown, hts⟩ (c_X4_reciprocalDenominator l G (s.heap.size + 127) b th ov un zs hzs zq hzq) (cwV 2 hts gL_law_X4_reciprocalDenominator rfl rfl rfl (by decide +kernel) ⟨Nat.le_of_ble_eq_true rfl, Nat.le_of_ble_eq_true rfl⟩) (x_preM hM1 hI hK) rfl rfl hl.1 rfl (lv_room (Nat.le_of_ble_eq_true rfl)) dL_law_997 hc) hS (fun q _ (h : mA (s.heap.size + 127) q) => (by omega : s.heap.size ≤ q)) (fun q (h : mA (s.heap.size + 127) q) => (by omega : s.heap.size ≤ q)) (fun r u t H2 locs2 ht _ hr6 hB hz2 hk2 hS => ?_)
  obtain ⟨Hx, e1, ov2, un2, hM2⟩ := hB
  have e2 : Hx = H2 := e1.symm.trans ht
  subst e2
  replace hM2 : MW G (s.heap.size + 127) (if (oK_reciprocalDenominator b zs zq) = 0 then (oB_reciprocalDenominator b zs zq) else b) (oK_reciprocalDenominator b zs zq) ov2 un2 Hx := hM2
  replace hr6 : (oK_reciprocalDenominator b zs zq) = 0 → r = lI (oV_reciprocalDenominator b zs zq) := hr6
  have hJ2 := hJ1.kept (hk2 _ hJ1.lt (fun (h : s.heap.size + 127 ≤ s.heap.size + 134 ∧ s.heap.size + 134 < s.heap.size + 127 + 7) => by omega))
  have hX2 : BX G s.heap.size (if (oK_reciprocalDenominator b zs zq) = 0 then (oB_reciprocalDenominator b zs zq) else b) Hx := by
    obtain ⟨lim2, dif2, hX1⟩ := hX1
    have hlt := hX1.lt
    exact ⟨lim2, dif2, hX1.kept (fun a h1 h2 => hk2 a (by omega) (fun (h : s.heap.size + 127 ≤ a ∧ a < s.heap.size + 127 + 7) => by omega))⟩
  have hI2 : bInv (if (oK_reciprocalDenominator b zs zq) = 0 then (oB_reciprocalDenominator b zs zq) else b) := by
    split
    · exact oI_reciprocalDenominator hI (by assumption)
    · exact hI
  have hkr := oR_reciprocalDenominator b zs zq
  have hw2 : (oK_reciprocalDenominator b zs zq) = 0 → w1 0 = lI (oV_reciprocalDenominator b zs zq) := hw1
  have hLI : LI G s.heap.size (if (oK_reciprocalDenominator b zs zq) = 0 then (oB_reciprocalDenominator b zs zq) else b) s Hx locs2 := ⟨hX2, ⟨w1, hJ2⟩, hI2, ⟨_, _, _, hM2⟩, hS⟩
  generalize hkz : (oK_reciprocalDenominator b zs zq) = kz at *
  generalize (if kz = 0 then (oB_reciprocalDenominator b zs zq) else b) = b9 at *
  refine lv_lstore (lv' := [(6, .long r), (5, .int (zI kz)), (4, .int (zI (i : Int))), (3, .ref (s.heap.size + 134)), (2, .ref (s.heap.size + 127)), (1, .ref s.heap.size), (0, .ref b0)]) hx hb dL_law_1000 hl (by decide) rfl (fun ls hl => ?_)
  refine lv_aload_n hx hb dL_law_1002 rfl (lv_at hl 4 rfl) ?_
  refine x_cI (va_runV (As := []) (rest := []) ⟨hx, hb, hml, hown, hts⟩ (c_X4_thrown l G (s.heap.size + 127) b9 kz ov2 un2) (cwV 0 hts gL_law_X4_thrown rfl rfl rfl (by decide +kernel) ⟨Nat.le_of_ble_eq_true rfl, Nat.le_of_ble_eq_true rfl⟩) (x_preM hM2 hI2 hK) rfl rfl hl.1 rfl (lv_room (Nat.le_of_ble_eq_true rfl)) dL_law_1003 hc) ?_
  refine lv_iload hx hb dL_law_1006 (lv_at hl 1 rfl) ?_
  refine lv_icmp_eq (tgt := 1013) hx hb dL_law_1008 (by decide) (fun _ => ?_) (fun h => absurd rfl h)
  refine lv_iload hx hb dL_law_1013 (lv_at hl 1 rfl) ?_
  refine x_if_ne (tgt := 1029) hx hb dL_law_1015 (by decide) (by omega) (fun hn => ?_) (fun hk0 => ?_)
  · refine lv_goto (tgt := 1642) hx hb dL_law_1029 (by decide) ?_
    exact kk _ _ _ _ hLI (lv_sub hl [2, 3, 4, 5, 6] rfl)
  · refine lv_aload_n hx hb dL_law_1018 rfl (lv_at hl 3 rfl) ?_
    refine x_iconst hx hb dL_law_1019 ?_
    refine x_lald hx hb hK hJ2 0 (by decide) (by decide) (by decide) dL_law_1020 ?_
    rw [hw2 hk0]
    refine lv_lload hx hb dL_law_1021 (lv_at hl 0 rfl) ?_
    rw [hr6 hk0]
    refine x_lcmpS hx hb dL_law_1023 ?_
    refine lv_if_eq (tgt := 1029) hx hb dL_law_1024 (by decide) (fun _ => ?_) (fun h => absurd rfl h)
    refine lv_goto (tgt := 1642) hx hb dL_law_1029 (by decide) ?_
    exact kk _ _ _ _ hLI (lv_sub hl [2, 3, 4, 5, 6] rfl)
theorem oR_meanNumerator (b : XB) (zs zr : Int) : 0 ≤ (oK_meanNumerator b zs zr) ∧ (oK_meanNumerator b zs zr) ≤ 2 := kR_rng (Or.inl rfl)
theorem oI_meanNumerator {b : XB} {zs zr : Int} (hi : bInv b) (h : (oK_meanNumerator b zs zr) = 0) : bInv (oB_meanNumerator b zs zr) := by
  exact hi
set_option maxHeartbeats 4000000 in
set_option maxRecDepth 100000 in
theorem cs_meanNumerator {p : Program} {l : Launch} {e : Env} {s : State} {m : MethodId} {below : List Frame} {meth : Method} {c : Code} {b0 L : Nat} {xs : Nat → Int32} {G : XG} (C : CF p l s m c b0 L xs G) {Q : State → Prop} {b : XB} {H : Heap} {locs : List Loc} {cells slots : Nat} {ls : Array Slot} (i : Nat) (hi : i + 5 ≤ L) (hL : L ≤ 2560) (I : LI G s.heap.size b s H locs) (hl : lv_has ls 8 [(4, .int (zI (i : Int))), (3, .ref (s.heap.size + 134)), (2, .ref (s.heap.size + 127)), (1, .ref s.heap.size), (0, .ref b0)]) (hc : cells + 8 ≤ 601024 ∧ slots + 48 ≤ 7293034)
    (kk : ∀ (b9 : XB) (H9 : Heap) (locs9 : List Loc) (ls9 : Array Slot), LI G s.heap.size b9 s H9 locs9 → lv_has ls9 8 [(4, .int (zI (i : Int))), (3, .ref (s.heap.size + 134)), (2, .ref (s.heap.size + 127)), (1, .ref s.heap.size), (0, .ref b0)] → W p l e room_1 s m #[Value.ref b0] below meth c H9 locs9 (cells + 8) (slots + 48) Q (F0 m 1642 ls9 [])) : W p l e room_1 s m #[Value.ref b0] below meth c H locs cells slots Q (F0 m 1032 ls []) := by
  obtain ⟨hx, hb, hml, hown, hts, hX, hbl, hK, hT, hN, hfl⟩ := C
  obtain ⟨hW, hJ, hI, ⟨th, ov, un, hM⟩, hS⟩ := I
  have hbA : ¬ (s.heap.size ≤ b0) := by omega
  have hMlt := hM.lt
  obtain ⟨zs, hzs, ezs⟩ := x_num (xs (i + 1))
  obtain ⟨zr, hzr, ezr⟩ := x_num (xs (i + 2))
  refine lv_aload_n hx hb dL_law_1032 rfl (lv_at hl 3 rfl) ?_
  refine lv_aload_n hx hb dL_law_1033 rfl (lv_at hl 4 rfl) ?_
  refine lv_iload hx hb dL_law_1034 (lv_at hl 0 rfl) ?_
  refine x_iconst hx hb dL_law_1036 ?_
  refine x_iadd hx hb dL_law_1037 ?_
  refine x_sld hx hb hX hbl hbA hS (i + 1) (by omega) (by omega) hL ezs dL_law_1038 ?_
  refine lv_aload_n hx hb dL_law_1039 rfl (lv_at hl 4 rfl) ?_
  refine lv_iload hx hb dL_law_1040 (lv_at hl 0 rfl) ?_
  refine x_iconst hx hb dL_law_1042 ?_
  refine x_iadd hx hb dL_law_1043 ?_
  refine x_sld hx hb hX hbl hbA hS (i + 2) (by omega) (by omega) hL ezr dL_law_1044 ?_
  refine lv_aload_n hx hb dL_law_1045 rfl (lv_at hl 1 rfl) ?_
  refine x_wI (vx_runSW (As := [.ref s.heap.size, .int (zI zs), .int (zI zr), .ref (s.heap.size + 134)]) (rest := []) ⟨hx, hb, hml, hown, hts⟩ (c_L_meanNumerator l hfl G s.heap.size (s.heap.size + 134) s.heap.size (Nat.le_refl _) (by omega) b zs hzs zr hzr) (vx_cwSW 4 hts gL_law_L_meanNumerator rfl rfl rfl (by decide +kernel) ⟨Nat.le_of_ble_eq_true rfl, Nat.le_of_ble_eq_true rfl⟩) (x_preW hW hJ hI hK hT hN hS (fun q h => h)) rfl rfl hl.1 rfl (lv_room (Nat.le_of_ble_eq_true rfl)) dL_law_1046 hc) hS (fun q _ (h : xB s.heap.size (s.heap.size + 134) q) => (by rcases h with h | h <;> omega : s.heap.size ≤ q)) (fun q (h : xB s.heap.size (s.heap.size + 134) q) => (by rcases h with h | h <;> omega : s.heap.size ≤ q)) (fun H1 locs1 hP hz hk hS => ?_)
  obtain ⟨hX1, w1, hJ1, hw1⟩ := hP
  have hM1 := hM.kept (fun a h1 h2 => hk a (by omega) (fun (h : xB s.heap.size (s.heap.size + 134) a) => by rcases h with h | h <;> omega))
  refine lv_istore (lv' := [(5, .int (zI (oK_meanNumerator b zs zr))), (4, .int (zI (i : Int))), (3, .ref (s.heap.size + 134)), (2, .ref (s.heap.size + 127)), (1, .ref s.heap.size), (0, .ref b0)]) hx hb dL_law_1049 hl (by decide) rfl (fun ls hl => ?_)
  refine lv_aload_n hx hb dL_law_1051 rfl (lv_at hl 3 rfl) ?_
  refine lv_aload_n hx hb dL_law_1052 rfl (lv_at hl 5 rfl) ?_
  refine lv_iload hx hb dL_law_1053 (lv_at hl 1 rfl) ?_
  refine x_iconst hx hb dL_law_1055 ?_
  refine x_iadd hx hb dL_law_1056 ?_
  refine x_sld hx hb hX hbl hbA hS (i + 1) (by omega) (by omega) hL ezs dL_law_1057 ?_
  refine lv_aload_n hx hb dL_law_1058 rfl (lv_at hl 5 rfl) ?_
  refine lv_iload hx hb dL_law_1059 (lv_at hl 1 rfl) ?_
  refine x_iconst hx hb dL_law_1061 ?_
  refine x_iadd hx hb dL_law_1062 ?_
  refine x_sld hx hb hX hbl hbA hS (i + 2) (by omega) (by omega) hL ezr dL_law_1063 ?_
  refine va_calll (va_runV (As := [.int (zI zs), .int (zI zr)]) (rest := []) ⟨hx, hb, hml, hown, hts⟩ (c_X4_meanNumerator l G (s.heap.size + 127) b th ov un zs hzs zr hzr) (cwV 2 hts gL_law_X4_meanNumerator rfl rfl rfl (by decide +kernel) ⟨Nat.le_of_ble_eq_true rfl, Nat.le_of_ble_eq_true rfl⟩) (x_preM hM1 hI hK) rfl rfl hl.1 rfl (lv_room (Nat.le_of_ble_eq_true rfl)) dL_law_1064 hc) hS (fun q _ (h : mA (s.heap.size + 127) q) => (by omega : s.heap.size ≤ q)) (fun q (h : mA (s.heap.size + 127) q) => (by omega : s.heap.size ≤ q)) (fun r u t H2 locs2 ht _ hr6 hB hz2 hk2 hS => ?_)
  obtain ⟨Hx, e1, ov2, un2, hM2⟩ := hB
  have e2 : Hx = H2 := e1.symm.trans ht
  subst e2
  replace hM2 : MW G (s.heap.size + 127) (if (oK_meanNumerator b zs zr) = 0 then (oB_meanNumerator b zs zr) else b) (oK_meanNumerator b zs zr) ov2 un2 Hx := hM2
  replace hr6 : (oK_meanNumerator b zs zr) = 0 → r = lI (oV_meanNumerator b zs zr) := hr6
  have hJ2 := hJ1.kept (hk2 _ hJ1.lt (fun (h : s.heap.size + 127 ≤ s.heap.size + 134 ∧ s.heap.size + 134 < s.heap.size + 127 + 7) => by omega))
  have hX2 : BX G s.heap.size (if (oK_meanNumerator b zs zr) = 0 then (oB_meanNumerator b zs zr) else b) Hx := by
    obtain ⟨lim2, dif2, hX1⟩ := hX1
    have hlt := hX1.lt
    exact ⟨lim2, dif2, hX1.kept (fun a h1 h2 => hk2 a (by omega) (fun (h : s.heap.size + 127 ≤ a ∧ a < s.heap.size + 127 + 7) => by omega))⟩
  have hI2 : bInv (if (oK_meanNumerator b zs zr) = 0 then (oB_meanNumerator b zs zr) else b) := by
    split
    · exact oI_meanNumerator hI (by assumption)
    · exact hI
  have hkr := oR_meanNumerator b zs zr
  have hw2 : (oK_meanNumerator b zs zr) = 0 → w1 0 = lI (oV_meanNumerator b zs zr) := hw1
  have hLI : LI G s.heap.size (if (oK_meanNumerator b zs zr) = 0 then (oB_meanNumerator b zs zr) else b) s Hx locs2 := ⟨hX2, ⟨w1, hJ2⟩, hI2, ⟨_, _, _, hM2⟩, hS⟩
  generalize hkz : (oK_meanNumerator b zs zr) = kz at *
  generalize (if kz = 0 then (oB_meanNumerator b zs zr) else b) = b9 at *
  refine lv_lstore (lv' := [(6, .long r), (5, .int (zI kz)), (4, .int (zI (i : Int))), (3, .ref (s.heap.size + 134)), (2, .ref (s.heap.size + 127)), (1, .ref s.heap.size), (0, .ref b0)]) hx hb dL_law_1067 hl (by decide) rfl (fun ls hl => ?_)
  refine lv_aload_n hx hb dL_law_1069 rfl (lv_at hl 4 rfl) ?_
  refine x_cI (va_runV (As := []) (rest := []) ⟨hx, hb, hml, hown, hts⟩ (c_X4_thrown l G (s.heap.size + 127) b9 kz ov2 un2) (cwV 0 hts gL_law_X4_thrown rfl rfl rfl (by decide +kernel) ⟨Nat.le_of_ble_eq_true rfl, Nat.le_of_ble_eq_true rfl⟩) (x_preM hM2 hI2 hK) rfl rfl hl.1 rfl (lv_room (Nat.le_of_ble_eq_true rfl)) dL_law_1070 hc) ?_
  refine lv_iload hx hb dL_law_1073 (lv_at hl 1 rfl) ?_
  refine lv_icmp_eq (tgt := 1080) hx hb dL_law_1075 (by decide) (fun _ => ?_) (fun h => absurd rfl h)
  refine lv_iload hx hb dL_law_1080 (lv_at hl 1 rfl) ?_
  refine x_if_ne (tgt := 1096) hx hb dL_law_1082 (by decide) (by omega) (fun hn => ?_) (fun hk0 => ?_)
  · refine lv_goto (tgt := 1642) hx hb dL_law_1096 (by decide) ?_
    exact kk _ _ _ _ hLI (lv_sub hl [2, 3, 4, 5, 6] rfl)
  · refine lv_aload_n hx hb dL_law_1085 rfl (lv_at hl 3 rfl) ?_
    refine x_iconst hx hb dL_law_1086 ?_
    refine x_lald hx hb hK hJ2 0 (by decide) (by decide) (by decide) dL_law_1087 ?_
    rw [hw2 hk0]
    refine lv_lload hx hb dL_law_1088 (lv_at hl 0 rfl) ?_
    rw [hr6 hk0]
    refine x_lcmpS hx hb dL_law_1090 ?_
    refine lv_if_eq (tgt := 1096) hx hb dL_law_1091 (by decide) (fun _ => ?_) (fun h => absurd rfl h)
    refine lv_goto (tgt := 1642) hx hb dL_law_1096 (by decide) ?_
    exact kk _ _ _ _ hLI (lv_sub hl [2, 3, 4, 5, 6] rfl)
theorem oR_meanDenominator (b : XB) (zs zr : Int) : 0 ≤ (oK_meanDenominator b zs zr) ∧ (oK_meanDenominator b zs zr) ≤ 2 := kR_rng (Or.inl rfl)
theorem oI_meanDenominator {b : XB} {zs zr : Int} (hi : bInv b) (h : (oK_meanDenominator b zs zr) = 0) : bInv (oB_meanDenominator b zs zr) := by
  exact hi
set_option maxHeartbeats 4000000 in
set_option maxRecDepth 100000 in
theorem cs_meanDenominator {p : Program} {l : Launch} {e : Env} {s : State} {m : MethodId} {below : List Frame} {meth : Method} {c : Code} {b0 L : Nat} {xs : Nat → Int32} {G : XG} (C : CF p l s m c b0 L xs G) {Q : State → Prop} {b : XB} {H : Heap} {locs : List Loc} {cells slots : Nat} {ls : Array Slot} (i : Nat) (hi : i + 5 ≤ L) (hL : L ≤ 2560) (I : LI G s.heap.size b s H locs) (hl : lv_has ls 8 [(4, .int (zI (i : Int))), (3, .ref (s.heap.size + 134)), (2, .ref (s.heap.size + 127)), (1, .ref s.heap.size), (0, .ref b0)]) (hc : cells + 8 ≤ 601024 ∧ slots + 48 ≤ 7293034)
    (kk : ∀ (b9 : XB) (H9 : Heap) (locs9 : List Loc) (ls9 : Array Slot), LI G s.heap.size b9 s H9 locs9 → lv_has ls9 8 [(4, .int (zI (i : Int))), (3, .ref (s.heap.size + 134)), (2, .ref (s.heap.size + 127)), (1, .ref s.heap.size), (0, .ref b0)] → W p l e room_1 s m #[Value.ref b0] below meth c H9 locs9 (cells + 8) (slots + 48) Q (F0 m 1642 ls9 [])) : W p l e room_1 s m #[Value.ref b0] below meth c H locs cells slots Q (F0 m 1099 ls []) := by
  obtain ⟨hx, hb, hml, hown, hts, hX, hbl, hK, hT, hN, hfl⟩ := C
  obtain ⟨hW, hJ, hI, ⟨th, ov, un, hM⟩, hS⟩ := I
  have hbA : ¬ (s.heap.size ≤ b0) := by omega
  have hMlt := hM.lt
  obtain ⟨zs, hzs, ezs⟩ := x_num (xs (i + 1))
  obtain ⟨zr, hzr, ezr⟩ := x_num (xs (i + 2))
  refine lv_aload_n hx hb dL_law_1099 rfl (lv_at hl 3 rfl) ?_
  refine lv_aload_n hx hb dL_law_1100 rfl (lv_at hl 4 rfl) ?_
  refine lv_iload hx hb dL_law_1101 (lv_at hl 0 rfl) ?_
  refine x_iconst hx hb dL_law_1103 ?_
  refine x_iadd hx hb dL_law_1104 ?_
  refine x_sld hx hb hX hbl hbA hS (i + 1) (by omega) (by omega) hL ezs dL_law_1105 ?_
  refine lv_aload_n hx hb dL_law_1106 rfl (lv_at hl 4 rfl) ?_
  refine lv_iload hx hb dL_law_1107 (lv_at hl 0 rfl) ?_
  refine x_iconst hx hb dL_law_1109 ?_
  refine x_iadd hx hb dL_law_1110 ?_
  refine x_sld hx hb hX hbl hbA hS (i + 2) (by omega) (by omega) hL ezr dL_law_1111 ?_
  refine lv_aload_n hx hb dL_law_1112 rfl (lv_at hl 1 rfl) ?_
  refine x_wI (vx_runSW (As := [.ref s.heap.size, .int (zI zs), .int (zI zr), .ref (s.heap.size + 134)]) (rest := []) ⟨hx, hb, hml, hown, hts⟩ (c_L_meanDenominator l hfl G s.heap.size (s.heap.size + 134) s.heap.size (Nat.le_refl _) (by omega) b zs hzs zr hzr) (vx_cwSW 4 hts gL_law_L_meanDenominator rfl rfl rfl (by decide +kernel) ⟨Nat.le_of_ble_eq_true rfl, Nat.le_of_ble_eq_true rfl⟩) (x_preW hW hJ hI hK hT hN hS (fun q h => h)) rfl rfl hl.1 rfl (lv_room (Nat.le_of_ble_eq_true rfl)) dL_law_1113 hc) hS (fun q _ (h : xB s.heap.size (s.heap.size + 134) q) => (by rcases h with h | h <;> omega : s.heap.size ≤ q)) (fun q (h : xB s.heap.size (s.heap.size + 134) q) => (by rcases h with h | h <;> omega : s.heap.size ≤ q)) (fun H1 locs1 hP hz hk hS => ?_)
  obtain ⟨hX1, w1, hJ1, hw1⟩ := hP
  have hM1 := hM.kept (fun a h1 h2 => hk a (by omega) (fun (h : xB s.heap.size (s.heap.size + 134) a) => by rcases h with h | h <;> omega))
  refine lv_istore (lv' := [(5, .int (zI (oK_meanDenominator b zs zr))), (4, .int (zI (i : Int))), (3, .ref (s.heap.size + 134)), (2, .ref (s.heap.size + 127)), (1, .ref s.heap.size), (0, .ref b0)]) hx hb dL_law_1116 hl (by decide) rfl (fun ls hl => ?_)
  refine lv_aload_n hx hb dL_law_1118 rfl (lv_at hl 3 rfl) ?_
  refine lv_aload_n hx hb dL_law_1119 rfl (lv_at hl 5 rfl) ?_
  refine lv_iload hx hb dL_law_1120 (lv_at hl 1 rfl) ?_
  refine x_iconst hx hb dL_law_1122 ?_
  refine x_iadd hx hb dL_law_1123 ?_
  refine x_sld hx hb hX hbl hbA hS (i + 1) (by omega) (by omega) hL ezs dL_law_1124 ?_
  refine lv_aload_n hx hb dL_law_1125 rfl (lv_at hl 5 rfl) ?_
  refine lv_iload hx hb dL_law_1126 (lv_at hl 1 rfl) ?_
  refine x_iconst hx hb dL_law_1128 ?_
  refine x_iadd hx hb dL_law_1129 ?_
  refine x_sld hx hb hX hbl hbA hS (i + 2) (by omega) (by omega) hL ezr dL_law_1130 ?_
  refine va_calll (va_runV (As := [.int (zI zs), .int (zI zr)]) (rest := []) ⟨hx, hb, hml, hown, hts⟩ (c_X4_meanDenominator l G (s.heap.size + 127) b th ov un zs hzs zr hzr) (cwV 2 hts gL_law_X4_meanDenominator rfl rfl rfl (by decide +kernel) ⟨Nat.le_of_ble_eq_true rfl, Nat.le_of_ble_eq_true rfl⟩) (x_preM hM1 hI hK) rfl rfl hl.1 rfl (lv_room (Nat.le_of_ble_eq_true rfl)) dL_law_1131 hc) hS (fun q _ (h : mA (s.heap.size + 127) q) => (by omega : s.heap.size ≤ q)) (fun q (h : mA (s.heap.size + 127) q) => (by omega : s.heap.size ≤ q)) (fun r u t H2 locs2 ht _ hr6 hB hz2 hk2 hS => ?_)
  obtain ⟨Hx, e1, ov2, un2, hM2⟩ := hB
  have e2 : Hx = H2 := e1.symm.trans ht
  subst e2
  replace hM2 : MW G (s.heap.size + 127) (if (oK_meanDenominator b zs zr) = 0 then (oB_meanDenominator b zs zr) else b) (oK_meanDenominator b zs zr) ov2 un2 Hx := hM2
  replace hr6 : (oK_meanDenominator b zs zr) = 0 → r = lI (oV_meanDenominator b zs zr) := hr6
  have hJ2 := hJ1.kept (hk2 _ hJ1.lt (fun (h : s.heap.size + 127 ≤ s.heap.size + 134 ∧ s.heap.size + 134 < s.heap.size + 127 + 7) => by omega))
  have hX2 : BX G s.heap.size (if (oK_meanDenominator b zs zr) = 0 then (oB_meanDenominator b zs zr) else b) Hx := by
    obtain ⟨lim2, dif2, hX1⟩ := hX1
    have hlt := hX1.lt
    exact ⟨lim2, dif2, hX1.kept (fun a h1 h2 => hk2 a (by omega) (fun (h : s.heap.size + 127 ≤ a ∧ a < s.heap.size + 127 + 7) => by omega))⟩
  have hI2 : bInv (if (oK_meanDenominator b zs zr) = 0 then (oB_meanDenominator b zs zr) else b) := by
    split
    · exact oI_meanDenominator hI (by assumption)
    · exact hI
  have hkr := oR_meanDenominator b zs zr
  have hw2 : (oK_meanDenominator b zs zr) = 0 → w1 0 = lI (oV_meanDenominator b zs zr) := hw1
  have hLI : LI G s.heap.size (if (oK_meanDenominator b zs zr) = 0 then (oB_meanDenominator b zs zr) else b) s Hx locs2 := ⟨hX2, ⟨w1, hJ2⟩, hI2, ⟨_, _, _, hM2⟩, hS⟩
  generalize hkz : (oK_meanDenominator b zs zr) = kz at *
  generalize (if kz = 0 then (oB_meanDenominator b zs zr) else b) = b9 at *
  refine lv_lstore (lv' := [(6, .long r), (5, .int (zI kz)), (4, .int (zI (i : Int))), (3, .ref (s.heap.size + 134)), (2, .ref (s.heap.size + 127)), (1, .ref s.heap.size), (0, .ref b0)]) hx hb dL_law_1134 hl (by decide) rfl (fun ls hl => ?_)
  refine lv_aload_n hx hb dL_law_1136 rfl (lv_at hl 4 rfl) ?_
  refine x_cI (va_runV (As := []) (rest := []) ⟨hx, hb, hml, hown, hts⟩ (c_X4_thrown l G (s.heap.size + 127) b9 kz ov2 un2) (cwV 0 hts gL_law_X4_thrown rfl rfl rfl (by decide +kernel) ⟨Nat.le_of_ble_eq_true rfl, Nat.le_of_ble_eq_true rfl⟩) (x_preM hM2 hI2 hK) rfl rfl hl.1 rfl (lv_room (Nat.le_of_ble_eq_true rfl)) dL_law_1137 hc) ?_
  refine lv_iload hx hb dL_law_1140 (lv_at hl 1 rfl) ?_
  refine lv_icmp_eq (tgt := 1147) hx hb dL_law_1142 (by decide) (fun _ => ?_) (fun h => absurd rfl h)
  refine lv_iload hx hb dL_law_1147 (lv_at hl 1 rfl) ?_
  refine x_if_ne (tgt := 1163) hx hb dL_law_1149 (by decide) (by omega) (fun hn => ?_) (fun hk0 => ?_)
  · refine lv_goto (tgt := 1642) hx hb dL_law_1163 (by decide) ?_
    exact kk _ _ _ _ hLI (lv_sub hl [2, 3, 4, 5, 6] rfl)
  · refine lv_aload_n hx hb dL_law_1152 rfl (lv_at hl 3 rfl) ?_
    refine x_iconst hx hb dL_law_1153 ?_
    refine x_lald hx hb hK hJ2 0 (by decide) (by decide) (by decide) dL_law_1154 ?_
    rw [hw2 hk0]
    refine lv_lload hx hb dL_law_1155 (lv_at hl 0 rfl) ?_
    rw [hr6 hk0]
    refine x_lcmpS hx hb dL_law_1157 ?_
    refine lv_if_eq (tgt := 1163) hx hb dL_law_1158 (by decide) (fun _ => ?_) (fun h => absurd rfl h)
    refine lv_goto (tgt := 1642) hx hb dL_law_1163 (by decide) ?_
    exact kk _ _ _ _ hLI (lv_sub hl [2, 3, 4, 5, 6] rfl)
theorem oR_best (b : XB) (zr : Int) : 0 ≤ (oK_best b zr) ∧ (oK_best b zr) ≤ 2 := kR_rng (Or.inl rfl)
theorem oI_best {b : XB} {zr : Int} (hi : bInv b) (h : (oK_best b zr) = 0) : bInv (oB_best b zr) := by
  exact hi
set_option maxHeartbeats 4000000 in
set_option maxRecDepth 100000 in
theorem cs_best {p : Program} {l : Launch} {e : Env} {s : State} {m : MethodId} {below : List Frame} {meth : Method} {c : Code} {b0 L : Nat} {xs : Nat → Int32} {G : XG} (C : CF p l s m c b0 L xs G) {Q : State → Prop} {b : XB} {H : Heap} {locs : List Loc} {cells slots : Nat} {ls : Array Slot} (i : Nat) (hi : i + 5 ≤ L) (hL : L ≤ 2560) (I : LI G s.heap.size b s H locs) (hl : lv_has ls 8 [(4, .int (zI (i : Int))), (3, .ref (s.heap.size + 134)), (2, .ref (s.heap.size + 127)), (1, .ref s.heap.size), (0, .ref b0)]) (hc : cells + 8 ≤ 601024 ∧ slots + 48 ≤ 7293034)
    (kk : ∀ (b9 : XB) (H9 : Heap) (locs9 : List Loc) (ls9 : Array Slot), LI G s.heap.size b9 s H9 locs9 → lv_has ls9 8 [(4, .int (zI (i : Int))), (3, .ref (s.heap.size + 134)), (2, .ref (s.heap.size + 127)), (1, .ref s.heap.size), (0, .ref b0)] → W p l e room_1 s m #[Value.ref b0] below meth c H9 locs9 (cells + 8) (slots + 48) Q (F0 m 1642 ls9 [])) : W p l e room_1 s m #[Value.ref b0] below meth c H locs cells slots Q (F0 m 1166 ls []) := by
  obtain ⟨hx, hb, hml, hown, hts, hX, hbl, hK, hT, hN, hfl⟩ := C
  obtain ⟨hW, hJ, hI, ⟨th, ov, un, hM⟩, hS⟩ := I
  have hbA : ¬ (s.heap.size ≤ b0) := by omega
  have hMlt := hM.lt
  obtain ⟨zr, hzr, ezr⟩ := x_num (xs (i + 1))
  refine lv_aload_n hx hb dL_law_1166 rfl (lv_at hl 3 rfl) ?_
  refine lv_aload_n hx hb dL_law_1167 rfl (lv_at hl 4 rfl) ?_
  refine lv_iload hx hb dL_law_1168 (lv_at hl 0 rfl) ?_
  refine x_iconst hx hb dL_law_1170 ?_
  refine x_iadd hx hb dL_law_1171 ?_
  refine x_sld hx hb hX hbl hbA hS (i + 1) (by omega) (by omega) hL ezr dL_law_1172 ?_
  refine lv_aload_n hx hb dL_law_1173 rfl (lv_at hl 1 rfl) ?_
  refine x_wI (vx_runSW (As := [.ref s.heap.size, .int (zI zr), .ref (s.heap.size + 134)]) (rest := []) ⟨hx, hb, hml, hown, hts⟩ (c_L_best l hfl G s.heap.size (s.heap.size + 134) s.heap.size (Nat.le_refl _) (by omega) b zr hzr) (vx_cwSW 3 hts gL_law_L_best rfl rfl rfl (by decide +kernel) ⟨Nat.le_of_ble_eq_true rfl, Nat.le_of_ble_eq_true rfl⟩) (x_preW hW hJ hI hK hT hN hS (fun q h => h)) rfl rfl hl.1 rfl (lv_room (Nat.le_of_ble_eq_true rfl)) dL_law_1174 hc) hS (fun q _ (h : xB s.heap.size (s.heap.size + 134) q) => (by rcases h with h | h <;> omega : s.heap.size ≤ q)) (fun q (h : xB s.heap.size (s.heap.size + 134) q) => (by rcases h with h | h <;> omega : s.heap.size ≤ q)) (fun H1 locs1 hP hz hk hS => ?_)
  obtain ⟨hX1, w1, hJ1, hw1⟩ := hP
  have hM1 := hM.kept (fun a h1 h2 => hk a (by omega) (fun (h : xB s.heap.size (s.heap.size + 134) a) => by rcases h with h | h <;> omega))
  refine lv_istore (lv' := [(5, .int (zI (oK_best b zr))), (4, .int (zI (i : Int))), (3, .ref (s.heap.size + 134)), (2, .ref (s.heap.size + 127)), (1, .ref s.heap.size), (0, .ref b0)]) hx hb dL_law_1177 hl (by decide) rfl (fun ls hl => ?_)
  refine lv_aload_n hx hb dL_law_1179 rfl (lv_at hl 3 rfl) ?_
  refine lv_aload_n hx hb dL_law_1180 rfl (lv_at hl 5 rfl) ?_
  refine lv_iload hx hb dL_law_1181 (lv_at hl 1 rfl) ?_
  refine x_iconst hx hb dL_law_1183 ?_
  refine x_iadd hx hb dL_law_1184 ?_
  refine x_sld hx hb hX hbl hbA hS (i + 1) (by omega) (by omega) hL ezr dL_law_1185 ?_
  refine va_calli (va_runV (As := [.int (zI zr)]) (rest := []) ⟨hx, hb, hml, hown, hts⟩ (c_X4_best l G (s.heap.size + 127) b th ov un zr hzr) (cwV 1 hts gL_law_X4_best rfl rfl rfl (by decide +kernel) ⟨Nat.le_of_ble_eq_true rfl, Nat.le_of_ble_eq_true rfl⟩) (x_preM hM1 hI hK) rfl rfl hl.1 rfl (lv_room (Nat.le_of_ble_eq_true rfl)) dL_law_1186 hc) hS (fun q _ (h : mA (s.heap.size + 127) q) => (by omega : s.heap.size ≤ q)) (fun q (h : mA (s.heap.size + 127) q) => (by omega : s.heap.size ≤ q)) (fun r u t H2 locs2 ht _ hr6 hB hz2 hk2 hS => ?_)
  obtain ⟨Hx, e1, ov2, un2, hM2⟩ := hB
  have e2 : Hx = H2 := e1.symm.trans ht
  subst e2
  replace hM2 : MW G (s.heap.size + 127) (if (oK_best b zr) = 0 then (oB_best b zr) else b) (oK_best b zr) ov2 un2 Hx := hM2
  replace hr6 : (oK_best b zr) = 0 → r = zI (oV_best b zr) := hr6
  have hJ2 := hJ1.kept (hk2 _ hJ1.lt (fun (h : s.heap.size + 127 ≤ s.heap.size + 134 ∧ s.heap.size + 134 < s.heap.size + 127 + 7) => by omega))
  have hX2 : BX G s.heap.size (if (oK_best b zr) = 0 then (oB_best b zr) else b) Hx := by
    obtain ⟨lim2, dif2, hX1⟩ := hX1
    have hlt := hX1.lt
    exact ⟨lim2, dif2, hX1.kept (fun a h1 h2 => hk2 a (by omega) (fun (h : s.heap.size + 127 ≤ a ∧ a < s.heap.size + 127 + 7) => by omega))⟩
  have hI2 : bInv (if (oK_best b zr) = 0 then (oB_best b zr) else b) := by
    split
    · exact oI_best hI (by assumption)
    · exact hI
  have hkr := oR_best b zr
  have hw2 : (oK_best b zr) = 0 → w1 0 = (zI (oV_best b zr)).toInt64 := hw1
  have hLI : LI G s.heap.size (if (oK_best b zr) = 0 then (oB_best b zr) else b) s Hx locs2 := ⟨hX2, ⟨w1, hJ2⟩, hI2, ⟨_, _, _, hM2⟩, hS⟩
  generalize hkz : (oK_best b zr) = kz at *
  generalize (if kz = 0 then (oB_best b zr) else b) = b9 at *
  refine lv_istore (lv' := [(6, .int r), (5, .int (zI kz)), (4, .int (zI (i : Int))), (3, .ref (s.heap.size + 134)), (2, .ref (s.heap.size + 127)), (1, .ref s.heap.size), (0, .ref b0)]) hx hb dL_law_1189 hl (by decide) rfl (fun ls hl => ?_)
  refine lv_aload_n hx hb dL_law_1191 rfl (lv_at hl 4 rfl) ?_
  refine x_cI (va_runV (As := []) (rest := []) ⟨hx, hb, hml, hown, hts⟩ (c_X4_thrown l G (s.heap.size + 127) b9 kz ov2 un2) (cwV 0 hts gL_law_X4_thrown rfl rfl rfl (by decide +kernel) ⟨Nat.le_of_ble_eq_true rfl, Nat.le_of_ble_eq_true rfl⟩) (x_preM hM2 hI2 hK) rfl rfl hl.1 rfl (lv_room (Nat.le_of_ble_eq_true rfl)) dL_law_1192 hc) ?_
  refine lv_iload hx hb dL_law_1195 (lv_at hl 1 rfl) ?_
  refine lv_icmp_eq (tgt := 1202) hx hb dL_law_1197 (by decide) (fun _ => ?_) (fun h => absurd rfl h)
  refine lv_iload hx hb dL_law_1202 (lv_at hl 1 rfl) ?_
  refine x_if_ne (tgt := 1219) hx hb dL_law_1204 (by decide) (by omega) (fun hn => ?_) (fun hk0 => ?_)
  · refine lv_goto (tgt := 1642) hx hb dL_law_1219 (by decide) ?_
    exact kk _ _ _ _ hLI (lv_sub hl [2, 3, 4, 5, 6] rfl)
  · refine lv_aload_n hx hb dL_law_1207 rfl (lv_at hl 3 rfl) ?_
    refine x_iconst hx hb dL_law_1208 ?_
    refine x_lald hx hb hK hJ2 0 (by decide) (by decide) (by decide) dL_law_1209 ?_
    rw [hw2 hk0]
    refine lv_iload hx hb dL_law_1210 (lv_at hl 0 rfl) ?_
    refine lv_i2l hx hb dL_law_1212 (congrArg Int32.toInt64 (hr6 hk0)) ?_
    refine x_lcmpS hx hb dL_law_1213 ?_
    refine lv_if_eq (tgt := 1219) hx hb dL_law_1214 (by decide) (fun _ => ?_) (fun h => absurd rfl h)
    refine lv_goto (tgt := 1642) hx hb dL_law_1219 (by decide) ?_
    exact kk _ _ _ _ hLI (lv_sub hl [2, 3, 4, 5, 6] rfl)
theorem oR_cross (b : XB) (z1 z2 zq zl : Int) : 0 ≤ (oK_cross b z1 z2 zq zl) ∧ (oK_cross b z1 z2 zq zl) ≤ 2 := kR_rng (Or.inl rfl)
theorem oI_cross {b : XB} {z1 z2 zq zl : Int} (hi : bInv b) (h : (oK_cross b z1 z2 zq zl) = 0) : bInv (oB_cross b z1 z2 zq zl) := by
  have hp := (kR_0 h).1
  exact crI_inv hi (by omega) (by omega) (by omega) _
set_option maxHeartbeats 4000000 in
set_option maxRecDepth 100000 in
theorem cs_cross {p : Program} {l : Launch} {e : Env} {s : State} {m : MethodId} {below : List Frame} {meth : Method} {c : Code} {b0 L : Nat} {xs : Nat → Int32} {G : XG} (C : CF p l s m c b0 L xs G) {Q : State → Prop} {b : XB} {H : Heap} {locs : List Loc} {cells slots : Nat} {ls : Array Slot} (i : Nat) (hi : i + 5 ≤ L) (hL : L ≤ 2560) (I : LI G s.heap.size b s H locs) (hl : lv_has ls 8 [(4, .int (zI (i : Int))), (3, .ref (s.heap.size + 134)), (2, .ref (s.heap.size + 127)), (1, .ref s.heap.size), (0, .ref b0)]) (hc : cells + 8 ≤ 601024 ∧ slots + 48 ≤ 7293034)
    (kk : ∀ (b9 : XB) (H9 : Heap) (locs9 : List Loc) (ls9 : Array Slot), LI G s.heap.size b9 s H9 locs9 → lv_has ls9 8 [(4, .int (zI (i : Int))), (3, .ref (s.heap.size + 134)), (2, .ref (s.heap.size + 127)), (1, .ref s.heap.size), (0, .ref b0)] → W p l e room_1 s m #[Value.ref b0] below meth c H9 locs9 (cells + 8) (slots + 48) Q (F0 m 1642 ls9 [])) : W p l e room_1 s m #[Value.ref b0] below meth c H locs cells slots Q (F0 m 1222 ls []) := by
  obtain ⟨hx, hb, hml, hown, hts, hX, hbl, hK, hT, hN, hfl⟩ := C
  obtain ⟨hW, hJ, hI, ⟨th, ov, un, hM⟩, hS⟩ := I
  have hbA : ¬ (s.heap.size ≤ b0) := by omega
  have hMlt := hM.lt
  obtain ⟨z1, hz1, ez1⟩ := x_num (xs (i + 1))
  obtain ⟨z2, hz2, ez2⟩ := x_num (xs (i + 2))
  obtain ⟨zq, hzq, ezq⟩ := x_num (xs (i + 3))
  obtain ⟨zl, hzl, ezl⟩ := x_num (xs (i + 4))
  refine lv_aload_n hx hb dL_law_1222 rfl (lv_at hl 3 rfl) ?_
  refine lv_aload_n hx hb dL_law_1223 rfl (lv_at hl 4 rfl) ?_
  refine lv_iload hx hb dL_law_1224 (lv_at hl 0 rfl) ?_
  refine x_iconst hx hb dL_law_1226 ?_
  refine x_iadd hx hb dL_law_1227 ?_
  refine x_sld hx hb hX hbl hbA hS (i + 1) (by omega) (by omega) hL ez1 dL_law_1228 ?_
  refine lv_aload_n hx hb dL_law_1229 rfl (lv_at hl 4 rfl) ?_
  refine lv_iload hx hb dL_law_1230 (lv_at hl 0 rfl) ?_
  refine x_iconst hx hb dL_law_1232 ?_
  refine x_iadd hx hb dL_law_1233 ?_
  refine x_sld hx hb hX hbl hbA hS (i + 2) (by omega) (by omega) hL ez2 dL_law_1234 ?_
  refine lv_aload_n hx hb dL_law_1235 rfl (lv_at hl 4 rfl) ?_
  refine lv_iload hx hb dL_law_1236 (lv_at hl 0 rfl) ?_
  refine x_iconst hx hb dL_law_1238 ?_
  refine x_iadd hx hb dL_law_1239 ?_
  refine x_sld hx hb hX hbl hbA hS (i + 3) (by omega) (by omega) hL ezq dL_law_1240 ?_
  refine lv_aload_n hx hb dL_law_1241 rfl (lv_at hl 4 rfl) ?_
  refine lv_iload hx hb dL_law_1242 (lv_at hl 0 rfl) ?_
  refine x_iconst hx hb dL_law_1244 ?_
  refine x_iadd hx hb dL_law_1245 ?_
  refine x_sld hx hb hX hbl hbA hS (i + 4) (by omega) (by omega) hL ezl dL_law_1246 ?_
  refine lv_aload_n hx hb dL_law_1247 rfl (lv_at hl 1 rfl) ?_
  refine x_wI (vx_runSW (As := [.ref s.heap.size, .int (zI z1), .int (zI z2), .int (zI zq), .int (zI zl), .ref (s.heap.size + 134)]) (rest := []) ⟨hx, hb, hml, hown, hts⟩ (c_L_cross l hfl G s.heap.size (s.heap.size + 134) s.heap.size (Nat.le_refl _) (by omega) b z1 hz1 z2 hz2 zq hzq zl hzl) (vx_cwSW 6 hts gL_law_L_cross rfl rfl rfl (by decide +kernel) ⟨Nat.le_of_ble_eq_true rfl, Nat.le_of_ble_eq_true rfl⟩) (x_preW hW hJ hI hK hT hN hS (fun q h => h)) rfl rfl hl.1 rfl (lv_room (Nat.le_of_ble_eq_true rfl)) dL_law_1248 hc) hS (fun q _ (h : xB s.heap.size (s.heap.size + 134) q) => (by rcases h with h | h <;> omega : s.heap.size ≤ q)) (fun q (h : xB s.heap.size (s.heap.size + 134) q) => (by rcases h with h | h <;> omega : s.heap.size ≤ q)) (fun H1 locs1 hP hz hk hS => ?_)
  obtain ⟨hX1, w1, hJ1, hw1⟩ := hP
  have hM1 := hM.kept (fun a h1 h2 => hk a (by omega) (fun (h : xB s.heap.size (s.heap.size + 134) a) => by rcases h with h | h <;> omega))
  refine lv_istore (lv' := [(5, .int (zI (oK_cross b z1 z2 zq zl))), (4, .int (zI (i : Int))), (3, .ref (s.heap.size + 134)), (2, .ref (s.heap.size + 127)), (1, .ref s.heap.size), (0, .ref b0)]) hx hb dL_law_1251 hl (by decide) rfl (fun ls hl => ?_)
  refine lv_aload_n hx hb dL_law_1253 rfl (lv_at hl 3 rfl) ?_
  refine lv_aload_n hx hb dL_law_1254 rfl (lv_at hl 5 rfl) ?_
  refine lv_iload hx hb dL_law_1255 (lv_at hl 1 rfl) ?_
  refine x_iconst hx hb dL_law_1257 ?_
  refine x_iadd hx hb dL_law_1258 ?_
  refine x_sld hx hb hX hbl hbA hS (i + 1) (by omega) (by omega) hL ez1 dL_law_1259 ?_
  refine lv_aload_n hx hb dL_law_1260 rfl (lv_at hl 5 rfl) ?_
  refine lv_iload hx hb dL_law_1261 (lv_at hl 1 rfl) ?_
  refine x_iconst hx hb dL_law_1263 ?_
  refine x_iadd hx hb dL_law_1264 ?_
  refine x_sld hx hb hX hbl hbA hS (i + 2) (by omega) (by omega) hL ez2 dL_law_1265 ?_
  refine lv_aload_n hx hb dL_law_1266 rfl (lv_at hl 5 rfl) ?_
  refine lv_iload hx hb dL_law_1267 (lv_at hl 1 rfl) ?_
  refine x_iconst hx hb dL_law_1269 ?_
  refine x_iadd hx hb dL_law_1270 ?_
  refine x_sld hx hb hX hbl hbA hS (i + 3) (by omega) (by omega) hL ezq dL_law_1271 ?_
  refine lv_aload_n hx hb dL_law_1272 rfl (lv_at hl 5 rfl) ?_
  refine lv_iload hx hb dL_law_1273 (lv_at hl 1 rfl) ?_
  refine x_iconst hx hb dL_law_1275 ?_
  refine x_iadd hx hb dL_law_1276 ?_
  refine x_sld hx hb hX hbl hbA hS (i + 4) (by omega) (by omega) hL ezl dL_law_1277 ?_
  refine va_calli (va_runV (As := [.int (zI z1), .int (zI z2), .int (zI zq), .int (zI zl)]) (rest := []) ⟨hx, hb, hml, hown, hts⟩ (c_X4_cross l G (s.heap.size + 127) b th ov un z1 hz1 z2 hz2 zq hzq zl hzl) (cwV 4 hts gL_law_X4_cross rfl rfl rfl (by decide +kernel) ⟨Nat.le_of_ble_eq_true rfl, Nat.le_of_ble_eq_true rfl⟩) (x_preM hM1 hI hK) rfl rfl hl.1 rfl (lv_room (Nat.le_of_ble_eq_true rfl)) dL_law_1278 hc) hS (fun q _ (h : mA (s.heap.size + 127) q) => (by omega : s.heap.size ≤ q)) (fun q (h : mA (s.heap.size + 127) q) => (by omega : s.heap.size ≤ q)) (fun r u t H2 locs2 ht _ hr6 hB hz2 hk2 hS => ?_)
  obtain ⟨Hx, e1, ov2, un2, hM2⟩ := hB
  have e2 : Hx = H2 := e1.symm.trans ht
  subst e2
  replace hM2 : MW G (s.heap.size + 127) (if (oK_cross b z1 z2 zq zl) = 0 then (oB_cross b z1 z2 zq zl) else b) (oK_cross b z1 z2 zq zl) ov2 un2 Hx := hM2
  replace hr6 : (oK_cross b z1 z2 zq zl) = 0 → r = zI (oV_cross b z1 z2 zq zl) := hr6
  have hJ2 := hJ1.kept (hk2 _ hJ1.lt (fun (h : s.heap.size + 127 ≤ s.heap.size + 134 ∧ s.heap.size + 134 < s.heap.size + 127 + 7) => by omega))
  have hX2 : BX G s.heap.size (if (oK_cross b z1 z2 zq zl) = 0 then (oB_cross b z1 z2 zq zl) else b) Hx := by
    obtain ⟨lim2, dif2, hX1⟩ := hX1
    have hlt := hX1.lt
    exact ⟨lim2, dif2, hX1.kept (fun a h1 h2 => hk2 a (by omega) (fun (h : s.heap.size + 127 ≤ a ∧ a < s.heap.size + 127 + 7) => by omega))⟩
  have hI2 : bInv (if (oK_cross b z1 z2 zq zl) = 0 then (oB_cross b z1 z2 zq zl) else b) := by
    split
    · exact oI_cross hI (by assumption)
    · exact hI
  have hkr := oR_cross b z1 z2 zq zl
  have hw2 : (oK_cross b z1 z2 zq zl) = 0 → w1 0 = (zI (oV_cross b z1 z2 zq zl)).toInt64 := hw1
  have hLI : LI G s.heap.size (if (oK_cross b z1 z2 zq zl) = 0 then (oB_cross b z1 z2 zq zl) else b) s Hx locs2 := ⟨hX2, ⟨w1, hJ2⟩, hI2, ⟨_, _, _, hM2⟩, hS⟩
  generalize hkz : (oK_cross b z1 z2 zq zl) = kz at *
  generalize (if kz = 0 then (oB_cross b z1 z2 zq zl) else b) = b9 at *
  refine lv_istore (lv' := [(6, .int r), (5, .int (zI kz)), (4, .int (zI (i : Int))), (3, .ref (s.heap.size + 134)), (2, .ref (s.heap.size + 127)), (1, .ref s.heap.size), (0, .ref b0)]) hx hb dL_law_1281 hl (by decide) rfl (fun ls hl => ?_)
  refine lv_aload_n hx hb dL_law_1283 rfl (lv_at hl 4 rfl) ?_
  refine x_cI (va_runV (As := []) (rest := []) ⟨hx, hb, hml, hown, hts⟩ (c_X4_thrown l G (s.heap.size + 127) b9 kz ov2 un2) (cwV 0 hts gL_law_X4_thrown rfl rfl rfl (by decide +kernel) ⟨Nat.le_of_ble_eq_true rfl, Nat.le_of_ble_eq_true rfl⟩) (x_preM hM2 hI2 hK) rfl rfl hl.1 rfl (lv_room (Nat.le_of_ble_eq_true rfl)) dL_law_1284 hc) ?_
  refine lv_iload hx hb dL_law_1287 (lv_at hl 1 rfl) ?_
  refine lv_icmp_eq (tgt := 1294) hx hb dL_law_1289 (by decide) (fun _ => ?_) (fun h => absurd rfl h)
  refine lv_iload hx hb dL_law_1294 (lv_at hl 1 rfl) ?_
  refine x_if_ne (tgt := 1311) hx hb dL_law_1296 (by decide) (by omega) (fun hn => ?_) (fun hk0 => ?_)
  · refine lv_goto (tgt := 1642) hx hb dL_law_1311 (by decide) ?_
    exact kk _ _ _ _ hLI (lv_sub hl [2, 3, 4, 5, 6] rfl)
  · refine lv_aload_n hx hb dL_law_1299 rfl (lv_at hl 3 rfl) ?_
    refine x_iconst hx hb dL_law_1300 ?_
    refine x_lald hx hb hK hJ2 0 (by decide) (by decide) (by decide) dL_law_1301 ?_
    rw [hw2 hk0]
    refine lv_iload hx hb dL_law_1302 (lv_at hl 0 rfl) ?_
    refine lv_i2l hx hb dL_law_1304 (congrArg Int32.toInt64 (hr6 hk0)) ?_
    refine x_lcmpS hx hb dL_law_1305 ?_
    refine lv_if_eq (tgt := 1311) hx hb dL_law_1306 (by decide) (fun _ => ?_) (fun h => absurd rfl h)
    refine lv_goto (tgt := 1642) hx hb dL_law_1311 (by decide) ?_
    exact kk _ _ _ _ hLI (lv_sub hl [2, 3, 4, 5, 6] rfl)
theorem oR_crossed (b : XB) (zr : Int) : 0 ≤ (oK_crossed b zr) ∧ (oK_crossed b zr) ≤ 2 := kR_rng (Or.inl rfl)
theorem oI_crossed {b : XB} {zr : Int} (hi : bInv b) (h : (oK_crossed b zr) = 0) : bInv (oB_crossed b zr) := by
  exact hi
set_option maxHeartbeats 4000000 in
set_option maxRecDepth 100000 in
theorem cs_crossed {p : Program} {l : Launch} {e : Env} {s : State} {m : MethodId} {below : List Frame} {meth : Method} {c : Code} {b0 L : Nat} {xs : Nat → Int32} {G : XG} (C : CF p l s m c b0 L xs G) {Q : State → Prop} {b : XB} {H : Heap} {locs : List Loc} {cells slots : Nat} {ls : Array Slot} (i : Nat) (hi : i + 5 ≤ L) (hL : L ≤ 2560) (I : LI G s.heap.size b s H locs) (hl : lv_has ls 8 [(4, .int (zI (i : Int))), (3, .ref (s.heap.size + 134)), (2, .ref (s.heap.size + 127)), (1, .ref s.heap.size), (0, .ref b0)]) (hc : cells + 8 ≤ 601024 ∧ slots + 48 ≤ 7293034)
    (kk : ∀ (b9 : XB) (H9 : Heap) (locs9 : List Loc) (ls9 : Array Slot), LI G s.heap.size b9 s H9 locs9 → lv_has ls9 8 [(4, .int (zI (i : Int))), (3, .ref (s.heap.size + 134)), (2, .ref (s.heap.size + 127)), (1, .ref s.heap.size), (0, .ref b0)] → W p l e room_1 s m #[Value.ref b0] below meth c H9 locs9 (cells + 8) (slots + 48) Q (F0 m 1642 ls9 [])) : W p l e room_1 s m #[Value.ref b0] below meth c H locs cells slots Q (F0 m 1314 ls []) := by
  obtain ⟨hx, hb, hml, hown, hts, hX, hbl, hK, hT, hN, hfl⟩ := C
  obtain ⟨hW, hJ, hI, ⟨th, ov, un, hM⟩, hS⟩ := I
  have hbA : ¬ (s.heap.size ≤ b0) := by omega
  have hMlt := hM.lt
  obtain ⟨zr, hzr, ezr⟩ := x_num (xs (i + 1))
  refine lv_aload_n hx hb dL_law_1314 rfl (lv_at hl 3 rfl) ?_
  refine lv_aload_n hx hb dL_law_1315 rfl (lv_at hl 4 rfl) ?_
  refine lv_iload hx hb dL_law_1316 (lv_at hl 0 rfl) ?_
  refine x_iconst hx hb dL_law_1318 ?_
  refine x_iadd hx hb dL_law_1319 ?_
  refine x_sld hx hb hX hbl hbA hS (i + 1) (by omega) (by omega) hL ezr dL_law_1320 ?_
  refine lv_aload_n hx hb dL_law_1321 rfl (lv_at hl 1 rfl) ?_
  refine x_wI (vx_runSW (As := [.ref s.heap.size, .int (zI zr), .ref (s.heap.size + 134)]) (rest := []) ⟨hx, hb, hml, hown, hts⟩ (c_L_crossed l hfl G s.heap.size (s.heap.size + 134) s.heap.size (Nat.le_refl _) (by omega) b zr hzr) (vx_cwSW 3 hts gL_law_L_crossed rfl rfl rfl (by decide +kernel) ⟨Nat.le_of_ble_eq_true rfl, Nat.le_of_ble_eq_true rfl⟩) (x_preW hW hJ hI hK hT hN hS (fun q h => h)) rfl rfl hl.1 rfl (lv_room (Nat.le_of_ble_eq_true rfl)) dL_law_1322 hc) hS (fun q _ (h : xB s.heap.size (s.heap.size + 134) q) => (by rcases h with h | h <;> omega : s.heap.size ≤ q)) (fun q (h : xB s.heap.size (s.heap.size + 134) q) => (by rcases h with h | h <;> omega : s.heap.size ≤ q)) (fun H1 locs1 hP hz hk hS => ?_)
  obtain ⟨hX1, w1, hJ1, hw1⟩ := hP
  have hM1 := hM.kept (fun a h1 h2 => hk a (by omega) (fun (h : xB s.heap.size (s.heap.size + 134) a) => by rcases h with h | h <;> omega))
  refine lv_istore (lv' := [(5, .int (zI (oK_crossed b zr))), (4, .int (zI (i : Int))), (3, .ref (s.heap.size + 134)), (2, .ref (s.heap.size + 127)), (1, .ref s.heap.size), (0, .ref b0)]) hx hb dL_law_1325 hl (by decide) rfl (fun ls hl => ?_)
  refine lv_aload_n hx hb dL_law_1327 rfl (lv_at hl 3 rfl) ?_
  refine lv_aload_n hx hb dL_law_1328 rfl (lv_at hl 5 rfl) ?_
  refine lv_iload hx hb dL_law_1329 (lv_at hl 1 rfl) ?_
  refine x_iconst hx hb dL_law_1331 ?_
  refine x_iadd hx hb dL_law_1332 ?_
  refine x_sld hx hb hX hbl hbA hS (i + 1) (by omega) (by omega) hL ezr dL_law_1333 ?_
  refine va_calli (va_runV (As := [.int (zI zr)]) (rest := []) ⟨hx, hb, hml, hown, hts⟩ (c_X4_crossed l G (s.heap.size + 127) b th ov un zr hzr) (cwV 1 hts gL_law_X4_crossed rfl rfl rfl (by decide +kernel) ⟨Nat.le_of_ble_eq_true rfl, Nat.le_of_ble_eq_true rfl⟩) (x_preM hM1 hI hK) rfl rfl hl.1 rfl (lv_room (Nat.le_of_ble_eq_true rfl)) dL_law_1334 hc) hS (fun q _ (h : mA (s.heap.size + 127) q) => (by omega : s.heap.size ≤ q)) (fun q (h : mA (s.heap.size + 127) q) => (by omega : s.heap.size ≤ q)) (fun r u t H2 locs2 ht _ hr6 hB hz2 hk2 hS => ?_)
  obtain ⟨Hx, e1, ov2, un2, hM2⟩ := hB
  have e2 : Hx = H2 := e1.symm.trans ht
  subst e2
  replace hM2 : MW G (s.heap.size + 127) (if (oK_crossed b zr) = 0 then (oB_crossed b zr) else b) (oK_crossed b zr) ov2 un2 Hx := hM2
  replace hr6 : (oK_crossed b zr) = 0 → r = zI (oV_crossed b zr) := hr6
  have hJ2 := hJ1.kept (hk2 _ hJ1.lt (fun (h : s.heap.size + 127 ≤ s.heap.size + 134 ∧ s.heap.size + 134 < s.heap.size + 127 + 7) => by omega))
  have hX2 : BX G s.heap.size (if (oK_crossed b zr) = 0 then (oB_crossed b zr) else b) Hx := by
    obtain ⟨lim2, dif2, hX1⟩ := hX1
    have hlt := hX1.lt
    exact ⟨lim2, dif2, hX1.kept (fun a h1 h2 => hk2 a (by omega) (fun (h : s.heap.size + 127 ≤ a ∧ a < s.heap.size + 127 + 7) => by omega))⟩
  have hI2 : bInv (if (oK_crossed b zr) = 0 then (oB_crossed b zr) else b) := by
    split
    · exact oI_crossed hI (by assumption)
    · exact hI
  have hkr := oR_crossed b zr
  have hw2 : (oK_crossed b zr) = 0 → w1 0 = (zI (oV_crossed b zr)).toInt64 := hw1
  have hLI : LI G s.heap.size (if (oK_crossed b zr) = 0 then (oB_crossed b zr) else b) s Hx locs2 := ⟨hX2, ⟨w1, hJ2⟩, hI2, ⟨_, _, _, hM2⟩, hS⟩
  generalize hkz : (oK_crossed b zr) = kz at *
  generalize (if kz = 0 then (oB_crossed b zr) else b) = b9 at *
  refine lv_istore (lv' := [(6, .int r), (5, .int (zI kz)), (4, .int (zI (i : Int))), (3, .ref (s.heap.size + 134)), (2, .ref (s.heap.size + 127)), (1, .ref s.heap.size), (0, .ref b0)]) hx hb dL_law_1337 hl (by decide) rfl (fun ls hl => ?_)
  refine lv_aload_n hx hb dL_law_1339 rfl (lv_at hl 4 rfl) ?_
  refine x_cI (va_runV (As := []) (rest := []) ⟨hx, hb, hml, hown, hts⟩ (c_X4_thrown l G (s.heap.size + 127) b9 kz ov2 un2) (cwV 0 hts gL_law_X4_thrown rfl rfl rfl (by decide +kernel) ⟨Nat.le_of_ble_eq_true rfl, Nat.le_of_ble_eq_true rfl⟩) (x_preM hM2 hI2 hK) rfl rfl hl.1 rfl (lv_room (Nat.le_of_ble_eq_true rfl)) dL_law_1340 hc) ?_
  refine lv_iload hx hb dL_law_1343 (lv_at hl 1 rfl) ?_
  refine lv_icmp_eq (tgt := 1350) hx hb dL_law_1345 (by decide) (fun _ => ?_) (fun h => absurd rfl h)
  refine lv_iload hx hb dL_law_1350 (lv_at hl 1 rfl) ?_
  refine x_if_ne (tgt := 1367) hx hb dL_law_1352 (by decide) (by omega) (fun hn => ?_) (fun hk0 => ?_)
  · refine lv_goto (tgt := 1642) hx hb dL_law_1367 (by decide) ?_
    exact kk _ _ _ _ hLI (lv_sub hl [2, 3, 4, 5, 6] rfl)
  · refine lv_aload_n hx hb dL_law_1355 rfl (lv_at hl 3 rfl) ?_
    refine x_iconst hx hb dL_law_1356 ?_
    refine x_lald hx hb hK hJ2 0 (by decide) (by decide) (by decide) dL_law_1357 ?_
    rw [hw2 hk0]
    refine lv_iload hx hb dL_law_1358 (lv_at hl 0 rfl) ?_
    refine lv_i2l hx hb dL_law_1360 (congrArg Int32.toInt64 (hr6 hk0)) ?_
    refine x_lcmpS hx hb dL_law_1361 ?_
    refine lv_if_eq (tgt := 1367) hx hb dL_law_1362 (by decide) (fun _ => ?_) (fun h => absurd rfl h)
    refine lv_goto (tgt := 1642) hx hb dL_law_1367 (by decide) ?_
    exact kk _ _ _ _ hLI (lv_sub hl [2, 3, 4, 5, 6] rfl)
theorem oR_click (b : XB) (zr : Int) : 0 ≤ (oK_click b zr) ∧ (oK_click b zr) ≤ 2 := kR_rng (kClkN_rng _ _)
theorem oI_click {b : XB} {zr : Int} (hi : bInv b) (h : (oK_click b zr) = 0) : bInv (oB_click b zr) := by
  exact uLC_inv hi (Nat.le_refl 1)
set_option maxHeartbeats 4000000 in
set_option maxRecDepth 100000 in
theorem cs_click {p : Program} {l : Launch} {e : Env} {s : State} {m : MethodId} {below : List Frame} {meth : Method} {c : Code} {b0 L : Nat} {xs : Nat → Int32} {G : XG} (C : CF p l s m c b0 L xs G) {Q : State → Prop} {b : XB} {H : Heap} {locs : List Loc} {cells slots : Nat} {ls : Array Slot} (i : Nat) (hi : i + 5 ≤ L) (hL : L ≤ 2560) (I : LI G s.heap.size b s H locs) (hl : lv_has ls 8 [(4, .int (zI (i : Int))), (3, .ref (s.heap.size + 134)), (2, .ref (s.heap.size + 127)), (1, .ref s.heap.size), (0, .ref b0)]) (hc : cells + 8 ≤ 601024 ∧ slots + 48 ≤ 7293034)
    (kk : ∀ (b9 : XB) (H9 : Heap) (locs9 : List Loc) (ls9 : Array Slot), LI G s.heap.size b9 s H9 locs9 → lv_has ls9 8 [(4, .int (zI (i : Int))), (3, .ref (s.heap.size + 134)), (2, .ref (s.heap.size + 127)), (1, .ref s.heap.size), (0, .ref b0)] → W p l e room_1 s m #[Value.ref b0] below meth c H9 locs9 (cells + 8) (slots + 48) Q (F0 m 1642 ls9 [])) : W p l e room_1 s m #[Value.ref b0] below meth c H locs cells slots Q (F0 m 1370 ls []) := by
  obtain ⟨hx, hb, hml, hown, hts, hX, hbl, hK, hT, hN, hfl⟩ := C
  obtain ⟨hW, hJ, hI, ⟨th, ov, un, hM⟩, hS⟩ := I
  have hbA : ¬ (s.heap.size ≤ b0) := by omega
  have hMlt := hM.lt
  obtain ⟨zr, hzr, ezr⟩ := x_num (xs (i + 1))
  refine lv_aload_n hx hb dL_law_1370 rfl (lv_at hl 3 rfl) ?_
  refine lv_aload_n hx hb dL_law_1371 rfl (lv_at hl 4 rfl) ?_
  refine lv_iload hx hb dL_law_1372 (lv_at hl 0 rfl) ?_
  refine x_iconst hx hb dL_law_1374 ?_
  refine x_iadd hx hb dL_law_1375 ?_
  refine x_sld hx hb hX hbl hbA hS (i + 1) (by omega) (by omega) hL ezr dL_law_1376 ?_
  refine lv_aload_n hx hb dL_law_1377 rfl (lv_at hl 1 rfl) ?_
  refine x_wI (vx_runSW (As := [.ref s.heap.size, .int (zI zr), .ref (s.heap.size + 134)]) (rest := []) ⟨hx, hb, hml, hown, hts⟩ (c_L_click l hfl G s.heap.size (s.heap.size + 134) s.heap.size (Nat.le_refl _) (by omega) b zr hzr) (vx_cwSW 3 hts gL_law_L_click rfl rfl rfl (by decide +kernel) ⟨Nat.le_of_ble_eq_true rfl, Nat.le_of_ble_eq_true rfl⟩) (x_preW hW hJ hI hK hT hN hS (fun q h => h)) rfl rfl hl.1 rfl (lv_room (Nat.le_of_ble_eq_true rfl)) dL_law_1378 hc) hS (fun q _ (h : xB s.heap.size (s.heap.size + 134) q) => (by rcases h with h | h <;> omega : s.heap.size ≤ q)) (fun q (h : xB s.heap.size (s.heap.size + 134) q) => (by rcases h with h | h <;> omega : s.heap.size ≤ q)) (fun H1 locs1 hP hz hk hS => ?_)
  obtain ⟨hX1, w1, hJ1, hw1⟩ := hP
  have hM1 := hM.kept (fun a h1 h2 => hk a (by omega) (fun (h : xB s.heap.size (s.heap.size + 134) a) => by rcases h with h | h <;> omega))
  refine lv_istore (lv' := [(5, .int (zI (oK_click b zr))), (4, .int (zI (i : Int))), (3, .ref (s.heap.size + 134)), (2, .ref (s.heap.size + 127)), (1, .ref s.heap.size), (0, .ref b0)]) hx hb dL_law_1381 hl (by decide) rfl (fun ls hl => ?_)
  refine lv_aload_n hx hb dL_law_1383 rfl (lv_at hl 3 rfl) ?_
  refine lv_aload_n hx hb dL_law_1384 rfl (lv_at hl 5 rfl) ?_
  refine lv_iload hx hb dL_law_1385 (lv_at hl 1 rfl) ?_
  refine x_iconst hx hb dL_law_1387 ?_
  refine x_iadd hx hb dL_law_1388 ?_
  refine x_sld hx hb hX hbl hbA hS (i + 1) (by omega) (by omega) hL ezr dL_law_1389 ?_
  refine va_calli (va_runV (As := [.int (zI zr)]) (rest := []) ⟨hx, hb, hml, hown, hts⟩ (c_X4_click l G (s.heap.size + 127) b th ov un zr hzr) (cwV 1 hts gL_law_X4_click rfl rfl rfl (by decide +kernel) ⟨Nat.le_of_ble_eq_true rfl, Nat.le_of_ble_eq_true rfl⟩) (x_preM hM1 hI hK) rfl rfl hl.1 rfl (lv_room (Nat.le_of_ble_eq_true rfl)) dL_law_1390 hc) hS (fun q _ (h : mA (s.heap.size + 127) q) => (by omega : s.heap.size ≤ q)) (fun q (h : mA (s.heap.size + 127) q) => (by omega : s.heap.size ≤ q)) (fun r u t H2 locs2 ht _ hr6 hB hz2 hk2 hS => ?_)
  obtain ⟨Hx, e1, ov2, un2, hM2⟩ := hB
  have e2 : Hx = H2 := e1.symm.trans ht
  subst e2
  replace hM2 : MW G (s.heap.size + 127) (if (oK_click b zr) = 0 then (oB_click b zr) else b) (oK_click b zr) ov2 un2 Hx := hM2
  replace hr6 : (oK_click b zr) = 0 → r = zI (oV_click b zr) := hr6
  have hJ2 := hJ1.kept (hk2 _ hJ1.lt (fun (h : s.heap.size + 127 ≤ s.heap.size + 134 ∧ s.heap.size + 134 < s.heap.size + 127 + 7) => by omega))
  have hX2 : BX G s.heap.size (if (oK_click b zr) = 0 then (oB_click b zr) else b) Hx := by
    obtain ⟨lim2, dif2, hX1⟩ := hX1
    have hlt := hX1.lt
    exact ⟨lim2, dif2, hX1.kept (fun a h1 h2 => hk2 a (by omega) (fun (h : s.heap.size + 127 ≤ a ∧ a < s.heap.size + 127 + 7) => by omega))⟩
  have hI2 : bInv (if (oK_click b zr) = 0 then (oB_click b zr) else b) := by
    split
    · exact oI_click hI (by assumption)
    · exact hI
  have hkr := oR_click b zr
  have hw2 : (oK_click b zr) = 0 → w1 0 = (zI (oV_click b zr)).toInt64 := hw1
  have hLI : LI G s.heap.size (if (oK_click b zr) = 0 then (oB_click b zr) else b) s Hx locs2 := ⟨hX2, ⟨w1, hJ2⟩, hI2, ⟨_, _, _, hM2⟩, hS⟩
  generalize hkz : (oK_click b zr) = kz at *
  generalize (if kz = 0 then (oB_click b zr) else b) = b9 at *
  refine lv_istore (lv' := [(6, .int r), (5, .int (zI kz)), (4, .int (zI (i : Int))), (3, .ref (s.heap.size + 134)), (2, .ref (s.heap.size + 127)), (1, .ref s.heap.size), (0, .ref b0)]) hx hb dL_law_1393 hl (by decide) rfl (fun ls hl => ?_)
  refine lv_aload_n hx hb dL_law_1395 rfl (lv_at hl 4 rfl) ?_
  refine x_cI (va_runV (As := []) (rest := []) ⟨hx, hb, hml, hown, hts⟩ (c_X4_thrown l G (s.heap.size + 127) b9 kz ov2 un2) (cwV 0 hts gL_law_X4_thrown rfl rfl rfl (by decide +kernel) ⟨Nat.le_of_ble_eq_true rfl, Nat.le_of_ble_eq_true rfl⟩) (x_preM hM2 hI2 hK) rfl rfl hl.1 rfl (lv_room (Nat.le_of_ble_eq_true rfl)) dL_law_1396 hc) ?_
  refine lv_iload hx hb dL_law_1399 (lv_at hl 1 rfl) ?_
  refine lv_icmp_eq (tgt := 1406) hx hb dL_law_1401 (by decide) (fun _ => ?_) (fun h => absurd rfl h)
  refine lv_iload hx hb dL_law_1406 (lv_at hl 1 rfl) ?_
  refine x_if_ne (tgt := 1423) hx hb dL_law_1408 (by decide) (by omega) (fun hn => ?_) (fun hk0 => ?_)
  · refine lv_goto (tgt := 1642) hx hb dL_law_1423 (by decide) ?_
    exact kk _ _ _ _ hLI (lv_sub hl [2, 3, 4, 5, 6] rfl)
  · refine lv_aload_n hx hb dL_law_1411 rfl (lv_at hl 3 rfl) ?_
    refine x_iconst hx hb dL_law_1412 ?_
    refine x_lald hx hb hK hJ2 0 (by decide) (by decide) (by decide) dL_law_1413 ?_
    rw [hw2 hk0]
    refine lv_iload hx hb dL_law_1414 (lv_at hl 0 rfl) ?_
    refine lv_i2l hx hb dL_law_1416 (congrArg Int32.toInt64 (hr6 hk0)) ?_
    refine x_lcmpS hx hb dL_law_1417 ?_
    refine lv_if_eq (tgt := 1423) hx hb dL_law_1418 (by decide) (fun _ => ?_) (fun h => absurd rfl h)
    refine lv_goto (tgt := 1642) hx hb dL_law_1423 (by decide) ?_
    exact kk _ _ _ _ hLI (lv_sub hl [2, 3, 4, 5, 6] rfl)
theorem oR_credit (b : XB) (zs : Int) : 0 ≤ (oK_credit b zs) ∧ (oK_credit b zs) ≤ 2 := kR_rng (Or.inl rfl)
theorem oI_credit {b : XB} {zs : Int} (hi : bInv b) (h : (oK_credit b zs) = 0) : bInv (oB_credit b zs) := by
  exact hi
set_option maxHeartbeats 4000000 in
set_option maxRecDepth 100000 in
theorem cs_credit {p : Program} {l : Launch} {e : Env} {s : State} {m : MethodId} {below : List Frame} {meth : Method} {c : Code} {b0 L : Nat} {xs : Nat → Int32} {G : XG} (C : CF p l s m c b0 L xs G) {Q : State → Prop} {b : XB} {H : Heap} {locs : List Loc} {cells slots : Nat} {ls : Array Slot} (i : Nat) (hi : i + 5 ≤ L) (hL : L ≤ 2560) (I : LI G s.heap.size b s H locs) (hl : lv_has ls 8 [(4, .int (zI (i : Int))), (3, .ref (s.heap.size + 134)), (2, .ref (s.heap.size + 127)), (1, .ref s.heap.size), (0, .ref b0)]) (hc : cells + 8 ≤ 601024 ∧ slots + 48 ≤ 7293034)
    (kk : ∀ (b9 : XB) (H9 : Heap) (locs9 : List Loc) (ls9 : Array Slot), LI G s.heap.size b9 s H9 locs9 → lv_has ls9 8 [(4, .int (zI (i : Int))), (3, .ref (s.heap.size + 134)), (2, .ref (s.heap.size + 127)), (1, .ref s.heap.size), (0, .ref b0)] → W p l e room_1 s m #[Value.ref b0] below meth c H9 locs9 (cells + 8) (slots + 48) Q (F0 m 1642 ls9 [])) : W p l e room_1 s m #[Value.ref b0] below meth c H locs cells slots Q (F0 m 1426 ls []) := by
  obtain ⟨hx, hb, hml, hown, hts, hX, hbl, hK, hT, hN, hfl⟩ := C
  obtain ⟨hW, hJ, hI, ⟨th, ov, un, hM⟩, hS⟩ := I
  have hbA : ¬ (s.heap.size ≤ b0) := by omega
  have hMlt := hM.lt
  obtain ⟨zs, hzs, ezs⟩ := x_num (xs (i + 1))
  refine lv_aload_n hx hb dL_law_1426 rfl (lv_at hl 3 rfl) ?_
  refine lv_aload_n hx hb dL_law_1427 rfl (lv_at hl 4 rfl) ?_
  refine lv_iload hx hb dL_law_1428 (lv_at hl 0 rfl) ?_
  refine x_iconst hx hb dL_law_1430 ?_
  refine x_iadd hx hb dL_law_1431 ?_
  refine x_sld hx hb hX hbl hbA hS (i + 1) (by omega) (by omega) hL ezs dL_law_1432 ?_
  refine lv_aload_n hx hb dL_law_1433 rfl (lv_at hl 1 rfl) ?_
  refine x_wI (vx_runSW (As := [.ref s.heap.size, .int (zI zs), .ref (s.heap.size + 134)]) (rest := []) ⟨hx, hb, hml, hown, hts⟩ (c_L_credit l hfl G s.heap.size (s.heap.size + 134) s.heap.size (Nat.le_refl _) (by omega) b zs hzs) (vx_cwSW 3 hts gL_law_L_credit rfl rfl rfl (by decide +kernel) ⟨Nat.le_of_ble_eq_true rfl, Nat.le_of_ble_eq_true rfl⟩) (x_preW hW hJ hI hK hT hN hS (fun q h => h)) rfl rfl hl.1 rfl (lv_room (Nat.le_of_ble_eq_true rfl)) dL_law_1434 hc) hS (fun q _ (h : xB s.heap.size (s.heap.size + 134) q) => (by rcases h with h | h <;> omega : s.heap.size ≤ q)) (fun q (h : xB s.heap.size (s.heap.size + 134) q) => (by rcases h with h | h <;> omega : s.heap.size ≤ q)) (fun H1 locs1 hP hz hk hS => ?_)
  obtain ⟨hX1, w1, hJ1, hw1⟩ := hP
  have hM1 := hM.kept (fun a h1 h2 => hk a (by omega) (fun (h : xB s.heap.size (s.heap.size + 134) a) => by rcases h with h | h <;> omega))
  refine lv_istore (lv' := [(5, .int (zI (oK_credit b zs))), (4, .int (zI (i : Int))), (3, .ref (s.heap.size + 134)), (2, .ref (s.heap.size + 127)), (1, .ref s.heap.size), (0, .ref b0)]) hx hb dL_law_1437 hl (by decide) rfl (fun ls hl => ?_)
  refine lv_aload_n hx hb dL_law_1439 rfl (lv_at hl 3 rfl) ?_
  refine lv_aload_n hx hb dL_law_1440 rfl (lv_at hl 5 rfl) ?_
  refine lv_iload hx hb dL_law_1441 (lv_at hl 1 rfl) ?_
  refine x_iconst hx hb dL_law_1443 ?_
  refine x_iadd hx hb dL_law_1444 ?_
  refine x_sld hx hb hX hbl hbA hS (i + 1) (by omega) (by omega) hL ezs dL_law_1445 ?_
  refine va_calli (va_runV (As := [.int (zI zs)]) (rest := []) ⟨hx, hb, hml, hown, hts⟩ (c_X4_credit l G (s.heap.size + 127) b th ov un zs hzs) (cwV 1 hts gL_law_X4_credit rfl rfl rfl (by decide +kernel) ⟨Nat.le_of_ble_eq_true rfl, Nat.le_of_ble_eq_true rfl⟩) (x_preM hM1 hI hK) rfl rfl hl.1 rfl (lv_room (Nat.le_of_ble_eq_true rfl)) dL_law_1446 hc) hS (fun q _ (h : mA (s.heap.size + 127) q) => (by omega : s.heap.size ≤ q)) (fun q (h : mA (s.heap.size + 127) q) => (by omega : s.heap.size ≤ q)) (fun r u t H2 locs2 ht _ hr6 hB hz2 hk2 hS => ?_)
  obtain ⟨Hx, e1, ov2, un2, hM2⟩ := hB
  have e2 : Hx = H2 := e1.symm.trans ht
  subst e2
  replace hM2 : MW G (s.heap.size + 127) (if (oK_credit b zs) = 0 then (oB_credit b zs) else b) (oK_credit b zs) ov2 un2 Hx := hM2
  replace hr6 : (oK_credit b zs) = 0 → r = zI (oV_credit b zs) := hr6
  have hJ2 := hJ1.kept (hk2 _ hJ1.lt (fun (h : s.heap.size + 127 ≤ s.heap.size + 134 ∧ s.heap.size + 134 < s.heap.size + 127 + 7) => by omega))
  have hX2 : BX G s.heap.size (if (oK_credit b zs) = 0 then (oB_credit b zs) else b) Hx := by
    obtain ⟨lim2, dif2, hX1⟩ := hX1
    have hlt := hX1.lt
    exact ⟨lim2, dif2, hX1.kept (fun a h1 h2 => hk2 a (by omega) (fun (h : s.heap.size + 127 ≤ a ∧ a < s.heap.size + 127 + 7) => by omega))⟩
  have hI2 : bInv (if (oK_credit b zs) = 0 then (oB_credit b zs) else b) := by
    split
    · exact oI_credit hI (by assumption)
    · exact hI
  have hkr := oR_credit b zs
  have hw2 : (oK_credit b zs) = 0 → w1 0 = (zI (oV_credit b zs)).toInt64 := hw1
  have hLI : LI G s.heap.size (if (oK_credit b zs) = 0 then (oB_credit b zs) else b) s Hx locs2 := ⟨hX2, ⟨w1, hJ2⟩, hI2, ⟨_, _, _, hM2⟩, hS⟩
  generalize hkz : (oK_credit b zs) = kz at *
  generalize (if kz = 0 then (oB_credit b zs) else b) = b9 at *
  refine lv_istore (lv' := [(6, .int r), (5, .int (zI kz)), (4, .int (zI (i : Int))), (3, .ref (s.heap.size + 134)), (2, .ref (s.heap.size + 127)), (1, .ref s.heap.size), (0, .ref b0)]) hx hb dL_law_1449 hl (by decide) rfl (fun ls hl => ?_)
  refine lv_aload_n hx hb dL_law_1451 rfl (lv_at hl 4 rfl) ?_
  refine x_cI (va_runV (As := []) (rest := []) ⟨hx, hb, hml, hown, hts⟩ (c_X4_thrown l G (s.heap.size + 127) b9 kz ov2 un2) (cwV 0 hts gL_law_X4_thrown rfl rfl rfl (by decide +kernel) ⟨Nat.le_of_ble_eq_true rfl, Nat.le_of_ble_eq_true rfl⟩) (x_preM hM2 hI2 hK) rfl rfl hl.1 rfl (lv_room (Nat.le_of_ble_eq_true rfl)) dL_law_1452 hc) ?_
  refine lv_iload hx hb dL_law_1455 (lv_at hl 1 rfl) ?_
  refine lv_icmp_eq (tgt := 1462) hx hb dL_law_1457 (by decide) (fun _ => ?_) (fun h => absurd rfl h)
  refine lv_iload hx hb dL_law_1462 (lv_at hl 1 rfl) ?_
  refine x_if_ne (tgt := 1479) hx hb dL_law_1464 (by decide) (by omega) (fun hn => ?_) (fun hk0 => ?_)
  · refine lv_goto (tgt := 1642) hx hb dL_law_1479 (by decide) ?_
    exact kk _ _ _ _ hLI (lv_sub hl [2, 3, 4, 5, 6] rfl)
  · refine lv_aload_n hx hb dL_law_1467 rfl (lv_at hl 3 rfl) ?_
    refine x_iconst hx hb dL_law_1468 ?_
    refine x_lald hx hb hK hJ2 0 (by decide) (by decide) (by decide) dL_law_1469 ?_
    rw [hw2 hk0]
    refine lv_iload hx hb dL_law_1470 (lv_at hl 0 rfl) ?_
    refine lv_i2l hx hb dL_law_1472 (congrArg Int32.toInt64 (hr6 hk0)) ?_
    refine x_lcmpS hx hb dL_law_1473 ?_
    refine lv_if_eq (tgt := 1479) hx hb dL_law_1474 (by decide) (fun _ => ?_) (fun h => absurd rfl h)
    refine lv_goto (tgt := 1642) hx hb dL_law_1479 (by decide) ?_
    exact kk _ _ _ _ hLI (lv_sub hl [2, 3, 4, 5, 6] rfl)
theorem oR_sum (b : XB) (z1 z2 zr : Int) : 0 ≤ (oK_sum b z1 z2 zr) ∧ (oK_sum b z1 z2 zr) ≤ 2 := kR_rng (Or.inl rfl)
theorem oI_sum {b : XB} {z1 z2 zr : Int} (hi : bInv b) (h : (oK_sum b z1 z2 zr) = 0) : bInv (oB_sum b z1 z2 zr) := by
  exact hi
set_option maxHeartbeats 4000000 in
set_option maxRecDepth 100000 in
theorem cs_sum {p : Program} {l : Launch} {e : Env} {s : State} {m : MethodId} {below : List Frame} {meth : Method} {c : Code} {b0 L : Nat} {xs : Nat → Int32} {G : XG} (C : CF p l s m c b0 L xs G) {Q : State → Prop} {b : XB} {H : Heap} {locs : List Loc} {cells slots : Nat} {ls : Array Slot} (i : Nat) (hi : i + 5 ≤ L) (hL : L ≤ 2560) (I : LI G s.heap.size b s H locs) (hl : lv_has ls 8 [(4, .int (zI (i : Int))), (3, .ref (s.heap.size + 134)), (2, .ref (s.heap.size + 127)), (1, .ref s.heap.size), (0, .ref b0)]) (hc : cells + 8 ≤ 601024 ∧ slots + 48 ≤ 7293034)
    (kk : ∀ (b9 : XB) (H9 : Heap) (locs9 : List Loc) (ls9 : Array Slot), LI G s.heap.size b9 s H9 locs9 → lv_has ls9 8 [(4, .int (zI (i : Int))), (3, .ref (s.heap.size + 134)), (2, .ref (s.heap.size + 127)), (1, .ref s.heap.size), (0, .ref b0)] → W p l e room_1 s m #[Value.ref b0] below meth c H9 locs9 (cells + 8) (slots + 48) Q (F0 m 1642 ls9 [])) : W p l e room_1 s m #[Value.ref b0] below meth c H locs cells slots Q (F0 m 1482 ls []) := by
  obtain ⟨hx, hb, hml, hown, hts, hX, hbl, hK, hT, hN, hfl⟩ := C
  obtain ⟨hW, hJ, hI, ⟨th, ov, un, hM⟩, hS⟩ := I
  have hbA : ¬ (s.heap.size ≤ b0) := by omega
  have hMlt := hM.lt
  obtain ⟨z1, hz1, ez1⟩ := x_num (xs (i + 1))
  obtain ⟨z2, hz2, ez2⟩ := x_num (xs (i + 2))
  obtain ⟨zr, hzr, ezr⟩ := x_num (xs (i + 3))
  refine lv_aload_n hx hb dL_law_1482 rfl (lv_at hl 3 rfl) ?_
  refine lv_aload_n hx hb dL_law_1483 rfl (lv_at hl 4 rfl) ?_
  refine lv_iload hx hb dL_law_1484 (lv_at hl 0 rfl) ?_
  refine x_iconst hx hb dL_law_1486 ?_
  refine x_iadd hx hb dL_law_1487 ?_
  refine x_sld hx hb hX hbl hbA hS (i + 1) (by omega) (by omega) hL ez1 dL_law_1488 ?_
  refine lv_aload_n hx hb dL_law_1489 rfl (lv_at hl 4 rfl) ?_
  refine lv_iload hx hb dL_law_1490 (lv_at hl 0 rfl) ?_
  refine x_iconst hx hb dL_law_1492 ?_
  refine x_iadd hx hb dL_law_1493 ?_
  refine x_sld hx hb hX hbl hbA hS (i + 2) (by omega) (by omega) hL ez2 dL_law_1494 ?_
  refine lv_aload_n hx hb dL_law_1495 rfl (lv_at hl 4 rfl) ?_
  refine lv_iload hx hb dL_law_1496 (lv_at hl 0 rfl) ?_
  refine x_iconst hx hb dL_law_1498 ?_
  refine x_iadd hx hb dL_law_1499 ?_
  refine x_sld hx hb hX hbl hbA hS (i + 3) (by omega) (by omega) hL ezr dL_law_1500 ?_
  refine lv_aload_n hx hb dL_law_1501 rfl (lv_at hl 1 rfl) ?_
  refine x_wI (vx_runSW (As := [.ref s.heap.size, .int (zI z1), .int (zI z2), .int (zI zr), .ref (s.heap.size + 134)]) (rest := []) ⟨hx, hb, hml, hown, hts⟩ (c_L_sum l hfl G s.heap.size (s.heap.size + 134) s.heap.size (Nat.le_refl _) (by omega) b z1 hz1 z2 hz2 zr hzr) (vx_cwSW 5 hts gL_law_L_sum rfl rfl rfl (by decide +kernel) ⟨Nat.le_of_ble_eq_true rfl, Nat.le_of_ble_eq_true rfl⟩) (x_preW hW hJ hI hK hT hN hS (fun q h => h)) rfl rfl hl.1 rfl (lv_room (Nat.le_of_ble_eq_true rfl)) dL_law_1502 hc) hS (fun q _ (h : xB s.heap.size (s.heap.size + 134) q) => (by rcases h with h | h <;> omega : s.heap.size ≤ q)) (fun q (h : xB s.heap.size (s.heap.size + 134) q) => (by rcases h with h | h <;> omega : s.heap.size ≤ q)) (fun H1 locs1 hP hz hk hS => ?_)
  obtain ⟨hX1, w1, hJ1, hw1⟩ := hP
  have hM1 := hM.kept (fun a h1 h2 => hk a (by omega) (fun (h : xB s.heap.size (s.heap.size + 134) a) => by rcases h with h | h <;> omega))
  refine lv_istore (lv' := [(5, .int (zI (oK_sum b z1 z2 zr))), (4, .int (zI (i : Int))), (3, .ref (s.heap.size + 134)), (2, .ref (s.heap.size + 127)), (1, .ref s.heap.size), (0, .ref b0)]) hx hb dL_law_1505 hl (by decide) rfl (fun ls hl => ?_)
  refine lv_aload_n hx hb dL_law_1507 rfl (lv_at hl 3 rfl) ?_
  refine lv_aload_n hx hb dL_law_1508 rfl (lv_at hl 5 rfl) ?_
  refine lv_iload hx hb dL_law_1509 (lv_at hl 1 rfl) ?_
  refine x_iconst hx hb dL_law_1511 ?_
  refine x_iadd hx hb dL_law_1512 ?_
  refine x_sld hx hb hX hbl hbA hS (i + 1) (by omega) (by omega) hL ez1 dL_law_1513 ?_
  refine lv_aload_n hx hb dL_law_1514 rfl (lv_at hl 5 rfl) ?_
  refine lv_iload hx hb dL_law_1515 (lv_at hl 1 rfl) ?_
  refine x_iconst hx hb dL_law_1517 ?_
  refine x_iadd hx hb dL_law_1518 ?_
  refine x_sld hx hb hX hbl hbA hS (i + 2) (by omega) (by omega) hL ez2 dL_law_1519 ?_
  refine lv_aload_n hx hb dL_law_1520 rfl (lv_at hl 5 rfl) ?_
  refine lv_iload hx hb dL_law_1521 (lv_at hl 1 rfl) ?_
  refine x_iconst hx hb dL_law_1523 ?_
  refine x_iadd hx hb dL_law_1524 ?_
  refine x_sld hx hb hX hbl hbA hS (i + 3) (by omega) (by omega) hL ezr dL_law_1525 ?_
  refine va_calli (va_runV (As := [.int (zI z1), .int (zI z2), .int (zI zr)]) (rest := []) ⟨hx, hb, hml, hown, hts⟩ (c_X4_sum l G (s.heap.size + 127) b th ov un z1 hz1 z2 hz2 zr hzr) (cwV 3 hts gL_law_X4_sum rfl rfl rfl (by decide +kernel) ⟨Nat.le_of_ble_eq_true rfl, Nat.le_of_ble_eq_true rfl⟩) (x_preM hM1 hI hK) rfl rfl hl.1 rfl (lv_room (Nat.le_of_ble_eq_true rfl)) dL_law_1526 hc) hS (fun q _ (h : mA (s.heap.size + 127) q) => (by omega : s.heap.size ≤ q)) (fun q (h : mA (s.heap.size + 127) q) => (by omega : s.heap.size ≤ q)) (fun r u t H2 locs2 ht _ hr6 hB hz2 hk2 hS => ?_)
  obtain ⟨Hx, e1, ov2, un2, hM2⟩ := hB
  have e2 : Hx = H2 := e1.symm.trans ht
  subst e2
  replace hM2 : MW G (s.heap.size + 127) (if (oK_sum b z1 z2 zr) = 0 then (oB_sum b z1 z2 zr) else b) (oK_sum b z1 z2 zr) ov2 un2 Hx := hM2
  replace hr6 : (oK_sum b z1 z2 zr) = 0 → r = zI (oV_sum b z1 z2 zr) := hr6
  have hJ2 := hJ1.kept (hk2 _ hJ1.lt (fun (h : s.heap.size + 127 ≤ s.heap.size + 134 ∧ s.heap.size + 134 < s.heap.size + 127 + 7) => by omega))
  have hX2 : BX G s.heap.size (if (oK_sum b z1 z2 zr) = 0 then (oB_sum b z1 z2 zr) else b) Hx := by
    obtain ⟨lim2, dif2, hX1⟩ := hX1
    have hlt := hX1.lt
    exact ⟨lim2, dif2, hX1.kept (fun a h1 h2 => hk2 a (by omega) (fun (h : s.heap.size + 127 ≤ a ∧ a < s.heap.size + 127 + 7) => by omega))⟩
  have hI2 : bInv (if (oK_sum b z1 z2 zr) = 0 then (oB_sum b z1 z2 zr) else b) := by
    split
    · exact oI_sum hI (by assumption)
    · exact hI
  have hkr := oR_sum b z1 z2 zr
  have hw2 : (oK_sum b z1 z2 zr) = 0 → w1 0 = (zI (oV_sum b z1 z2 zr)).toInt64 := hw1
  have hLI : LI G s.heap.size (if (oK_sum b z1 z2 zr) = 0 then (oB_sum b z1 z2 zr) else b) s Hx locs2 := ⟨hX2, ⟨w1, hJ2⟩, hI2, ⟨_, _, _, hM2⟩, hS⟩
  generalize hkz : (oK_sum b z1 z2 zr) = kz at *
  generalize (if kz = 0 then (oB_sum b z1 z2 zr) else b) = b9 at *
  refine lv_istore (lv' := [(6, .int r), (5, .int (zI kz)), (4, .int (zI (i : Int))), (3, .ref (s.heap.size + 134)), (2, .ref (s.heap.size + 127)), (1, .ref s.heap.size), (0, .ref b0)]) hx hb dL_law_1529 hl (by decide) rfl (fun ls hl => ?_)
  refine lv_aload_n hx hb dL_law_1531 rfl (lv_at hl 4 rfl) ?_
  refine x_cI (va_runV (As := []) (rest := []) ⟨hx, hb, hml, hown, hts⟩ (c_X4_thrown l G (s.heap.size + 127) b9 kz ov2 un2) (cwV 0 hts gL_law_X4_thrown rfl rfl rfl (by decide +kernel) ⟨Nat.le_of_ble_eq_true rfl, Nat.le_of_ble_eq_true rfl⟩) (x_preM hM2 hI2 hK) rfl rfl hl.1 rfl (lv_room (Nat.le_of_ble_eq_true rfl)) dL_law_1532 hc) ?_
  refine lv_iload hx hb dL_law_1535 (lv_at hl 1 rfl) ?_
  refine lv_icmp_eq (tgt := 1542) hx hb dL_law_1537 (by decide) (fun _ => ?_) (fun h => absurd rfl h)
  refine lv_iload hx hb dL_law_1542 (lv_at hl 1 rfl) ?_
  refine x_if_ne (tgt := 1559) hx hb dL_law_1544 (by decide) (by omega) (fun hn => ?_) (fun hk0 => ?_)
  · refine lv_goto (tgt := 1642) hx hb dL_law_1559 (by decide) ?_
    exact kk _ _ _ _ hLI (lv_sub hl [2, 3, 4, 5, 6] rfl)
  · refine lv_aload_n hx hb dL_law_1547 rfl (lv_at hl 3 rfl) ?_
    refine x_iconst hx hb dL_law_1548 ?_
    refine x_lald hx hb hK hJ2 0 (by decide) (by decide) (by decide) dL_law_1549 ?_
    rw [hw2 hk0]
    refine lv_iload hx hb dL_law_1550 (lv_at hl 0 rfl) ?_
    refine lv_i2l hx hb dL_law_1552 (congrArg Int32.toInt64 (hr6 hk0)) ?_
    refine x_lcmpS hx hb dL_law_1553 ?_
    refine lv_if_eq (tgt := 1559) hx hb dL_law_1554 (by decide) (fun _ => ?_) (fun h => absurd rfl h)
    refine lv_goto (tgt := 1642) hx hb dL_law_1559 (by decide) ?_
    exact kk _ _ _ _ hLI (lv_sub hl [2, 3, 4, 5, 6] rfl)
theorem oR_test (b : XB) (z1 z2 zr : Int) : 0 ≤ (oK_test b z1 z2 zr) ∧ (oK_test b z1 z2 zr) ≤ 2 := kR_rng (Or.inl rfl)
theorem oI_test {b : XB} {z1 z2 zr : Int} (hi : bInv b) (h : (oK_test b z1 z2 zr) = 0) : bInv (oB_test b z1 z2 zr) := by
  exact hi
set_option maxHeartbeats 4000000 in
set_option maxRecDepth 100000 in
theorem cs_test {p : Program} {l : Launch} {e : Env} {s : State} {m : MethodId} {below : List Frame} {meth : Method} {c : Code} {b0 L : Nat} {xs : Nat → Int32} {G : XG} (C : CF p l s m c b0 L xs G) {Q : State → Prop} {b : XB} {H : Heap} {locs : List Loc} {cells slots : Nat} {ls : Array Slot} (i : Nat) (hi : i + 5 ≤ L) (hL : L ≤ 2560) (I : LI G s.heap.size b s H locs) (hl : lv_has ls 8 [(4, .int (zI (i : Int))), (3, .ref (s.heap.size + 134)), (2, .ref (s.heap.size + 127)), (1, .ref s.heap.size), (0, .ref b0)]) (hc : cells + 8 ≤ 601024 ∧ slots + 48 ≤ 7293034)
    (kk : ∀ (b9 : XB) (H9 : Heap) (locs9 : List Loc) (ls9 : Array Slot), LI G s.heap.size b9 s H9 locs9 → lv_has ls9 8 [(4, .int (zI (i : Int))), (3, .ref (s.heap.size + 134)), (2, .ref (s.heap.size + 127)), (1, .ref s.heap.size), (0, .ref b0)] → W p l e room_1 s m #[Value.ref b0] below meth c H9 locs9 (cells + 8) (slots + 48) Q (F0 m 1642 ls9 [])) : W p l e room_1 s m #[Value.ref b0] below meth c H locs cells slots Q (F0 m 1562 ls []) := by
  obtain ⟨hx, hb, hml, hown, hts, hX, hbl, hK, hT, hN, hfl⟩ := C
  obtain ⟨hW, hJ, hI, ⟨th, ov, un, hM⟩, hS⟩ := I
  have hbA : ¬ (s.heap.size ≤ b0) := by omega
  have hMlt := hM.lt
  obtain ⟨z1, hz1, ez1⟩ := x_num (xs (i + 1))
  obtain ⟨z2, hz2, ez2⟩ := x_num (xs (i + 2))
  obtain ⟨zr, hzr, ezr⟩ := x_num (xs (i + 3))
  refine lv_aload_n hx hb dL_law_1562 rfl (lv_at hl 3 rfl) ?_
  refine lv_aload_n hx hb dL_law_1563 rfl (lv_at hl 4 rfl) ?_
  refine lv_iload hx hb dL_law_1564 (lv_at hl 0 rfl) ?_
  refine x_iconst hx hb dL_law_1566 ?_
  refine x_iadd hx hb dL_law_1567 ?_
  refine x_sld hx hb hX hbl hbA hS (i + 1) (by omega) (by omega) hL ez1 dL_law_1568 ?_
  refine lv_aload_n hx hb dL_law_1569 rfl (lv_at hl 4 rfl) ?_
  refine lv_iload hx hb dL_law_1570 (lv_at hl 0 rfl) ?_
  refine x_iconst hx hb dL_law_1572 ?_
  refine x_iadd hx hb dL_law_1573 ?_
  refine x_sld hx hb hX hbl hbA hS (i + 2) (by omega) (by omega) hL ez2 dL_law_1574 ?_
  refine lv_aload_n hx hb dL_law_1575 rfl (lv_at hl 4 rfl) ?_
  refine lv_iload hx hb dL_law_1576 (lv_at hl 0 rfl) ?_
  refine x_iconst hx hb dL_law_1578 ?_
  refine x_iadd hx hb dL_law_1579 ?_
  refine x_sld hx hb hX hbl hbA hS (i + 3) (by omega) (by omega) hL ezr dL_law_1580 ?_
  refine lv_aload_n hx hb dL_law_1581 rfl (lv_at hl 1 rfl) ?_
  refine x_wI (vx_runSW (As := [.ref s.heap.size, .int (zI z1), .int (zI z2), .int (zI zr), .ref (s.heap.size + 134)]) (rest := []) ⟨hx, hb, hml, hown, hts⟩ (c_L_test l hfl G s.heap.size (s.heap.size + 134) s.heap.size (Nat.le_refl _) (by omega) b z1 hz1 z2 hz2 zr hzr) (vx_cwSW 5 hts gL_law_L_test rfl rfl rfl (by decide +kernel) ⟨Nat.le_of_ble_eq_true rfl, Nat.le_of_ble_eq_true rfl⟩) (x_preW hW hJ hI hK hT hN hS (fun q h => h)) rfl rfl hl.1 rfl (lv_room (Nat.le_of_ble_eq_true rfl)) dL_law_1582 hc) hS (fun q _ (h : xB s.heap.size (s.heap.size + 134) q) => (by rcases h with h | h <;> omega : s.heap.size ≤ q)) (fun q (h : xB s.heap.size (s.heap.size + 134) q) => (by rcases h with h | h <;> omega : s.heap.size ≤ q)) (fun H1 locs1 hP hz hk hS => ?_)
  obtain ⟨hX1, w1, hJ1, hw1⟩ := hP
  have hM1 := hM.kept (fun a h1 h2 => hk a (by omega) (fun (h : xB s.heap.size (s.heap.size + 134) a) => by rcases h with h | h <;> omega))
  refine lv_istore (lv' := [(5, .int (zI (oK_test b z1 z2 zr))), (4, .int (zI (i : Int))), (3, .ref (s.heap.size + 134)), (2, .ref (s.heap.size + 127)), (1, .ref s.heap.size), (0, .ref b0)]) hx hb dL_law_1585 hl (by decide) rfl (fun ls hl => ?_)
  refine lv_aload_n hx hb dL_law_1587 rfl (lv_at hl 3 rfl) ?_
  refine lv_aload_n hx hb dL_law_1588 rfl (lv_at hl 5 rfl) ?_
  refine lv_iload hx hb dL_law_1589 (lv_at hl 1 rfl) ?_
  refine x_iconst hx hb dL_law_1591 ?_
  refine x_iadd hx hb dL_law_1592 ?_
  refine x_sld hx hb hX hbl hbA hS (i + 1) (by omega) (by omega) hL ez1 dL_law_1593 ?_
  refine lv_aload_n hx hb dL_law_1594 rfl (lv_at hl 5 rfl) ?_
  refine lv_iload hx hb dL_law_1595 (lv_at hl 1 rfl) ?_
  refine x_iconst hx hb dL_law_1597 ?_
  refine x_iadd hx hb dL_law_1598 ?_
  refine x_sld hx hb hX hbl hbA hS (i + 2) (by omega) (by omega) hL ez2 dL_law_1599 ?_
  refine lv_aload_n hx hb dL_law_1600 rfl (lv_at hl 5 rfl) ?_
  refine lv_iload hx hb dL_law_1601 (lv_at hl 1 rfl) ?_
  refine x_iconst hx hb dL_law_1603 ?_
  refine x_iadd hx hb dL_law_1604 ?_
  refine x_sld hx hb hX hbl hbA hS (i + 3) (by omega) (by omega) hL ezr dL_law_1605 ?_
  refine va_calli (va_runV (As := [.int (zI z1), .int (zI z2), .int (zI zr)]) (rest := []) ⟨hx, hb, hml, hown, hts⟩ (c_X4_test l G (s.heap.size + 127) b th ov un z1 hz1 z2 hz2 zr hzr) (cwV 3 hts gL_law_X4_test rfl rfl rfl (by decide +kernel) ⟨Nat.le_of_ble_eq_true rfl, Nat.le_of_ble_eq_true rfl⟩) (x_preM hM1 hI hK) rfl rfl hl.1 rfl (lv_room (Nat.le_of_ble_eq_true rfl)) dL_law_1606 hc) hS (fun q _ (h : mA (s.heap.size + 127) q) => (by omega : s.heap.size ≤ q)) (fun q (h : mA (s.heap.size + 127) q) => (by omega : s.heap.size ≤ q)) (fun r u t H2 locs2 ht _ hr6 hB hz2 hk2 hS => ?_)
  obtain ⟨Hx, e1, ov2, un2, hM2⟩ := hB
  have e2 : Hx = H2 := e1.symm.trans ht
  subst e2
  replace hM2 : MW G (s.heap.size + 127) (if (oK_test b z1 z2 zr) = 0 then (oB_test b z1 z2 zr) else b) (oK_test b z1 z2 zr) ov2 un2 Hx := hM2
  replace hr6 : (oK_test b z1 z2 zr) = 0 → r = zI (oV_test b z1 z2 zr) := hr6
  have hJ2 := hJ1.kept (hk2 _ hJ1.lt (fun (h : s.heap.size + 127 ≤ s.heap.size + 134 ∧ s.heap.size + 134 < s.heap.size + 127 + 7) => by omega))
  have hX2 : BX G s.heap.size (if (oK_test b z1 z2 zr) = 0 then (oB_test b z1 z2 zr) else b) Hx := by
    obtain ⟨lim2, dif2, hX1⟩ := hX1
    have hlt := hX1.lt
    exact ⟨lim2, dif2, hX1.kept (fun a h1 h2 => hk2 a (by omega) (fun (h : s.heap.size + 127 ≤ a ∧ a < s.heap.size + 127 + 7) => by omega))⟩
  have hI2 : bInv (if (oK_test b z1 z2 zr) = 0 then (oB_test b z1 z2 zr) else b) := by
    split
    · exact oI_test hI (by assumption)
    · exact hI
  have hkr := oR_test b z1 z2 zr
  have hw2 : (oK_test b z1 z2 zr) = 0 → w1 0 = (zI (oV_test b z1 z2 zr)).toInt64 := hw1
  have hLI : LI G s.heap.size (if (oK_test b z1 z2 zr) = 0 then (oB_test b z1 z2 zr) else b) s Hx locs2 := ⟨hX2, ⟨w1, hJ2⟩, hI2, ⟨_, _, _, hM2⟩, hS⟩
  generalize hkz : (oK_test b z1 z2 zr) = kz at *
  generalize (if kz = 0 then (oB_test b z1 z2 zr) else b) = b9 at *
  refine lv_istore (lv' := [(6, .int r), (5, .int (zI kz)), (4, .int (zI (i : Int))), (3, .ref (s.heap.size + 134)), (2, .ref (s.heap.size + 127)), (1, .ref s.heap.size), (0, .ref b0)]) hx hb dL_law_1609 hl (by decide) rfl (fun ls hl => ?_)
  refine lv_aload_n hx hb dL_law_1611 rfl (lv_at hl 4 rfl) ?_
  refine x_cI (va_runV (As := []) (rest := []) ⟨hx, hb, hml, hown, hts⟩ (c_X4_thrown l G (s.heap.size + 127) b9 kz ov2 un2) (cwV 0 hts gL_law_X4_thrown rfl rfl rfl (by decide +kernel) ⟨Nat.le_of_ble_eq_true rfl, Nat.le_of_ble_eq_true rfl⟩) (x_preM hM2 hI2 hK) rfl rfl hl.1 rfl (lv_room (Nat.le_of_ble_eq_true rfl)) dL_law_1612 hc) ?_
  refine lv_iload hx hb dL_law_1615 (lv_at hl 1 rfl) ?_
  refine lv_icmp_eq (tgt := 1622) hx hb dL_law_1617 (by decide) (fun _ => ?_) (fun h => absurd rfl h)
  refine lv_iload hx hb dL_law_1622 (lv_at hl 1 rfl) ?_
  refine x_if_ne (tgt := 1639) hx hb dL_law_1624 (by decide) (by omega) (fun hn => ?_) (fun hk0 => ?_)
  · refine lv_goto (tgt := 1642) hx hb dL_law_1639 (by decide) ?_
    exact kk _ _ _ _ hLI (lv_sub hl [2, 3, 4, 5, 6] rfl)
  · refine lv_aload_n hx hb dL_law_1627 rfl (lv_at hl 3 rfl) ?_
    refine x_iconst hx hb dL_law_1628 ?_
    refine x_lald hx hb hK hJ2 0 (by decide) (by decide) (by decide) dL_law_1629 ?_
    rw [hw2 hk0]
    refine lv_iload hx hb dL_law_1630 (lv_at hl 0 rfl) ?_
    refine lv_i2l hx hb dL_law_1632 (congrArg Int32.toInt64 (hr6 hk0)) ?_
    refine x_lcmpS hx hb dL_law_1633 ?_
    refine lv_if_eq (tgt := 1639) hx hb dL_law_1634 (by decide) (fun _ => ?_) (fun h => absurd rfl h)
    refine lv_goto (tgt := 1642) hx hb dL_law_1639 (by decide) ?_
    exact kk _ _ _ _ hLI (lv_sub hl [2, 3, 4, 5, 6] rfl)
