/-! ===== the law's arms ===== -/
theorem lw_nat (z n : Int) (h : 1 ≤ n) : ∃ y : Nat, (y : Int) < n ∧ z % 2147483648 % n = (y : Int) := by
  have a := lw_rng z h
  exact ⟨(z % 2147483648 % n).toNat, by omega, by omega⟩
def CF (p : Program) (l : Launch) (s : State) (m : MethodId) (c : Code) (b0 L : Nat) (xs : Nat → Int32) (G : XG) : Prop :=
  p.tables.exec = Jvm.exec ∧ c.code = cL_law ∧ c.maxLocals = 15 ∧ s.vm.findClass RL = some m.cls ∧ (∀ w ∈ wsL_law, w.before #[Value.ref b0] s = true) ∧ va_X b0 L xs s s.heap ∧ b0 < s.heap.size ∧ XK G s ∧ XT s.heap.size s ∧ l.stackTraces = false
theorem c_L_append0 (l : Launch) (hfl : l.stackTraces = false) (G : XG) (o lo : Nat) (hlo : lo ≤ o) (b : XB) (y : Nat) (hy : y < 4) (q : Nat) (hq : q < 8) (c9 : Nat) (hc : c9 < 40) (k : Nat) (hk9 : k ≤ 1000) (zs zq zc zk : Int) (ey : zs = (y : Int)) (eq : zq = (q : Int)) (ec : zc = (c9 : Int)) (ek : zk = (k : Int)) (h0 : kAppN b q y (c9 : Int) (k : Int) = 0) : MetLI l yL_append wsL_append 8 127 8 48 G o lo b [.ref o, .int (zI zs), .int (zI zq), .int (zI zc), .int (zI zk)] ((bN b q y : Int) + 1) (bApp b q y c9 k) := by
  have h := c_L_append l hfl G o lo hlo b y hy q hq c9 hc k hk9 zs zq zc zk ey eq ec ek
  rw [apZ, if_pos h0, apB, if_pos h0] at h
  exact h
theorem c_L_append2 (l : Launch) (hfl : l.stackTraces = false) (G : XG) (o lo : Nat) (hlo : lo ≤ o) (b : XB) (y : Nat) (hy : y < 4) (q : Nat) (hq : q < 8) (c9 : Nat) (hc : c9 < 40) (k : Nat) (hk9 : k ≤ 1000) (zs zq zc zk : Int) (ey : zs = (y : Int)) (eq : zq = (q : Int)) (ec : zc = (c9 : Int)) (ek : zk = (k : Int)) (h0 : ¬ kAppN b q y (c9 : Int) (k : Int) = 0) : MetLI l yL_append wsL_append 8 127 8 48 G o lo b [.ref o, .int (zI zs), .int (zI zq), .int (zI zc), .int (zI zk)] (-3) (b) := by
  have h := c_L_append l hfl G o lo hlo b y hy q hq c9 hc k hk9 zs zq zc zk ey eq ec ek
  rw [apZ, if_neg h0, apB, if_neg h0] at h
  exact h
theorem c_L_click0 (l : Launch) (hfl : l.stackTraces = false) (G : XG) (o lo : Nat) (hlo : lo ≤ o) (b : XB) (r : Nat) (hr9 : 1 ≤ r ∧ r ≤ bL b) (zr : Int) (er : zr = (r : Int)) (h0 : bLC b (r - 1) = 0) : MetLI l yL_click wsL_click 8 125 8 48 G o lo b [.ref o, .int (zI zr)] ((bLG b (r - 1) : Int)) (uLC b (r - 1) 1) := by
  have h := c_L_click l hfl G o lo hlo b r hr9 zr er
  rw [ckZ, if_pos h0, ckB, if_pos h0] at h
  exact h
theorem c_L_click2 (l : Launch) (hfl : l.stackTraces = false) (G : XG) (o lo : Nat) (hlo : lo ≤ o) (b : XB) (r : Nat) (hr9 : 1 ≤ r ∧ r ≤ bL b) (zr : Int) (er : zr = (r : Int)) (h0 : ¬ bLC b (r - 1) = 0) : MetLI l yL_click wsL_click 8 125 8 48 G o lo b [.ref o, .int (zI zr)] (-3) (b) := by
  have h := c_L_click l hfl G o lo hlo b r hr9 zr er
  rw [ckZ, if_neg h0, ckB, if_neg h0] at h
  exact h
set_option maxHeartbeats 4000000 in
set_option maxRecDepth 100000 in
theorem cs_judge {p : Program} {l : Launch} {e : Env} {s : State} {m : MethodId} {below : List Frame} {meth : Method} {c : Code} {b0 L : Nat} {xs : Nat → Int32} {G : XG} (C : CF p l s m c b0 L xs G) {Q : State → Prop} {b : XB} {H : Heap} {locs : List Loc} {cells slots : Nat} {ls : Array Slot} {y q d i tn : Nat} {v : Int} (hy : y < 4) (hq : q < 8) (hd : 1 ≤ d ∧ d ≤ 20) (hin : i < tn) (htn : tn ≤ 59) (hi : bInv b) (hX : BX G s.heap.size b H) (hS : va_S (fun q => s.heap.size ≤ q) s.heap H locs) (hl : lv_has ls 15 [(9, .int (zI (d : Int))), (8, .int (zI (q : Int))), (7, .int (zI (y : Int))), (6, .int (zI v)), (5, .int (zI (i : Int))), (4, .int (zI (tn : Int))), (3, .int (zI (bL b : Int))), (2, .int (zI 1)), (1, .ref s.heap.size), (0, .ref b0)]) (hc : cells + 240 ≤ 675216 ∧ slots + 1440 ≤ 7075977)
    (kk : ∀ (b9 : XB) (H9 : Heap) (locs9 : List Loc) (ls9 : Array Slot), bInv b9 → BX G s.heap.size b9 H9 → va_S (fun q => s.heap.size ≤ q) s.heap H9 locs9 → lv_has ls9 15 [(9, .int (zI (d : Int))), (8, .int (zI (q : Int))), (7, .int (zI (y : Int))), (5, .int (zI (i : Int))), (4, .int (zI (tn : Int))), (3, .int (zI (bL b9 : Int))), (2, .int (zI 1)), (1, .ref s.heap.size), (0, .ref b0)] → W p l e room_1 s m #[Value.ref b0] below meth c H9 locs9 (cells + 240) (slots + 1440) Q (F0 m 655 ls9 [])) : W p l e room_1 s m #[Value.ref b0] below meth c H locs cells slots Q (F0 m 336 ls []) := by
  obtain ⟨hx, hb, hml, hown, hts, hXs, hbl, hK, hT, hfl⟩ := C
  have hAl : ∀ q, s.heap.size ≤ q → s.heap.size ≤ q := fun q h => h
  refine lv_iload hx hb dL_law_336 (lv_at hl 3 rfl) ?_
  refine lv_bipush (v := zI 11) hx hb dL_law_338 (by decide +kernel) ?_
  refine x_shrA hx hb dL_law_340 (fun w1 hw1 => ?_)
  refine x_iconst hx hb dL_law_341 ?_
  refine x_cI (va_runS (As := [.int (zI w1), .int (zI 3)]) (rest := []) ⟨hx, hb, hml, hown, hts⟩ (c_L_low l (w1) 3 (by omega)) (va_cwS 2 hts gL_law_L_low rfl rfl rfl (by decide +kernel) ⟨Nat.le_of_ble_eq_true rfl, Nat.le_of_ble_eq_true rfl⟩) x_preS rfl rfl hl.1 rfl (lv_room (Nat.le_of_ble_eq_true rfl)) dL_law_342 (show cells ≤ 675216 ∧ slots ≤ 7075977 from ⟨by omega, by omega⟩)) ?_
  obtain ⟨j, hj, ej⟩ := lw_nat (w1) 3 (by omega)
  rw [ej]
  refine lv_istore (lv' := [(11, .int (zI (j : Int))), (9, .int (zI (d : Int))), (8, .int (zI (q : Int))), (7, .int (zI (y : Int))), (6, .int (zI v)), (5, .int (zI (i : Int))), (4, .int (zI (tn : Int))), (3, .int (zI (bL b : Int))), (2, .int (zI 1)), (1, .ref s.heap.size), (0, .ref b0)]) hx hb dL_law_345 hl (by decide) rfl (fun ls hl => ?_)
  have hbl9 := hi.l
  refine lv_aload_n hx hb dL_law_347 rfl (lv_at hl 9 rfl) ?_
  refine lv_iload hx hb dL_law_348 (lv_at hl 2 rfl) ?_
  refine lv_iload hx hb dL_law_350 (lv_at hl 4 rfl) ?_
  refine lv_bipush (v := zI 40) hx hb dL_law_352 (by decide +kernel) ?_
  refine x_cI (va_runS (As := [.int (zI v), .int (zI 40)]) (rest := [.int (zI (q : Int)), .ref s.heap.size]) ⟨hx, hb, hml, hown, hts⟩ (c_L_low l (v) 40 (by omega)) (va_cwS 2 hts gL_law_L_low rfl rfl rfl (by decide +kernel) ⟨Nat.le_of_ble_eq_true rfl, Nat.le_of_ble_eq_true rfl⟩) x_preS rfl rfl hl.1 rfl (lv_room (Nat.le_of_ble_eq_true rfl)) dL_law_354 (show cells ≤ 675216 ∧ slots ≤ 7075977 from ⟨by omega, by omega⟩)) ?_
  obtain ⟨c9, hc9, ec9⟩ := lw_nat (v) 40 (by omega)
  rw [ec9]
  refine lv_iload hx hb dL_law_357 (lv_at hl 0 rfl) ?_
  refine x_wI (va_runV (As := [.int (zI (q : Int)), .int (zI (c9 : Int)), .int (zI (j : Int))]) (rest := []) ⟨hx, hb, hml, hown, hts⟩ (r_judge l hfl G s.heap.size s.heap.size (Nat.le_refl _) b q (by omega) c9 (by omega) j (by omega) ((q : Int)) ((c9 : Int)) ((j : Int)) (by omega) (by omega) (by omega)) (cwV 3 hts gL_law_X3_judge rfl rfl rfl (by decide +kernel) ⟨Nat.le_of_ble_eq_true rfl, Nat.le_of_ble_eq_true rfl⟩) (x_preLV hX hi hK hT hS hAl) rfl rfl hl.1 rfl (lv_room (Nat.le_of_ble_eq_true rfl)) dL_law_359 (show cells + 8 ≤ 675216 ∧ slots + 48 ≤ 7075977 from ⟨by omega, by omega⟩)) hS (fun q _ (h : xA s.heap.size q) => h.1) (fun q (h : xA s.heap.size q) => h.1) (fun H1 locs1 hX hz9 hk9 hS => ?_)
  have hi := uJ_inv (q := q) (d := c9) (v := j) hi (by omega)
  refine lv_pop hx hb dL_law_362 rfl ?_
  refine lv_aload_n hx hb dL_law_363 rfl (lv_at hl 9 rfl) ?_
  refine lv_iload hx hb dL_law_364 (lv_at hl 2 rfl) ?_
  refine lv_iload hx hb dL_law_366 (lv_at hl 4 rfl) ?_
  refine lv_bipush (v := zI 40) hx hb dL_law_368 (by decide +kernel) ?_
  refine x_cI (va_runS (As := [.int (zI v), .int (zI 40)]) (rest := [.int (zI (q : Int)), .ref s.heap.size]) ⟨hx, hb, hml, hown, hts⟩ (c_L_low l (v) 40 (by omega)) (va_cwS 2 hts gL_law_L_low rfl rfl rfl (by decide +kernel) ⟨Nat.le_of_ble_eq_true rfl, Nat.le_of_ble_eq_true rfl⟩) x_preS rfl rfl hl.1 rfl (lv_room (Nat.le_of_ble_eq_true rfl)) dL_law_370 (show cells + 8 ≤ 675216 ∧ slots + 48 ≤ 7075977 from ⟨by omega, by omega⟩)) ?_
  rw [ec9]
  refine lv_iload hx hb dL_law_373 (lv_at hl 0 rfl) ?_
  refine x_wI (va_runV (As := [.int (zI (q : Int)), .int (zI (c9 : Int)), .int (zI (j : Int))]) (rest := []) ⟨hx, hb, hml, hown, hts⟩ (r_judge l hfl G s.heap.size s.heap.size (Nat.le_refl _) (uJ b q c9 j) q (by omega) c9 (by omega) j (by omega) ((q : Int)) ((c9 : Int)) ((j : Int)) (by omega) (by omega) (by omega)) (cwV 3 hts gL_law_X3_judge rfl rfl rfl (by decide +kernel) ⟨Nat.le_of_ble_eq_true rfl, Nat.le_of_ble_eq_true rfl⟩) (x_preLV hX hi hK hT hS hAl) rfl rfl hl.1 rfl (lv_room (Nat.le_of_ble_eq_true rfl)) dL_law_375 (show cells + 8 + 8 ≤ 675216 ∧ slots + 48 + 48 ≤ 7075977 from ⟨by omega, by omega⟩)) hS (fun q _ (h : xA s.heap.size q) => h.1) (fun q (h : xA s.heap.size q) => h.1) (fun H1 locs1 hX hz9 hk9 hS => ?_)
  have hi := uJ_inv (q := q) (d := c9) (v := j) hi (by omega)
  have hju := ju_j b q c9 j
  refine lv_iload hx hb dL_law_378 (lv_at hl 0 rfl) ?_
  refine x_icmp_ne (tgt := 387) hx hb dL_law_380 (by decide) (by omega) (fun h2 => ?_) (fun h3 => ?_)
  · exact absurd h2 (by omega)
  · refine x_iconst hx hb dL_law_383 ?_
    refine lv_goto (tgt := 388) hx hb dL_law_384 (by decide) ?_
    refine lv_istore_n (lv' := [(2, .int (zI 1)), (11, .int (zI (j : Int))), (9, .int (zI (d : Int))), (8, .int (zI (q : Int))), (7, .int (zI (y : Int))), (6, .int (zI v)), (5, .int (zI (i : Int))), (4, .int (zI (tn : Int))), (3, .int (zI (bL b : Int))), (1, .ref s.heap.size), (0, .ref b0)]) hx hb dL_law_388 rfl hl (by decide) rfl (fun ls hl => ?_)
    refine lv_goto (tgt := 655) hx hb dL_law_389 (by decide) ?_
    refine W.widen (k := cells + 240) (n := slots + 1440) (by omega) (by omega) ?_
    exact kk (uJ (uJ b q c9 j) q c9 j) _ _ ls hi hX hS (lv_cons (lv_at hl 2 rfl) (lv_cons (lv_at hl 3 rfl) (lv_cons (lv_at hl 4 rfl) (lv_cons (lv_at hl 6 rfl) (lv_cons (lv_at hl 7 rfl) (lv_cons (x_at (lv_at hl 8 rfl) (rfl)) (lv_cons (lv_at hl 0 rfl) (lv_cons (lv_at hl 9 rfl) (lv_cons (lv_at hl 10 rfl) (lv_nil hl))))))))))
set_option maxHeartbeats 4000000 in
set_option maxRecDepth 100000 in
theorem cs_empty {p : Program} {l : Launch} {e : Env} {s : State} {m : MethodId} {below : List Frame} {meth : Method} {c : Code} {b0 L : Nat} {xs : Nat → Int32} {G : XG} (C : CF p l s m c b0 L xs G) {Q : State → Prop} {b : XB} {H : Heap} {locs : List Loc} {cells slots : Nat} {ls : Array Slot} {y q d i tn : Nat} {v : Int} (hy : y < 4) (hq : q < 8) (hd : 1 ≤ d ∧ d ≤ 20) (hin : i < tn) (htn : tn ≤ 59) (hi : bInv b) (hX : BX G s.heap.size b H) (hS : va_S (fun q => s.heap.size ≤ q) s.heap H locs) (hl : lv_has ls 15 [(9, .int (zI (d : Int))), (8, .int (zI (q : Int))), (7, .int (zI (y : Int))), (6, .int (zI v)), (5, .int (zI (i : Int))), (4, .int (zI (tn : Int))), (3, .int (zI (bL b : Int))), (2, .int (zI 1)), (1, .ref s.heap.size), (0, .ref b0)]) (hc : cells + 240 ≤ 675216 ∧ slots + 1440 ≤ 7075977)
    (kk : ∀ (b9 : XB) (H9 : Heap) (locs9 : List Loc) (ls9 : Array Slot), bInv b9 → BX G s.heap.size b9 H9 → va_S (fun q => s.heap.size ≤ q) s.heap H9 locs9 → lv_has ls9 15 [(9, .int (zI (d : Int))), (8, .int (zI (q : Int))), (7, .int (zI (y : Int))), (5, .int (zI (i : Int))), (4, .int (zI (tn : Int))), (3, .int (zI (bL b9 : Int))), (2, .int (zI 1)), (1, .ref s.heap.size), (0, .ref b0)] → W p l e room_1 s m #[Value.ref b0] below meth c H9 locs9 (cells + 240) (slots + 1440) Q (F0 m 655 ls9 [])) : W p l e room_1 s m #[Value.ref b0] below meth c H locs cells slots Q (F0 m 408 ls []) := by
  obtain ⟨hx, hb, hml, hown, hts, hXs, hbl, hK, hT, hfl⟩ := C
  have hAl : ∀ q, s.heap.size ≤ q → s.heap.size ≤ q := fun q h => h
  refine lv_aload_n hx hb dL_law_408 rfl (lv_at hl 8 rfl) ?_
  refine lv_iload hx hb dL_law_409 (lv_at hl 2 rfl) ?_
  refine lv_iload hx hb dL_law_411 (lv_at hl 1 rfl) ?_
  refine x_wI (va_runV (As := [.int (zI (y : Int)), .int (zI (q : Int))]) (rest := []) ⟨hx, hb, hml, hown, hts⟩ (r_length l hfl G s.heap.size s.heap.size (Nat.le_refl _) b y (by omega) q (by omega) ((y : Int)) ((q : Int)) (by omega) (by omega)) (cwV 2 hts gL_law_X3_length rfl rfl rfl (by decide +kernel) ⟨Nat.le_of_ble_eq_true rfl, Nat.le_of_ble_eq_true rfl⟩) (x_preLV hX hi hK hT hS hAl) rfl rfl hl.1 rfl (lv_room (Nat.le_of_ble_eq_true rfl)) dL_law_413 (show cells + 8 ≤ 675216 ∧ slots + 48 ≤ 7075977 from ⟨by omega, by omega⟩)) hS (fun q _ (h : xA s.heap.size q) => h.1) (fun q (h : xA s.heap.size q) => h.1) (fun H1 locs1 hX hz9 hk9 hS => ?_)
  have hn20 := hi.n q y
  refine lv_istore (lv' := [(11, .int (zI (bN b q y : Int))), (9, .int (zI (d : Int))), (8, .int (zI (q : Int))), (7, .int (zI (y : Int))), (6, .int (zI v)), (5, .int (zI (i : Int))), (4, .int (zI (tn : Int))), (3, .int (zI (bL b : Int))), (2, .int (zI 1)), (1, .ref s.heap.size), (0, .ref b0)]) hx hb dL_law_416 hl (by decide) rfl (fun ls hl => ?_)
  refine lv_aload_n hx hb dL_law_418 rfl (lv_at hl 9 rfl) ?_
  refine lv_iload hx hb dL_law_419 (lv_at hl 3 rfl) ?_
  refine lv_iload hx hb dL_law_421 (lv_at hl 2 rfl) ?_
  refine x_wI (va_runV (As := [.int (zI (y : Int)), .int (zI (q : Int))]) (rest := []) ⟨hx, hb, hml, hown, hts⟩ (r_empty l hfl G s.heap.size s.heap.size (Nat.le_refl _) b y (by omega) q (by omega) ((y : Int)) ((q : Int)) (by omega) (by omega)) (cwV 2 hts gL_law_X3_empty rfl rfl rfl (by decide +kernel) ⟨Nat.le_of_ble_eq_true rfl, Nat.le_of_ble_eq_true rfl⟩) (x_preLV hX hi hK hT hS hAl) rfl rfl hl.1 rfl (lv_room (Nat.le_of_ble_eq_true rfl)) dL_law_423 (show cells + 8 + 8 ≤ 675216 ∧ slots + 48 + 48 ≤ 7075977 from ⟨by omega, by omega⟩)) hS (fun q _ (h : xA s.heap.size q) => h.1) (fun q (h : xA s.heap.size q) => h.1) (fun H1 locs1 hX hz9 hk9 hS => ?_)
  have hi := uN_inv (q := q) (y := y) (v := 0) hi (by omega)
  have hem := em_n b q y
  refine lv_iload hx hb dL_law_426 (lv_at hl 0 rfl) ?_
  refine x_icmp_ne (tgt := 446) hx hb dL_law_428 (by decide) (by omega) (fun h1 => ?_) (fun h2 => ?_)
  · exact absurd h1 (by omega)
  · refine lv_aload_n hx hb dL_law_431 rfl (lv_at hl 9 rfl) ?_
    refine lv_iload hx hb dL_law_432 (lv_at hl 3 rfl) ?_
    refine lv_iload hx hb dL_law_434 (lv_at hl 2 rfl) ?_
    refine x_wI (va_runV (As := [.int (zI (y : Int)), .int (zI (q : Int))]) (rest := []) ⟨hx, hb, hml, hown, hts⟩ (r_length l hfl G s.heap.size s.heap.size (Nat.le_refl _) (uN b q y 0) y (by omega) q (by omega) ((y : Int)) ((q : Int)) (by omega) (by omega)) (cwV 2 hts gL_law_X3_length rfl rfl rfl (by decide +kernel) ⟨Nat.le_of_ble_eq_true rfl, Nat.le_of_ble_eq_true rfl⟩) (x_preLV hX hi hK hT hS hAl) rfl rfl hl.1 rfl (lv_room (Nat.le_of_ble_eq_true rfl)) dL_law_436 (show cells + 8 + 8 + 8 ≤ 675216 ∧ slots + 48 + 48 + 48 ≤ 7075977 from ⟨by omega, by omega⟩)) hS (fun q _ (h : xA s.heap.size q) => h.1) (fun q (h : xA s.heap.size q) => h.1) (fun H1 locs1 hX hz9 hk9 hS => ?_)
    refine x_if_ne (tgt := 446) hx hb dL_law_439 (by decide) (by omega) (fun h3 => ?_) (fun h4 => ?_)
    · exact absurd h3 (by omega)
    · refine x_iconst hx hb dL_law_442 ?_
      refine lv_goto (tgt := 447) hx hb dL_law_443 (by decide) ?_
      refine lv_istore_n (lv' := [(2, .int (zI 1)), (11, .int (zI (bN b q y : Int))), (9, .int (zI (d : Int))), (8, .int (zI (q : Int))), (7, .int (zI (y : Int))), (6, .int (zI v)), (5, .int (zI (i : Int))), (4, .int (zI (tn : Int))), (3, .int (zI (bL b : Int))), (1, .ref s.heap.size), (0, .ref b0)]) hx hb dL_law_447 rfl hl (by decide) rfl (fun ls hl => ?_)
      refine lv_goto (tgt := 655) hx hb dL_law_448 (by decide) ?_
      refine W.widen (k := cells + 240) (n := slots + 1440) (by omega) (by omega) ?_
      exact kk (uN b q y 0) _ _ ls hi hX hS (lv_cons (lv_at hl 2 rfl) (lv_cons (lv_at hl 3 rfl) (lv_cons (lv_at hl 4 rfl) (lv_cons (lv_at hl 6 rfl) (lv_cons (lv_at hl 7 rfl) (lv_cons (x_at (lv_at hl 8 rfl) (rfl)) (lv_cons (lv_at hl 0 rfl) (lv_cons (lv_at hl 9 rfl) (lv_cons (lv_at hl 10 rfl) (lv_nil hl))))))))))
set_option maxHeartbeats 4000000 in
set_option maxRecDepth 100000 in
theorem cs_tests {p : Program} {l : Launch} {e : Env} {s : State} {m : MethodId} {below : List Frame} {meth : Method} {c : Code} {b0 L : Nat} {xs : Nat → Int32} {G : XG} (C : CF p l s m c b0 L xs G) {Q : State → Prop} {b : XB} {H : Heap} {locs : List Loc} {cells slots : Nat} {ls : Array Slot} {y q d i tn : Nat} {v : Int} (hy : y < 4) (hq : q < 8) (hd : 1 ≤ d ∧ d ≤ 20) (hin : i < tn) (htn : tn ≤ 59) (hi : bInv b) (hX : BX G s.heap.size b H) (hS : va_S (fun q => s.heap.size ≤ q) s.heap H locs) (hl : lv_has ls 15 [(9, .int (zI (d : Int))), (8, .int (zI (q : Int))), (7, .int (zI (y : Int))), (6, .int (zI v)), (5, .int (zI (i : Int))), (4, .int (zI (tn : Int))), (3, .int (zI (bL b : Int))), (2, .int (zI 1)), (1, .ref s.heap.size), (0, .ref b0)]) (hc : cells + 240 ≤ 675216 ∧ slots + 1440 ≤ 7075977)
    (kk : ∀ (b9 : XB) (H9 : Heap) (locs9 : List Loc) (ls9 : Array Slot), bInv b9 → BX G s.heap.size b9 H9 → va_S (fun q => s.heap.size ≤ q) s.heap H9 locs9 → lv_has ls9 15 [(9, .int (zI (d : Int))), (8, .int (zI (q : Int))), (7, .int (zI (y : Int))), (5, .int (zI (i : Int))), (4, .int (zI (tn : Int))), (3, .int (zI (bL b9 : Int))), (2, .int (zI 1)), (1, .ref s.heap.size), (0, .ref b0)] → W p l e room_1 s m #[Value.ref b0] below meth c H9 locs9 (cells + 240) (slots + 1440) Q (F0 m 655 ls9 [])) : W p l e room_1 s m #[Value.ref b0] below meth c H locs cells slots Q (F0 m 623 ls []) := by
  obtain ⟨hx, hb, hml, hown, hts, hXs, hbl, hK, hT, hfl⟩ := C
  have hAl : ∀ q, s.heap.size ≤ q → s.heap.size ≤ q := fun q h => h
  refine lv_aload_n hx hb dL_law_623 rfl (lv_at hl 8 rfl) ?_
  refine lv_iload hx hb dL_law_624 (lv_at hl 2 rfl) ?_
  refine lv_iload hx hb dL_law_626 (lv_at hl 3 rfl) ?_
  refine x_iconst hx hb dL_law_628 ?_
  refine x_cI (va_runS (As := [.int (zI v), .int (zI 4)]) (rest := [.int (zI (y : Int)), .ref s.heap.size]) ⟨hx, hb, hml, hown, hts⟩ (c_L_low l (v) 4 (by omega)) (va_cwS 2 hts gL_law_L_low rfl rfl rfl (by decide +kernel) ⟨Nat.le_of_ble_eq_true rfl, Nat.le_of_ble_eq_true rfl⟩) x_preS rfl rfl hl.1 rfl (lv_room (Nat.le_of_ble_eq_true rfl)) dL_law_629 (show cells ≤ 675216 ∧ slots ≤ 7075977 from ⟨by omega, by omega⟩)) ?_
  obtain ⟨t, ht, et⟩ := lw_nat (v) 4 (by omega)
  rw [et]
  refine lv_iload hx hb dL_law_632 (lv_at hl 0 rfl) ?_
  refine x_wI (va_runS (As := [.ref s.heap.size, .int (zI (y : Int)), .int (zI (t : Int)), .int (zI (d : Int))]) (rest := []) ⟨hx, hb, hml, hown, hts⟩ (c_L_tests l hfl G s.heap.size s.heap.size (Nat.le_refl _) b y hy t (by omega) d hd (y : Int) (t : Int) (d : Int) rfl rfl rfl) (va_cwS 4 hts gL_law_L_tests rfl rfl rfl (by decide +kernel) ⟨Nat.le_of_ble_eq_true rfl, Nat.le_of_ble_eq_true rfl⟩) (x_preLS hX hi hK hT hS hAl) rfl rfl hl.1 rfl (lv_room (Nat.le_of_ble_eq_true rfl)) dL_law_634 (show cells + 40 ≤ 675216 ∧ slots + 240 ≤ 7075977 from ⟨by omega, by omega⟩)) hS (fun q _ (h : xA s.heap.size q) => h.1) (fun q (h : xA s.heap.size q) => h.1) (fun H1 locs1 hX hz9 hk9 hS => ?_)
  refine x_if_eq (tgt := 653) hx hb dL_law_637 (by decide) (by omega) (fun h1 => ?_) (fun h2 => ?_)
  · exact absurd h1 (by omega)
  · refine lv_aload_n hx hb dL_law_640 rfl (lv_at hl 8 rfl) ?_
    refine lv_iload hx hb dL_law_641 (lv_at hl 0 rfl) ?_
    refine x_wI (va_runS (As := [.ref s.heap.size, .int (zI (d : Int))]) (rest := []) ⟨hx, hb, hml, hown, hts⟩ (c_L_best l hfl G s.heap.size s.heap.size (Nat.le_refl _) b d (by omega) (d : Int) rfl) (va_cwS 2 hts gL_law_L_best rfl rfl rfl (by decide +kernel) ⟨Nat.le_of_ble_eq_true rfl, Nat.le_of_ble_eq_true rfl⟩) (x_preLS hX hi hK hT hS hAl) rfl rfl hl.1 rfl (lv_room (Nat.le_of_ble_eq_true rfl)) dL_law_643 (show cells + 40 + 200 ≤ 675216 ∧ slots + 240 + 1200 ≤ 7075977 from ⟨by omega, by omega⟩)) hS (fun q _ (h : xA s.heap.size q) => h.1) (fun q (h : xA s.heap.size q) => h.1) (fun H1 locs1 hX hz9 hk9 hS => ?_)
    refine x_if_eq (tgt := 653) hx hb dL_law_646 (by decide) (by omega) (fun h3 => ?_) (fun h4 => ?_)
    · exact absurd h3 (by omega)
    · refine x_iconst hx hb dL_law_649 ?_
      refine lv_goto (tgt := 654) hx hb dL_law_650 (by decide) ?_
      refine lv_istore_n (lv' := [(2, .int (zI 1)), (9, .int (zI (d : Int))), (8, .int (zI (q : Int))), (7, .int (zI (y : Int))), (6, .int (zI v)), (5, .int (zI (i : Int))), (4, .int (zI (tn : Int))), (3, .int (zI (bL b : Int))), (1, .ref s.heap.size), (0, .ref b0)]) hx hb dL_law_654 rfl hl (by decide) rfl (fun ls hl => ?_)
      refine W.widen (k := cells + 240) (n := slots + 1440) (by omega) (by omega) ?_
      exact kk b _ _ ls hi hX hS (lv_cons (lv_at hl 1 rfl) (lv_cons (lv_at hl 2 rfl) (lv_cons (lv_at hl 3 rfl) (lv_cons (lv_at hl 5 rfl) (lv_cons (lv_at hl 6 rfl) (lv_cons (lv_at hl 7 rfl) (lv_cons (lv_at hl 0 rfl) (lv_cons (lv_at hl 8 rfl) (lv_cons (lv_at hl 9 rfl) (lv_nil hl))))))))))
set_option maxHeartbeats 4000000 in
set_option maxRecDepth 100000 in
theorem cs_click {p : Program} {l : Launch} {e : Env} {s : State} {m : MethodId} {below : List Frame} {meth : Method} {c : Code} {b0 L : Nat} {xs : Nat → Int32} {G : XG} (C : CF p l s m c b0 L xs G) {Q : State → Prop} {b : XB} {H : Heap} {locs : List Loc} {cells slots : Nat} {ls : Array Slot} {y q d i tn : Nat} {v : Int} (hy : y < 4) (hq : q < 8) (hd : 1 ≤ d ∧ d ≤ 20) (hin : i < tn) (htn : tn ≤ 59) (hpos : 0 < bL b) (hi : bInv b) (hX : BX G s.heap.size b H) (hS : va_S (fun q => s.heap.size ≤ q) s.heap H locs) (hl : lv_has ls 15 [(9, .int (zI (d : Int))), (8, .int (zI (q : Int))), (7, .int (zI (y : Int))), (6, .int (zI v)), (5, .int (zI (i : Int))), (4, .int (zI (tn : Int))), (3, .int (zI (bL b : Int))), (2, .int (zI 1)), (1, .ref s.heap.size), (0, .ref b0)]) (hc : cells + 240 ≤ 675216 ∧ slots + 1440 ≤ 7075977)
    (kk : ∀ (b9 : XB) (H9 : Heap) (locs9 : List Loc) (ls9 : Array Slot), bInv b9 → BX G s.heap.size b9 H9 → va_S (fun q => s.heap.size ≤ q) s.heap H9 locs9 → lv_has ls9 15 [(9, .int (zI (d : Int))), (8, .int (zI (q : Int))), (7, .int (zI (y : Int))), (5, .int (zI (i : Int))), (4, .int (zI (tn : Int))), (3, .int (zI (bL b9 : Int))), (2, .int (zI 1)), (1, .ref s.heap.size), (0, .ref b0)] → W p l e room_1 s m #[Value.ref b0] below meth c H9 locs9 (cells + 240) (slots + 1440) Q (F0 m 655 ls9 [])) : W p l e room_1 s m #[Value.ref b0] below meth c H locs cells slots Q (F0 m 569 ls []) := by
  obtain ⟨hx, hb, hml, hown, hts, hXs, hbl, hK, hT, hfl⟩ := C
  have hAl : ∀ q, s.heap.size ≤ q → s.heap.size ≤ q := fun q h => h
  have hbl20 := hi.l
  refine x_iconst hx hb dL_law_569 ?_
  refine lv_iload hx hb dL_law_570 (lv_at hl 3 rfl) ?_
  refine lv_iload_n hx hb dL_law_572 rfl (lv_at hl 6 rfl) ?_
  refine x_cI (va_runS (As := [.int (zI v), .int (zI (bL b : Int))]) (rest := [.int (zI 1)]) ⟨hx, hb, hml, hown, hts⟩ (c_L_low l (v) (bL b : Int) (by omega)) (va_cwS 2 hts gL_law_L_low rfl rfl rfl (by decide +kernel) ⟨Nat.le_of_ble_eq_true rfl, Nat.le_of_ble_eq_true rfl⟩) x_preS rfl rfl hl.1 rfl (lv_room (Nat.le_of_ble_eq_true rfl)) dL_law_573 (show cells ≤ 675216 ∧ slots ≤ 7075977 from ⟨by omega, by omega⟩)) ?_
  obtain ⟨r0, hr0, er0⟩ := lw_nat (v) (bL b : Int) (by omega)
  rw [er0]
  refine x_iadd hx hb dL_law_576 ?_
  refine lv_istore (lv' := [(11, .int (zI (1 + (r0 : Int)))), (9, .int (zI (d : Int))), (8, .int (zI (q : Int))), (7, .int (zI (y : Int))), (6, .int (zI v)), (5, .int (zI (i : Int))), (4, .int (zI (tn : Int))), (3, .int (zI (bL b : Int))), (2, .int (zI 1)), (1, .ref s.heap.size), (0, .ref b0)]) hx hb dL_law_577 hl (by decide) rfl (fun ls hl => ?_)
  obtain ⟨r, er⟩ : ∃ r : Nat, 1 + (r0 : Int) = (r : Int) := ⟨1 + r0, by omega⟩
  rw [er] at hl
  have hr9 : 1 ≤ r ∧ r ≤ bL b := by omega
  have hlg := hi.lg (r - 1)
  have hcp := ck_pos (b := b) (k := r - 1) (by omega)
  have hcf : cfN (uLC b (r - 1) 1) (bLG b (r - 1) : Int) ≤ bL b := cnt9_le _ _ _
  by_cases h0s : bLC b (r - 1) = 0
  · refine lv_aload_n hx hb dL_law_579 rfl (lv_at hl 9 rfl) ?_
    refine lv_iload hx hb dL_law_580 (lv_at hl 0 rfl) ?_
    refine x_wI (vx_runSW (As := [.ref s.heap.size, .int (zI (r : Int))]) (rest := []) ⟨hx, hb, hml, hown, hts⟩ (c_L_click0 l hfl G s.heap.size s.heap.size (Nat.le_refl _) b r hr9 (r : Int) (by omega) h0s) (vx_cwSW 2 hts gL_law_L_click rfl rfl rfl (by decide +kernel) ⟨Nat.le_of_ble_eq_true rfl, Nat.le_of_ble_eq_true rfl⟩) (x_preLS hX hi hK hT hS hAl) rfl rfl hl.1 rfl (lv_room (Nat.le_of_ble_eq_true rfl)) dL_law_582 (show cells + 8 ≤ 675216 ∧ slots + 48 ≤ 7075977 from ⟨by omega, by omega⟩)) hS (fun q _ (h : xA s.heap.size q) => h.1) (fun q (h : xA s.heap.size q) => h.1) (fun H1 locs1 hX hz9 hk9 hS => ?_)
    have hi := ck_inv hi (r - 1)
    refine lv_istore (lv' := [(12, .int (zI (bLG b (r - 1) : Int))), (11, .int (zI (r : Int))), (9, .int (zI (d : Int))), (8, .int (zI (q : Int))), (7, .int (zI (y : Int))), (6, .int (zI v)), (5, .int (zI (i : Int))), (4, .int (zI (tn : Int))), (3, .int (zI (bL b : Int))), (2, .int (zI 1)), (1, .ref s.heap.size), (0, .ref b0)]) hx hb dL_law_585 hl (by decide) rfl (fun ls hl => ?_)
    refine lv_iload hx hb dL_law_587 (lv_at hl 0 rfl) ?_
    refine lv_bipush (v := zI (-3)) hx hb dL_law_589 (by decide +kernel) ?_
    refine x_icmp_eq (tgt := 614) hx hb dL_law_591 (by decide) (by omega) (fun h1 => ?_) (fun h2 => ?_)
    · exact absurd h1 (by omega)
    · refine lv_aload_n hx hb dL_law_594 rfl (lv_at hl 10 rfl) ?_
      refine lv_iload hx hb dL_law_595 (lv_at hl 0 rfl) ?_
      refine x_wI (va_runV (As := [.int (zI (bLG b (r - 1) : Int))]) (rest := []) ⟨hx, hb, hml, hown, hts⟩ (r_credit l hfl G s.heap.size s.heap.size (Nat.le_refl _) (uLC b (r - 1) 1) (bLG b (r - 1)) (by omega) ((bLG b (r - 1) : Int)) (by omega)) (cwV 1 hts gL_law_X3_credit rfl rfl rfl (by decide +kernel) ⟨Nat.le_of_ble_eq_true rfl, Nat.le_of_ble_eq_true rfl⟩) (x_preLV hX hi hK hT hS hAl) rfl rfl hl.1 rfl (lv_room (Nat.le_of_ble_eq_true rfl)) dL_law_597 (show cells + 8 + 8 ≤ 675216 ∧ slots + 48 + 48 ≤ 7075977 from ⟨by omega, by omega⟩)) hS (fun q _ (h : xA s.heap.size q) => h.1) (fun q (h : xA s.heap.size q) => h.1) (fun H1 locs1 hX hz9 hk9 hS => ?_)
      refine x_if_le (tgt := 618) hx hb dL_law_600 (by decide) (by omega) (fun h3 => ?_) (fun h4 => ?_)
      · exact absurd h3 (by omega)
      · refine lv_aload_n hx hb dL_law_603 rfl (lv_at hl 10 rfl) ?_
        refine lv_iload hx hb dL_law_604 (lv_at hl 1 rfl) ?_
        refine x_wI (vx_runSW (As := [.ref s.heap.size, .int (zI (r : Int))]) (rest := []) ⟨hx, hb, hml, hown, hts⟩ (c_L_click2 l hfl G s.heap.size s.heap.size (Nat.le_refl _) (uLC b (r - 1) 1) r hr9 (r : Int) (by omega) (ck_again b (r - 1))) (vx_cwSW 2 hts gL_law_L_click rfl rfl rfl (by decide +kernel) ⟨Nat.le_of_ble_eq_true rfl, Nat.le_of_ble_eq_true rfl⟩) (x_preLS hX hi hK hT hS hAl) rfl rfl hl.1 rfl (lv_room (Nat.le_of_ble_eq_true rfl)) dL_law_606 (show cells + 8 + 8 + 8 ≤ 675216 ∧ slots + 48 + 48 + 48 ≤ 7075977 from ⟨by omega, by omega⟩)) hS (fun q _ (h : xA s.heap.size q) => h.1) (fun q (h : xA s.heap.size q) => h.1) (fun H1 locs1 hX hz9 hk9 hS => ?_)
        refine lv_bipush (v := zI (-3)) hx hb dL_law_609 (by decide +kernel) ?_
        refine x_icmp_ne (tgt := 618) hx hb dL_law_611 (by decide) (by omega) (fun h5 => ?_) (fun h6 => ?_)
        · exact absurd h5 (by omega)
        · refine x_iconst hx hb dL_law_614 ?_
          refine lv_goto (tgt := 619) hx hb dL_law_615 (by decide) ?_
          refine lv_istore_n (lv' := [(2, .int (zI 1)), (12, .int (zI (bLG b (r - 1) : Int))), (11, .int (zI (r : Int))), (9, .int (zI (d : Int))), (8, .int (zI (q : Int))), (7, .int (zI (y : Int))), (6, .int (zI v)), (5, .int (zI (i : Int))), (4, .int (zI (tn : Int))), (3, .int (zI (bL b : Int))), (1, .ref s.heap.size), (0, .ref b0)]) hx hb dL_law_619 rfl hl (by decide) rfl (fun ls hl => ?_)
          refine lv_goto (tgt := 655) hx hb dL_law_620 (by decide) ?_
          refine W.widen (k := cells + 240) (n := slots + 1440) (by omega) (by omega) ?_
          exact kk (uLC b (r - 1) 1) _ _ ls hi hX hS (lv_cons (lv_at hl 3 rfl) (lv_cons (lv_at hl 4 rfl) (lv_cons (lv_at hl 5 rfl) (lv_cons (lv_at hl 7 rfl) (lv_cons (lv_at hl 8 rfl) (lv_cons (x_at (lv_at hl 9 rfl) (rfl)) (lv_cons (lv_at hl 0 rfl) (lv_cons (lv_at hl 10 rfl) (lv_cons (lv_at hl 11 rfl) (lv_nil hl))))))))))
  · refine lv_aload_n hx hb dL_law_579 rfl (lv_at hl 9 rfl) ?_
    refine lv_iload hx hb dL_law_580 (lv_at hl 0 rfl) ?_
    refine x_wI (vx_runSW (As := [.ref s.heap.size, .int (zI (r : Int))]) (rest := []) ⟨hx, hb, hml, hown, hts⟩ (c_L_click2 l hfl G s.heap.size s.heap.size (Nat.le_refl _) b r hr9 (r : Int) (by omega) h0s) (vx_cwSW 2 hts gL_law_L_click rfl rfl rfl (by decide +kernel) ⟨Nat.le_of_ble_eq_true rfl, Nat.le_of_ble_eq_true rfl⟩) (x_preLS hX hi hK hT hS hAl) rfl rfl hl.1 rfl (lv_room (Nat.le_of_ble_eq_true rfl)) dL_law_582 (show cells + 8 ≤ 675216 ∧ slots + 48 ≤ 7075977 from ⟨by omega, by omega⟩)) hS (fun q _ (h : xA s.heap.size q) => h.1) (fun q (h : xA s.heap.size q) => h.1) (fun H1 locs1 hX hz9 hk9 hS => ?_)
    refine lv_istore (lv' := [(12, .int (zI (-3))), (11, .int (zI (r : Int))), (9, .int (zI (d : Int))), (8, .int (zI (q : Int))), (7, .int (zI (y : Int))), (6, .int (zI v)), (5, .int (zI (i : Int))), (4, .int (zI (tn : Int))), (3, .int (zI (bL b : Int))), (2, .int (zI 1)), (1, .ref s.heap.size), (0, .ref b0)]) hx hb dL_law_585 hl (by decide) rfl (fun ls hl => ?_)
    refine lv_iload hx hb dL_law_587 (lv_at hl 0 rfl) ?_
    refine lv_bipush (v := zI (-3)) hx hb dL_law_589 (by decide +kernel) ?_
    refine x_icmp_eq (tgt := 614) hx hb dL_law_591 (by decide) (by omega) (fun h7 => ?_) (fun h8 => ?_)
    · refine x_iconst hx hb dL_law_614 ?_
      refine lv_goto (tgt := 619) hx hb dL_law_615 (by decide) ?_
      refine lv_istore_n (lv' := [(2, .int (zI 1)), (12, .int (zI (-3))), (11, .int (zI (r : Int))), (9, .int (zI (d : Int))), (8, .int (zI (q : Int))), (7, .int (zI (y : Int))), (6, .int (zI v)), (5, .int (zI (i : Int))), (4, .int (zI (tn : Int))), (3, .int (zI (bL b : Int))), (1, .ref s.heap.size), (0, .ref b0)]) hx hb dL_law_619 rfl hl (by decide) rfl (fun ls hl => ?_)
      refine lv_goto (tgt := 655) hx hb dL_law_620 (by decide) ?_
      refine W.widen (k := cells + 240) (n := slots + 1440) (by omega) (by omega) ?_
      exact kk b _ _ ls hi hX hS (lv_cons (lv_at hl 3 rfl) (lv_cons (lv_at hl 4 rfl) (lv_cons (lv_at hl 5 rfl) (lv_cons (lv_at hl 7 rfl) (lv_cons (lv_at hl 8 rfl) (lv_cons (lv_at hl 9 rfl) (lv_cons (lv_at hl 0 rfl) (lv_cons (lv_at hl 10 rfl) (lv_cons (lv_at hl 11 rfl) (lv_nil hl))))))))))
    · exact absurd h8 (by omega)
set_option maxHeartbeats 4000000 in
set_option maxRecDepth 100000 in
theorem cs_cross {p : Program} {l : Launch} {e : Env} {s : State} {m : MethodId} {below : List Frame} {meth : Method} {c : Code} {b0 L : Nat} {xs : Nat → Int32} {G : XG} (C : CF p l s m c b0 L xs G) {Q : State → Prop} {b : XB} {H : Heap} {locs : List Loc} {cells slots : Nat} {ls : Array Slot} {y q d i tn : Nat} {v : Int} (hy : y < 4) (hq : q < 8) (hd : 1 ≤ d ∧ d ≤ 20) (hin : i < tn) (htn : tn ≤ 59) (hi : bInv b) (hX : BX G s.heap.size b H) (hS : va_S (fun q => s.heap.size ≤ q) s.heap H locs) (hl : lv_has ls 15 [(9, .int (zI (d : Int))), (8, .int (zI (q : Int))), (7, .int (zI (y : Int))), (6, .int (zI v)), (5, .int (zI (i : Int))), (4, .int (zI (tn : Int))), (3, .int (zI (bL b : Int))), (2, .int (zI 1)), (1, .ref s.heap.size), (0, .ref b0)]) (hc : cells + 240 ≤ 675216 ∧ slots + 1440 ≤ 7075977)
    (kk : ∀ (b9 : XB) (H9 : Heap) (locs9 : List Loc) (ls9 : Array Slot), bInv b9 → BX G s.heap.size b9 H9 → va_S (fun q => s.heap.size ≤ q) s.heap H9 locs9 → lv_has ls9 15 [(9, .int (zI (d : Int))), (8, .int (zI (q : Int))), (7, .int (zI (y : Int))), (5, .int (zI (i : Int))), (4, .int (zI (tn : Int))), (3, .int (zI (bL b9 : Int))), (2, .int (zI 1)), (1, .ref s.heap.size), (0, .ref b0)] → W p l e room_1 s m #[Value.ref b0] below meth c H9 locs9 (cells + 240) (slots + 1440) Q (F0 m 655 ls9 [])) : W p l e room_1 s m #[Value.ref b0] below meth c H locs cells slots Q (F0 m 458 ls []) := by
  obtain ⟨hx, hb, hml, hown, hts, hXs, hbl, hK, hT, hfl⟩ := C
  have hAl : ∀ q, s.heap.size ≤ q → s.heap.size ≤ q := fun q h => h
  refine lv_iload hx hb dL_law_458 (lv_at hl 2 rfl) ?_
  refine x_iconst hx hb dL_law_460 ?_
  refine x_iadd hx hb dL_law_461 ?_
  refine lv_iload hx hb dL_law_462 (lv_at hl 3 rfl) ?_
  refine x_iconst hx hb dL_law_464 ?_
  refine x_cI (va_runS (As := [.int (zI v), .int (zI 3)]) (rest := [.int (zI ((y : Int) + 1))]) ⟨hx, hb, hml, hown, hts⟩ (c_L_low l (v) 3 (by omega)) (va_cwS 2 hts gL_law_L_low rfl rfl rfl (by decide +kernel) ⟨Nat.le_of_ble_eq_true rfl, Nat.le_of_ble_eq_true rfl⟩) x_preS rfl rfl hl.1 rfl (lv_room (Nat.le_of_ble_eq_true rfl)) dL_law_465 (show cells ≤ 675216 ∧ slots ≤ 7075977 from ⟨by omega, by omega⟩)) ?_
  obtain ⟨w, hw, ew⟩ := lw_nat (v) 3 (by omega)
  rw [ew]
  refine x_iadd hx hb dL_law_468 ?_
  refine x_iconst hx hb dL_law_469 ?_
  refine x_irem hx hb (by omega) (by omega) dL_law_470 ?_
  refine lv_istore (lv' := [(11, .int (zI ((((y : Int) + 1) + (w : Int)) % 4))), (9, .int (zI (d : Int))), (8, .int (zI (q : Int))), (7, .int (zI (y : Int))), (6, .int (zI v)), (5, .int (zI (i : Int))), (4, .int (zI (tn : Int))), (3, .int (zI (bL b : Int))), (2, .int (zI 1)), (1, .ref s.heap.size), (0, .ref b0)]) hx hb dL_law_471 hl (by decide) rfl (fun ls hl => ?_)
  obtain ⟨t, et, ht, hne⟩ : ∃ t : Nat, ((y : Int) + 1 + (w : Int)) % 4 = (t : Int) ∧ t < 4 ∧ ¬ y = t := ⟨(y + 1 + w) % 4, by omega, by omega, by omega⟩
  rw [et] at hl
  refine lv_aload_n hx hb dL_law_473 rfl (lv_at hl 9 rfl) ?_
  refine lv_iload hx hb dL_law_474 (lv_at hl 3 rfl) ?_
  refine lv_iload hx hb dL_law_476 (lv_at hl 0 rfl) ?_
  refine lv_iload hx hb dL_law_478 (lv_at hl 2 rfl) ?_
  refine lv_iload hx hb dL_law_480 (lv_at hl 1 rfl) ?_
  refine x_wI (va_runV (As := [.int (zI (y : Int)), .int (zI (t : Int)), .int (zI (q : Int)), .int (zI (d : Int))]) (rest := []) ⟨hx, hb, hml, hown, hts⟩ (r_cross l hfl G s.heap.size s.heap.size (Nat.le_refl _) b y (by omega) t (by omega) q (by omega) d (by omega) (by omega) ((y : Int)) ((t : Int)) ((q : Int)) ((d : Int)) (by omega) (by omega) (by omega) (by omega)) (cwV 4 hts gL_law_X3_cross rfl rfl rfl (by decide +kernel) ⟨Nat.le_of_ble_eq_true rfl, Nat.le_of_ble_eq_true rfl⟩) (x_preLV hX hi hK hT hS hAl) rfl rfl hl.1 rfl (lv_room (Nat.le_of_ble_eq_true rfl)) dL_law_482 (show cells + 8 ≤ 675216 ∧ slots + 48 ≤ 7075977 from ⟨by omega, by omega⟩)) hS (fun q _ (h : xA s.heap.size q) => h.1) (fun q (h : xA s.heap.size q) => h.1) (fun H1 locs1 hX hz9 hk9 hS => ?_)
  have hcr := cr_x (b := b) (q := q) (y1 := y) (y2 := t) (lim := (d : Int)) (by omega) hne
  have hn1 := hi.n q y
  have hn2 := hi.n q t
  have hi := cr_inv (b := b) (q := q) (y1 := y) (y2 := t) (lim := (d : Int)) hi (by omega) hy ht
  have hcl := hi.l
  have e1 := hcr.1 q y
  have e2 := hcr.1 q t
  have z1 := hcr.2.2.2.2 (y : Int)
  have z2 := hcr.2.2.2.2 (t : Int)
  refine lv_istore_n (lv' := [(3, .int (zI (bL (crB b q y t (d : Int)) : Int))), (11, .int (zI (t : Int))), (9, .int (zI (d : Int))), (8, .int (zI (q : Int))), (7, .int (zI (y : Int))), (6, .int (zI v)), (5, .int (zI (i : Int))), (4, .int (zI (tn : Int))), (2, .int (zI 1)), (1, .ref s.heap.size), (0, .ref b0)]) hx hb dL_law_485 rfl hl (by decide) rfl (fun ls hl => ?_)
  refine lv_aload_n hx hb dL_law_486 rfl (lv_at hl 9 rfl) ?_
  refine lv_iload hx hb dL_law_487 (lv_at hl 4 rfl) ?_
  refine lv_iload hx hb dL_law_489 (lv_at hl 3 rfl) ?_
  refine x_wI (va_runV (As := [.int (zI (y : Int)), .int (zI (q : Int))]) (rest := []) ⟨hx, hb, hml, hown, hts⟩ (r_length l hfl G s.heap.size s.heap.size (Nat.le_refl _) (crB b q y t (d : Int)) y (by omega) q (by omega) ((y : Int)) ((q : Int)) (by omega) (by omega)) (cwV 2 hts gL_law_X3_length rfl rfl rfl (by decide +kernel) ⟨Nat.le_of_ble_eq_true rfl, Nat.le_of_ble_eq_true rfl⟩) (x_preLV hX hi hK hT hS hAl) rfl rfl hl.1 rfl (lv_room (Nat.le_of_ble_eq_true rfl)) dL_law_491 (show cells + 8 + 8 ≤ 675216 ∧ slots + 48 + 48 ≤ 7075977 from ⟨by omega, by omega⟩)) hS (fun q _ (h : xA s.heap.size q) => h.1) (fun q (h : xA s.heap.size q) => h.1) (fun H1 locs1 hX hz9 hk9 hS => ?_)
  refine lv_aload_n hx hb dL_law_494 rfl (lv_at hl 9 rfl) ?_
  refine lv_iload hx hb dL_law_495 (lv_at hl 1 rfl) ?_
  refine lv_iload hx hb dL_law_497 (lv_at hl 3 rfl) ?_
  refine x_wI (va_runV (As := [.int (zI (t : Int)), .int (zI (q : Int))]) (rest := [.int (zI (bN (crB b q y t (d : Int)) q y : Int))]) ⟨hx, hb, hml, hown, hts⟩ (r_length l hfl G s.heap.size s.heap.size (Nat.le_refl _) (crB b q y t (d : Int)) t (by omega) q (by omega) ((t : Int)) ((q : Int)) (by omega) (by omega)) (cwV 2 hts gL_law_X3_length rfl rfl rfl (by decide +kernel) ⟨Nat.le_of_ble_eq_true rfl, Nat.le_of_ble_eq_true rfl⟩) (x_preLV hX hi hK hT hS hAl) rfl rfl hl.1 rfl (lv_room (Nat.le_of_ble_eq_true rfl)) dL_law_499 (show cells + 8 + 8 + 8 ≤ 675216 ∧ slots + 48 + 48 + 48 ≤ 7075977 from ⟨by omega, by omega⟩)) hS (fun q _ (h : xA s.heap.size q) => h.1) (fun q (h : xA s.heap.size q) => h.1) (fun H1 locs1 hX hz9 hk9 hS => ?_)
  refine x_iadd hx hb dL_law_502 ?_
  refine lv_istore (lv' := [(12, .int (zI ((bN (crB b q y t (d : Int)) q y : Int) + (bN (crB b q y t (d : Int)) q t : Int)))), (3, .int (zI (bL (crB b q y t (d : Int)) : Int))), (11, .int (zI (t : Int))), (9, .int (zI (d : Int))), (8, .int (zI (q : Int))), (7, .int (zI (y : Int))), (6, .int (zI v)), (5, .int (zI (i : Int))), (4, .int (zI (tn : Int))), (2, .int (zI 1)), (1, .ref s.heap.size), (0, .ref b0)]) hx hb dL_law_503 hl (by decide) rfl (fun ls hl => ?_)
  refine lv_iload_n hx hb dL_law_505 rfl (lv_at hl 1 rfl) ?_
  refine lv_iload hx hb dL_law_506 (lv_at hl 3 rfl) ?_
  refine x_icmp_gt (tgt := 553) hx hb dL_law_508 (by decide) (by omega) (fun h1 => ?_) (fun h2 => ?_)
  · exact absurd h1 (by omega)
  · refine lv_iload_n hx hb dL_law_511 rfl (lv_at hl 1 rfl) ?_
    refine lv_iload hx hb dL_law_512 (lv_at hl 0 rfl) ?_
    refine x_icmp_gt (tgt := 553) hx hb dL_law_514 (by decide) (by omega) (fun h3 => ?_) (fun h4 => ?_)
    · exact absurd h3 (by omega)
    · refine lv_iload_n hx hb dL_law_517 rfl (lv_at hl 1 rfl) ?_
      refine lv_iload hx hb dL_law_518 (lv_at hl 0 rfl) ?_
      refine x_if_le (tgt := 527) hx hb dL_law_520 (by decide) (by omega) (fun h5 => ?_) (fun h6 => ?_)
      · refine x_iconst hx hb dL_law_527 ?_
        refine x_icmp_lt (tgt := 553) hx hb dL_law_528 (by decide) (by omega) (fun h7 => ?_) (fun h8 => ?_)
        · exact absurd h7 (by omega)
        · refine lv_aload_n hx hb dL_law_531 rfl (lv_at hl 10 rfl) ?_
          refine lv_iload hx hb dL_law_532 (lv_at hl 5 rfl) ?_
          refine x_wI (va_runV (As := [.int (zI (y : Int))]) (rest := []) ⟨hx, hb, hml, hown, hts⟩ (r_credit l hfl G s.heap.size s.heap.size (Nat.le_refl _) (crB b q y t (d : Int)) y (by omega) ((y : Int)) (by omega)) (cwV 1 hts gL_law_X3_credit rfl rfl rfl (by decide +kernel) ⟨Nat.le_of_ble_eq_true rfl, Nat.le_of_ble_eq_true rfl⟩) (x_preLV hX hi hK hT hS hAl) rfl rfl hl.1 rfl (lv_room (Nat.le_of_ble_eq_true rfl)) dL_law_534 (show cells + 8 + 8 + 8 + 8 ≤ 675216 ∧ slots + 48 + 48 + 48 + 48 ≤ 7075977 from ⟨by omega, by omega⟩)) hS (fun q _ (h : xA s.heap.size q) => h.1) (fun q (h : xA s.heap.size q) => h.1) (fun H1 locs1 hX hz9 hk9 hS => ?_)
          refine x_if_ne (tgt := 553) hx hb dL_law_537 (by decide) (by omega) (fun h9 => ?_) (fun h10 => ?_)
          · exact absurd h9 (by omega)
          · refine lv_aload_n hx hb dL_law_540 rfl (lv_at hl 10 rfl) ?_
            refine lv_iload hx hb dL_law_541 (lv_at hl 2 rfl) ?_
            refine x_wI (va_runV (As := [.int (zI (t : Int))]) (rest := []) ⟨hx, hb, hml, hown, hts⟩ (r_credit l hfl G s.heap.size s.heap.size (Nat.le_refl _) (crB b q y t (d : Int)) t (by omega) ((t : Int)) (by omega)) (cwV 1 hts gL_law_X3_credit rfl rfl rfl (by decide +kernel) ⟨Nat.le_of_ble_eq_true rfl, Nat.le_of_ble_eq_true rfl⟩) (x_preLV hX hi hK hT hS hAl) rfl rfl hl.1 rfl (lv_room (Nat.le_of_ble_eq_true rfl)) dL_law_543 (show cells + 8 + 8 + 8 + 8 + 8 ≤ 675216 ∧ slots + 48 + 48 + 48 + 48 + 48 ≤ 7075977 from ⟨by omega, by omega⟩)) hS (fun q _ (h : xA s.heap.size q) => h.1) (fun q (h : xA s.heap.size q) => h.1) (fun H1 locs1 hX hz9 hk9 hS => ?_)
            refine x_if_ne (tgt := 553) hx hb dL_law_546 (by decide) (by omega) (fun h11 => ?_) (fun h12 => ?_)
            · exact absurd h11 (by omega)
            · refine x_iconst hx hb dL_law_549 ?_
              refine lv_goto (tgt := 554) hx hb dL_law_550 (by decide) ?_
              refine lv_istore_n (lv' := [(2, .int (zI 1)), (12, .int (zI ((bN (crB b q y t (d : Int)) q y : Int) + (bN (crB b q y t (d : Int)) q t : Int)))), (3, .int (zI (bL (crB b q y t (d : Int)) : Int))), (11, .int (zI (t : Int))), (9, .int (zI (d : Int))), (8, .int (zI (q : Int))), (7, .int (zI (y : Int))), (6, .int (zI v)), (5, .int (zI (i : Int))), (4, .int (zI (tn : Int))), (1, .ref s.heap.size), (0, .ref b0)]) hx hb dL_law_554 rfl hl (by decide) rfl (fun ls hl => ?_)
              refine lv_goto (tgt := 655) hx hb dL_law_555 (by decide) ?_
              refine W.widen (k := cells + 240) (n := slots + 1440) (by omega) (by omega) ?_
              exact kk (crB b q y t (d : Int)) _ _ ls hi hX hS (lv_cons (lv_at hl 4 rfl) (lv_cons (lv_at hl 5 rfl) (lv_cons (lv_at hl 6 rfl) (lv_cons (lv_at hl 8 rfl) (lv_cons (lv_at hl 9 rfl) (lv_cons (lv_at hl 2 rfl) (lv_cons (lv_at hl 0 rfl) (lv_cons (lv_at hl 10 rfl) (lv_cons (lv_at hl 11 rfl) (lv_nil hl))))))))))
      · refine x_iconst hx hb dL_law_523 ?_
        refine lv_goto (tgt := 528) hx hb dL_law_524 (by decide) ?_
        refine x_icmp_lt (tgt := 553) hx hb dL_law_528 (by decide) (by omega) (fun h13 => ?_) (fun h14 => ?_)
        · exact absurd h13 (by omega)
        · refine lv_aload_n hx hb dL_law_531 rfl (lv_at hl 10 rfl) ?_
          refine lv_iload hx hb dL_law_532 (lv_at hl 5 rfl) ?_
          refine x_wI (va_runV (As := [.int (zI (y : Int))]) (rest := []) ⟨hx, hb, hml, hown, hts⟩ (r_credit l hfl G s.heap.size s.heap.size (Nat.le_refl _) (crB b q y t (d : Int)) y (by omega) ((y : Int)) (by omega)) (cwV 1 hts gL_law_X3_credit rfl rfl rfl (by decide +kernel) ⟨Nat.le_of_ble_eq_true rfl, Nat.le_of_ble_eq_true rfl⟩) (x_preLV hX hi hK hT hS hAl) rfl rfl hl.1 rfl (lv_room (Nat.le_of_ble_eq_true rfl)) dL_law_534 (show cells + 8 + 8 + 8 + 8 ≤ 675216 ∧ slots + 48 + 48 + 48 + 48 ≤ 7075977 from ⟨by omega, by omega⟩)) hS (fun q _ (h : xA s.heap.size q) => h.1) (fun q (h : xA s.heap.size q) => h.1) (fun H1 locs1 hX hz9 hk9 hS => ?_)
          refine x_if_ne (tgt := 553) hx hb dL_law_537 (by decide) (by omega) (fun h15 => ?_) (fun h16 => ?_)
          · exact absurd h15 (by omega)
          · refine lv_aload_n hx hb dL_law_540 rfl (lv_at hl 10 rfl) ?_
            refine lv_iload hx hb dL_law_541 (lv_at hl 2 rfl) ?_
            refine x_wI (va_runV (As := [.int (zI (t : Int))]) (rest := []) ⟨hx, hb, hml, hown, hts⟩ (r_credit l hfl G s.heap.size s.heap.size (Nat.le_refl _) (crB b q y t (d : Int)) t (by omega) ((t : Int)) (by omega)) (cwV 1 hts gL_law_X3_credit rfl rfl rfl (by decide +kernel) ⟨Nat.le_of_ble_eq_true rfl, Nat.le_of_ble_eq_true rfl⟩) (x_preLV hX hi hK hT hS hAl) rfl rfl hl.1 rfl (lv_room (Nat.le_of_ble_eq_true rfl)) dL_law_543 (show cells + 8 + 8 + 8 + 8 + 8 ≤ 675216 ∧ slots + 48 + 48 + 48 + 48 + 48 ≤ 7075977 from ⟨by omega, by omega⟩)) hS (fun q _ (h : xA s.heap.size q) => h.1) (fun q (h : xA s.heap.size q) => h.1) (fun H1 locs1 hX hz9 hk9 hS => ?_)
            refine x_if_ne (tgt := 553) hx hb dL_law_546 (by decide) (by omega) (fun h17 => ?_) (fun h18 => ?_)
            · exact absurd h17 (by omega)
            · refine x_iconst hx hb dL_law_549 ?_
              refine lv_goto (tgt := 554) hx hb dL_law_550 (by decide) ?_
              refine lv_istore_n (lv' := [(2, .int (zI 1)), (12, .int (zI ((bN (crB b q y t (d : Int)) q y : Int) + (bN (crB b q y t (d : Int)) q t : Int)))), (3, .int (zI (bL (crB b q y t (d : Int)) : Int))), (11, .int (zI (t : Int))), (9, .int (zI (d : Int))), (8, .int (zI (q : Int))), (7, .int (zI (y : Int))), (6, .int (zI v)), (5, .int (zI (i : Int))), (4, .int (zI (tn : Int))), (1, .ref s.heap.size), (0, .ref b0)]) hx hb dL_law_554 rfl hl (by decide) rfl (fun ls hl => ?_)
              refine lv_goto (tgt := 655) hx hb dL_law_555 (by decide) ?_
              refine W.widen (k := cells + 240) (n := slots + 1440) (by omega) (by omega) ?_
              exact kk (crB b q y t (d : Int)) _ _ ls hi hX hS (lv_cons (lv_at hl 4 rfl) (lv_cons (lv_at hl 5 rfl) (lv_cons (lv_at hl 6 rfl) (lv_cons (lv_at hl 8 rfl) (lv_cons (lv_at hl 9 rfl) (lv_cons (lv_at hl 2 rfl) (lv_cons (lv_at hl 0 rfl) (lv_cons (lv_at hl 10 rfl) (lv_cons (lv_at hl 11 rfl) (lv_nil hl))))))))))
