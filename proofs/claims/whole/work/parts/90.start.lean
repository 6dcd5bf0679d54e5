set_option maxHeartbeats 4000000 in
set_option maxRecDepth 100000 in
/-- YOUR PART: from the entry, for every script of at most 2560 ints, the law comes to its end with true ('hflags': the launch's flags, for a law that throws: no stack traces) -/
theorem whole_start {p : Program} {e : Env} {s : State} {m : MethodId} {below : List Frame} {meth : Method} {c : Code} (l : Launch) (hflags : l.flags = flags0) {b L : Nat} {xs : Nat → Int32} (hL : L ≤ 2560) (C0 : lw_At p s m meth c b L xs) : W p l e room_1 s m #[Value.ref b] below meth c s.heap [] 0 0 (lw_Z below #[Value.ref b] s) (entryFrame m ([Value.ref b] : List Value).toArray 8) := by
  obtain ⟨G, C, hO1, hO2⟩ := law_known hflags C0
  obtain ⟨-, -, hr, -, -, -, -, -, hlocks, -⟩ := id C0
  obtain ⟨hx, hb, hml, hown, hts, hX, hbl, hK, hT, hN, hfl⟩ := id C
  have hl := lv_entry ([.ref b]) (n := 8) (Nat.le_of_ble_eq_true rfl)
  rw [lg_entry_eq]
  generalize (lg_sl ([.ref b]) ++ List.replicate (8 - (lg_sl ([.ref b])).length) Slot.unset).toArray = ls at hl ⊢
  have hl : lv_has ls 8 [(0, .ref b)] := hl
  have hS : va_S (fun q => s.heap.size ≤ q) s.heap s.heap [] := va_S.rf
  refine x_new (own := RL) (C := RX3) (T := TX3) (N := 3) (ci := 3) (fs := [.null, .null, .null]) (a := s.heap.size) hx hb hts inlX3 tyX3 tyX3_ok hown (index := 8) (by decide +kernel) (by decide +kernel) (by decide +kernel) hK rfl (by decide +kernel) rfl hS ⟨Nat.le_of_ble_eq_true rfl, Nat.le_of_ble_eq_true rfl⟩ dL_law_0 (fun H1 h0 z1 o1 hS => ?_)
  refine lv_dup hx hb dL_law_3 rfl ?_
  refine va_callv (va_runI (As := []) (rest := [.ref s.heap.size]) ⟨hx, hb, hml, hown, hts⟩ (c_X3_init l G s.heap.size) (cwI 0 hts gL_law_X3_init rfl rfl rfl (hts (.initialized RX3) (by decide +kernel)) (hts (.methodLink RL 82 yX3_init) (by decide +kernel)) (hts (.instanceMethod yX3_init) (by decide +kernel)) rfl (by decide +kernel) ⟨Nat.le_of_ble_eq_true rfl, Nat.le_of_ble_eq_true rfl⟩) (x_preI z1 h0 hK hO1 hO2) rfl rfl hl.1 rfl (lv_room (Nat.le_of_ble_eq_true rfl)) dL_law_4 ⟨Nat.le_of_ble_eq_true rfl, Nat.le_of_ble_eq_true rfl⟩) hS (fun q _ h => h) (fun q h => h) (fun u t H2 locs2 ht _ _ hB hz2 hk2 hS => ?_)
  obtain ⟨Hx, e1, hW, hz3⟩ := hB
  have e2 : Hx = H2 := e1.symm.trans ht
  subst e2
  refine lv_astore_n (lv' := [(1, .ref s.heap.size), (0, .ref b)]) hx hb dL_law_7 rfl hl (by decide) rfl (fun ls hl => ?_)
  refine x_new (own := RL) (C := RX4) (T := TX4) (N := 10) (ci := 4) (fs := [.null, .null, .null, .int (zI 0), .null, .null, .null, .long (lI 0), .long (lI 0), .int (zI 0)]) (a := s.heap.size + 127) hx hb hts inlX4 tyX4 tyX4_ok hown (index := 83) (by decide +kernel) (by decide +kernel) (by decide +kernel) hK rfl (by decide +kernel) hz3 hS ⟨Nat.le_of_ble_eq_true rfl, Nat.le_of_ble_eq_true rfl⟩ dL_law_8 (fun H3 h4 z4 o4 hS => ?_)
  replace hW := hW.kept (fun q h1 h2 => o4 q (by omega))
  refine lv_dup hx hb dL_law_11 rfl ?_
  refine va_callv (va_runI (As := []) (rest := [.ref (s.heap.size + 127)]) ⟨hx, hb, hml, hown, hts⟩ (c_X4_init l G (s.heap.size + 127)) (cwI 0 hts gL_law_X4_init rfl rfl rfl (hts (.initialized RX4) (by decide +kernel)) (hts (.methodLink RL 85 yX4_init) (by decide +kernel)) (hts (.instanceMethod yX4_init) (by decide +kernel)) rfl (by decide +kernel) ⟨Nat.le_of_ble_eq_true rfl, Nat.le_of_ble_eq_true rfl⟩) (x_preI z4 h4 hK hO1 hO2) rfl rfl hl.1 rfl (lv_room (Nat.le_of_ble_eq_true rfl)) dL_law_12 ⟨Nat.le_of_ble_eq_true rfl, Nat.le_of_ble_eq_true rfl⟩) hS (fun q _ (h : s.heap.size + 127 ≤ q) => (by omega : s.heap.size ≤ q)) (fun q (h : s.heap.size + 127 ≤ q) => (by omega : s.heap.size ≤ q)) (fun u5 t5 H5 locs5 ht5 _ _ hB5 hz5 hk5 hS => ?_)
  obtain ⟨Hy, e5, hM, hz6⟩ := hB5
  have e6 : Hy = H5 := e5.symm.trans ht5
  subst e6
  replace hW := hW.kept (fun q h1 h2 => hk5 q (by omega) (by omega))
  refine lv_astore_n (lv' := [(2, .ref (s.heap.size + 127)), (1, .ref s.heap.size), (0, .ref b)]) hx hb dL_law_15 rfl hl (by decide) rfl (fun ls hl => ?_)
  refine x_iconst hx hb dL_law_16 ?_
  refine x_newJ (a := s.heap.size + 134) hx hb hK (hts (.arrayClass .long) (by decide +kernel)) hz6 hS ⟨Nat.le_of_ble_eq_true rfl, Nat.le_of_ble_eq_true rfl⟩ dL_law_17 (fun H7 h7 z7 o7 hS => ?_)
  replace hW := hW.kept (fun q h1 h2 => o7 q (by omega))
  replace hM := hM.kept (fun q h1 h2 => o7 q (by omega))
  refine lv_astore_n (lv' := [(3, .ref (s.heap.size + 134)), (2, .ref (s.heap.size + 127)), (1, .ref s.heap.size), (0, .ref b)]) hx hb dL_law_19 rfl hl (by decide) rfl (fun ls hl => ?_)
  refine x_iconst hx hb dL_law_20 ?_
  refine lv_istore (lv' := [(4, .int (zI 0)), (3, .ref (s.heap.size + 134)), (2, .ref (s.heap.size + 127)), (1, .ref s.heap.size), (0, .ref b)]) hx hb dL_law_21 hl (by decide) rfl (fun ls hl => ?_)
  exact law_loop hr hlocks C hL 513 0 b00 H7 _ ls _ _ (by omega) (by omega) (by omega) (by omega) ⟨⟨_, _, hW⟩, ⟨_, h7⟩, b00_inv, ⟨_, _, _, hM⟩, hS⟩ hl
