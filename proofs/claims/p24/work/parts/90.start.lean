set_option maxHeartbeats 4000000 in
set_option maxRecDepth 100000 in
/-- YOUR PART: from the entry, for every script of at most 260 ints, the law comes to its end with true ('hflags': the launch's flags, for a law that throws: no stack traces) -/
theorem whole_start {p : Program} {e : Env} {s : State} {m : MethodId} {below : List Frame} {meth : Method} {c : Code} (l : Launch) (hflags : l.flags = flags0) {b L : Nat} {xs : Nat → Int32} (hL : L ≤ 260) (C0 : lw_At p s m meth c b L xs) : W p l e room_1 s m #[Value.ref b] below meth c s.heap [] 0 0 (lw_Z below #[Value.ref b] s) (entryFrame m ([Value.ref b] : List Value).toArray 15) := by
  obtain ⟨G, C, hO1, hO2⟩ := law_known hflags C0
  obtain ⟨-, -, hr, -, -, -, -, -, hlocks, -⟩ := id C0
  obtain ⟨hx, hb, hml, hown, hts, hXs, hbl, hK, hT, hfl⟩ := id C
  have hAl : ∀ q, s.heap.size ≤ q → s.heap.size ≤ q := fun q h => h
  have hl := lv_entry ([.ref b]) (n := 15) (Nat.le_of_ble_eq_true rfl)
  rw [lg_entry_eq]
  generalize (lg_sl ([.ref b]) ++ List.replicate (15 - (lg_sl ([.ref b])).length) Slot.unset).toArray = ls at hl ⊢
  have hl : lv_has ls 15 [(0, .ref b)] := hl
  have hS : va_S (fun q => s.heap.size ≤ q) s.heap s.heap [] := va_S.rf
  refine x_new (own := RL) (C := RX3) (T := TX3) (N := 3) (ci := 3) (fs := [.null, .null, .null]) (a := s.heap.size) hx hb hts inlX3 tyX3 tyX3_ok hown (index := 10) (by decide +kernel) (by decide +kernel) (by decide +kernel) hK rfl (by decide +kernel) rfl hS ⟨Nat.le_of_ble_eq_true rfl, Nat.le_of_ble_eq_true rfl⟩ dL_law_0 (fun H1 h0 z1 o1 hS => ?_)
  refine lv_dup hx hb dL_law_3 rfl ?_
  refine va_callv (va_runI (As := []) (rest := [.ref s.heap.size]) ⟨hx, hb, hml, hown, hts⟩ (c_X3_init l G s.heap.size) (cwI 0 hts gL_law_X3_init rfl rfl rfl (hts (.initialized RX3) (by decide +kernel)) (hts (.methodLink RL 81 yX3_init) (by decide +kernel)) (hts (.instanceMethod yX3_init) (by decide +kernel)) rfl (by decide +kernel) ⟨Nat.le_of_ble_eq_true rfl, Nat.le_of_ble_eq_true rfl⟩) (x_preI z1 h0 hK hO1 hO2) rfl rfl hl.1 rfl (lv_room (Nat.le_of_ble_eq_true rfl)) dL_law_4 ⟨Nat.le_of_ble_eq_true rfl, Nat.le_of_ble_eq_true rfl⟩) hS (fun q _ h => h) (fun q h => h) (fun u t H2 locs2 ht _ _ hB hz2 hk2 hS => ?_)
  obtain ⟨Hx, e1, hW, hz3⟩ := hB
  have e2 : Hx = H2 := e1.symm.trans ht
  subst e2
  have hX : BX G s.heap.size b00 Hx := ⟨_, _, hW⟩
  have hi := b00_inv
  refine lv_astore_n (lv' := [(1, .ref s.heap.size), (0, .ref b)]) hx hb dL_law_7 rfl hl (by decide) rfl (fun ls hl => ?_)
  refine lv_aload_n hx hb dL_law_8 rfl (lv_at hl 0 rfl) ?_
  refine x_iconst hx hb dL_law_9 ?_
  have hb5 := b00_best ((5 : Nat) : Int) (by omega)
  refine x_wI (va_runV (As := [.int (zI 5)]) (rest := []) ⟨hx, hb, hml, hown, hts⟩ (r_best l hfl G s.heap.size s.heap.size (Nat.le_refl _) b00 5 (by omega) 5 (by omega)) (cwV 1 hts gL_law_X3_best rfl rfl rfl (by decide +kernel) ⟨Nat.le_of_ble_eq_true rfl, Nat.le_of_ble_eq_true rfl⟩) (x_preLV hX hi hK hT hS hAl) rfl rfl hl.1 rfl (lv_room (Nat.le_of_ble_eq_true rfl)) dL_law_10 (show 0 + 1 + 126 + 8 ≤ 675216 ∧ 0 + 3 + 1825 + 48 ≤ 7075977 from ⟨by omega, by omega⟩)) hS (fun q _ (h : xA s.heap.size q) => h.1) (fun q (h : xA s.heap.size q) => h.1) (fun H1 locs1 hX hz9 hk9 hS => ?_)
  refine x_if_ne (tgt := 61) hx hb dL_law_13 (by decide) (by omega) (fun h1 => ?_) (fun h2 => ?_)
  · exact absurd h1 (by omega)
  · refine lv_aload_n hx hb dL_law_16 rfl (lv_at hl 0 rfl) ?_
    refine x_iconst hx hb dL_law_17 ?_
    refine x_iconst hx hb dL_law_18 ?_
    refine x_iconst hx hb dL_law_19 ?_
    refine x_wI (va_runV (As := [.int (zI 0), .int (zI 1), .int (zI 5)]) (rest := []) ⟨hx, hb, hml, hown, hts⟩ (r_test l hfl G s.heap.size s.heap.size (Nat.le_refl _) b00 0 (by omega) 1 (by omega) 5 (by omega) 0 1 5 (by omega) (by omega) (by omega)) (cwV 3 hts gL_law_X3_test rfl rfl rfl (by decide +kernel) ⟨Nat.le_of_ble_eq_true rfl, Nat.le_of_ble_eq_true rfl⟩) (x_preLV hX hi hK hT hS hAl) rfl rfl hl.1 rfl (lv_room (Nat.le_of_ble_eq_true rfl)) dL_law_20 (show 0 + 1 + 126 + 8 + 8 ≤ 675216 ∧ 0 + 3 + 1825 + 48 + 48 ≤ 7075977 from ⟨by omega, by omega⟩)) hS (fun q _ (h : xA s.heap.size q) => h.1) (fun q (h : xA s.heap.size q) => h.1) (fun H1 locs1 hX hz9 hk9 hS => ?_)
    refine lv_sipush (v := zI 256) hx hb dL_law_23 (by decide +kernel) ?_
    have ht5 : tsN (dfZ b00 (0 : Nat) (1 : Nat) (5 : Nat)) = 256 := tsN_0 (b00_sx _ _ _)
    refine x_icmp_ne (tgt := 61) hx hb dL_law_26 (by decide) (by omega) (fun h3 => ?_) (fun h4 => ?_)
    · exact absurd h3 (by omega)
    · refine lv_aload_n hx hb dL_law_29 rfl (lv_at hl 0 rfl) ?_
      refine x_iconst hx hb dL_law_30 ?_
      refine x_iconst hx hb dL_law_31 ?_
      refine x_iconst hx hb dL_law_32 ?_
      refine x_wI (va_runS (As := [.ref s.heap.size, .int (zI 0), .int (zI 0), .int (zI 5)]) (rest := []) ⟨hx, hb, hml, hown, hts⟩ (c_L_run l hfl G s.heap.size s.heap.size (Nat.le_refl _) b00 0 (by omega) 0 (by omega) 5 (by omega) 0 0 5 rfl rfl rfl) (va_cwS 4 hts gL_law_L_run rfl rfl rfl (by decide +kernel) ⟨Nat.le_of_ble_eq_true rfl, Nat.le_of_ble_eq_true rfl⟩) (x_preLS hX hi hK hT hS hAl) rfl rfl hl.1 rfl (lv_room (Nat.le_of_ble_eq_true rfl)) dL_law_33 (show 0 + 1 + 126 + 8 + 8 + 104 ≤ 675216 ∧ 0 + 3 + 1825 + 48 + 48 + 624 ≤ 7075977 from ⟨by omega, by omega⟩)) hS (fun q _ (h : xA s.heap.size q) => h.1) (fun q (h : xA s.heap.size q) => h.1) (fun H1 locs1 hX hz9 hk9 hS => ?_)
      refine x_if_eq (tgt := 61) hx hb dL_law_36 (by decide) (by omega) (fun h5 => ?_) (fun h6 => ?_)
      · exact absurd h5 (by omega)
      · refine lv_aload_n hx hb dL_law_39 rfl (lv_at hl 0 rfl) ?_
        refine x_iconst hx hb dL_law_40 ?_
        refine x_iconst hx hb dL_law_41 ?_
        refine x_wI (va_runS (As := [.ref s.heap.size, .int (zI 0), .int (zI 5)]) (rest := []) ⟨hx, hb, hml, hown, hts⟩ (c_L_pool l hfl G s.heap.size s.heap.size (Nat.le_refl _) b00 0 (by omega) 5 (by omega) 0 5 rfl rfl) (va_cwS 3 hts gL_law_L_pool rfl rfl rfl (by decide +kernel) ⟨Nat.le_of_ble_eq_true rfl, Nat.le_of_ble_eq_true rfl⟩) (x_preLS hX hi hK hT hS hAl) rfl rfl hl.1 rfl (lv_room (Nat.le_of_ble_eq_true rfl)) dL_law_42 (show 0 + 1 + 126 + 8 + 8 + 104 + 80 ≤ 675216 ∧ 0 + 3 + 1825 + 48 + 48 + 624 + 480 ≤ 7075977 from ⟨by omega, by omega⟩)) hS (fun q _ (h : xA s.heap.size q) => h.1) (fun q (h : xA s.heap.size q) => h.1) (fun H1 locs1 hX hz9 hk9 hS => ?_)
        refine x_if_eq (tgt := 61) hx hb dL_law_45 (by decide) (by omega) (fun h7 => ?_) (fun h8 => ?_)
        · exact absurd h7 (by omega)
        · refine lv_aload_n hx hb dL_law_48 rfl (lv_at hl 0 rfl) ?_
          refine lv_bipush (v := zI 20) hx hb dL_law_49 (by decide +kernel) ?_
          refine x_wI (va_runS (As := [.ref s.heap.size, .int (zI 20)]) (rest := []) ⟨hx, hb, hml, hown, hts⟩ (c_L_best l hfl G s.heap.size s.heap.size (Nat.le_refl _) b00 20 (by omega) 20 rfl) (va_cwS 2 hts gL_law_L_best rfl rfl rfl (by decide +kernel) ⟨Nat.le_of_ble_eq_true rfl, Nat.le_of_ble_eq_true rfl⟩) (x_preLS hX hi hK hT hS hAl) rfl rfl hl.1 rfl (lv_room (Nat.le_of_ble_eq_true rfl)) dL_law_51 (show 0 + 1 + 126 + 8 + 8 + 104 + 80 + 200 ≤ 675216 ∧ 0 + 3 + 1825 + 48 + 48 + 624 + 480 + 1200 ≤ 7075977 from ⟨by omega, by omega⟩)) hS (fun q _ (h : xA s.heap.size q) => h.1) (fun q (h : xA s.heap.size q) => h.1) (fun H1 locs1 hX hz9 hk9 hS => ?_)
          refine x_if_eq (tgt := 61) hx hb dL_law_54 (by decide) (by omega) (fun h9 => ?_) (fun h10 => ?_)
          · exact absurd h9 (by omega)
          · refine x_iconst hx hb dL_law_57 ?_
            refine lv_goto (tgt := 62) hx hb dL_law_58 (by decide) ?_
            refine lv_istore_n (lv' := [(2, .int (zI 1)), (1, .ref s.heap.size), (0, .ref b)]) hx hb dL_law_62 rfl hl (by decide) rfl (fun ls hl => ?_)
            refine x_iconst hx hb dL_law_63 ?_
            refine lv_istore_n (lv' := [(3, .int (zI 0)), (2, .int (zI 1)), (1, .ref s.heap.size), (0, .ref b)]) hx hb dL_law_64 rfl hl (by decide) rfl (fun ls hl => ?_)
            refine x_iconst hx hb dL_law_65 ?_
            refine lv_aload_n hx hb dL_law_66 rfl (lv_at hl 3 rfl) ?_
            refine x_iconst hx hb dL_law_67 ?_
            refine x_cA (va_runS (As := [.ref b, .int (zI 0)]) (rest := [.int (zI 5)]) ⟨hx, hb, hml, hown, hts⟩ (c_L_cell l b L xs hL (0) (by omega) 0 (by omega)) (va_cwS 2 hts gL_law_L_cell rfl rfl rfl (by decide +kernel) ⟨Nat.le_of_ble_eq_true rfl, Nat.le_of_ble_eq_true rfl⟩) (x_preC hXs hbl (fun h => by omega) hS) rfl rfl hl.1 rfl (lv_room (Nat.le_of_ble_eq_true rfl)) dL_law_68 (show 0 + 1 + 126 + 8 + 8 + 104 + 80 + 200 ≤ 675216 ∧ 0 + 3 + 1825 + 48 + 48 + 624 + 480 + 1200 ≤ 7075977 from ⟨by omega, by omega⟩)) (fun w11 hw11 => ?_)
            refine lv_bipush (v := zI 55) hx hb dL_law_71 (by decide +kernel) ?_
            refine x_cI (va_runS (As := [.int (zI w11), .int (zI 55)]) (rest := [.int (zI 5)]) ⟨hx, hb, hml, hown, hts⟩ (c_L_low l (w11) 55 (by omega)) (va_cwS 2 hts gL_law_L_low rfl rfl rfl (by decide +kernel) ⟨Nat.le_of_ble_eq_true rfl, Nat.le_of_ble_eq_true rfl⟩) x_preS rfl rfl hl.1 rfl (lv_room (Nat.le_of_ble_eq_true rfl)) dL_law_73 (show 0 + 1 + 126 + 8 + 8 + 104 + 80 + 200 ≤ 675216 ∧ 0 + 3 + 1825 + 48 + 48 + 624 + 480 + 1200 ≤ 7075977 from ⟨by omega, by omega⟩)) ?_
            obtain ⟨w9, hw9, ew9⟩ := lw_nat (w11) 55 (by omega)
            rw [ew9]
            refine x_iadd hx hb dL_law_76 ?_
            obtain ⟨tn, etn, htn9⟩ : ∃ tn : Nat, 5 + (w9 : Int) = (tn : Int) ∧ tn ≤ 59 := ⟨5 + w9, by omega, by omega⟩
            rw [etn]
            refine lv_istore (lv' := [(4, .int (zI (tn : Int))), (3, .int (zI 0)), (2, .int (zI 1)), (1, .ref s.heap.size), (0, .ref b)]) hx hb dL_law_77 hl (by decide) rfl (fun ls hl => ?_)
            refine x_iconst hx hb dL_law_79 ?_
            refine lv_istore (lv' := [(5, .int (zI 0)), (4, .int (zI (tn : Int))), (3, .int (zI 0)), (2, .int (zI 1)), (1, .ref s.heap.size), (0, .ref b)]) hx hb dL_law_80 hl (by decide) rfl (fun ls hl => ?_)
            exact law_loop hr hlocks C hL (tn := tn) (by omega) tn 0 b00 _ _ ls _ _ (by omega) (by omega) (by omega) hi hX hS (lv_cons (x_at (lv_at hl 0 rfl) (rfl)) (lv_cons (lv_at hl 1 rfl) (lv_cons (x_at (lv_at hl 2 rfl) (rfl)) (lv_cons (lv_at hl 3 rfl) (lv_cons (lv_at hl 4 rfl) (lv_cons (lv_at hl 5 rfl) (lv_nil hl)))))))
