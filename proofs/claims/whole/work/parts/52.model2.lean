/-- the place of a document in a run; its length if it isn't there -/
def plN (b : XB) (q y : Nat) (d : Int) : Nat := fst9 (fun k => decide ((bD b q y k : Int) = d)) 0 (bN b q y)
theorem pl_le (b : XB) (q y : Nat) (d : Int) : plN b q y d ≤ bN b q y := by
  have := fst9_rng (fun k => decide ((bD b q y k : Int) = d)) (bN b q y) 0
  unfold plN
  omega
theorem pl_rk (b : XB) (q y : Nat) (d : Int) : (plN b q y d < bN b q y ∧ rk b q y d = (plN b q y d : Int) + 1) ∨ (plN b q y d = bN b q y ∧ rk b q y d = -1) := by
  have h := pl_le b q y d
  by_cases h2 : plN b q y d < bN b q y
  · exact Or.inl ⟨h2, if_pos h2⟩
  · exact Or.inr ⟨by omega, if_neg h2⟩
set_option maxHeartbeats 4000000 in
set_option maxRecDepth 100000 in
theorem c_X4_placeOf (l : Launch) (G : XG) (o : Nat) (b : XB) (th ov un : Int) (q y : Nat) (hq : q < 8) (hy : y < 4) (zr : Int) (hzr : zr = 8 * (y : Int) + (q : Int)) (zd : Int) (hzd : -2147483648 ≤ zd ∧ zd < 2147483648) : MetI l yX4_placeOf wsX4_placeOf (rmF 0 0) (MPc G o b th ov un [.ref o, .int (zI zr), .int (zI zd)]) (plN b q y zd : Int) := by
  refine Met.ofW (cc := cX4_placeOf) (maxL := 4) (ret := (some .int)) (by decide) rfl ?_
  intro p e s m args below meth c s₁ B hml hv
  obtain ⟨rfl, hW, hi, hK⟩ := hv
  have hx := B.exec
  have hb := B.bytes
  have hr := B.returns
  have hts := atoms_spec (ws := wsX4_placeOf) B.pre
  have hown : s.vm.findClass RX4 = some m.cls := findClass_of_methodNamed B.named
  have hlocks := B.notSynchronized
  have hl := lv_entry ([.ref o, .int (zI zr), .int (zI zd)]) (n := 4) (Nat.le_of_ble_eq_true rfl)
  rw [lg_entry_eq]
  generalize (lg_sl ([.ref o, .int (zI zr), .int (zI zd)]) ++ List.replicate (4 - (lg_sl ([.ref o, .int (zI zr), .int (zI zd)])).length) Slot.unset).toArray = ls at hl ⊢
  have hl : lv_has ls 4 [(0, .ref o), (1, .int (zI zr)), (2, .int (zI zd))] := hl
  have hn20 := hi.n q y
  refine x_iconst hx hb dX4_placeOf_0 ?_
  refine lv_istore_n (lv' := [(3, .int (zI 0)), (0, .ref o), (1, .int (zI zr)), (2, .int (zI zd))]) hx hb dX4_placeOf_1 rfl hl (by decide) rfl (fun ls hl => ?_)
  refine x_loop1 (fun (k : Nat) => (k ≤ bN b q y) ∧ (∀ j, j < k → ¬ ((bD b q y j : Int) = zd))) (fun (k : Nat) => bN b q y - k) (fun (k : Nat) => [(3, .int (zI (k : Int))), (0, .ref o), (1, .int (zI zr)), (2, .int (zI zd))]) (0) (show ((0) ≤ bN b q y) ∧ (∀ j, j < (0) → ¬ ((bD b q y j : Int) = zd)) from ⟨(Nat.zero_le _), (fun j hj => absurd hj (Nat.not_lt_zero _))⟩) (show lv_has ls 4 [(3, .int (zI ((0) : Int))), (0, .ref o), (1, .int (zI zr)), (2, .int (zI zd))] from (lv_cons (x_at (lv_at hl 0 rfl) (by omega)) (lv_cons (lv_at hl 1 rfl) (lv_cons (lv_at hl 2 rfl) (lv_cons (lv_at hl 3 rfl) (lv_nil hl)))))) (fun k ls hI2 hl ih2 => ?_)
  obtain ⟨hk, hm⟩ : (k ≤ bN b q y) ∧ (∀ j, j < k → ¬ ((bD b q y j : Int) = zd)) := hI2
  have hl : lv_has ls 4 [(3, .int (zI (k : Int))), (0, .ref o), (1, .int (zI zr)), (2, .int (zI zd))] := hl
  refine lv_iload_n hx hb dX4_placeOf_2 rfl (lv_at hl 0 rfl) ?_
  refine lv_aload_n hx hb dX4_placeOf_3 rfl (lv_at hl 1 rfl) ?_
  refine x_get (ci := 4) (C := RX4) (T := TX4) (N := 10) (own := RX4) (index := 7) (v := .ref (o + 1)) hx hb hts (by decide +kernel) hown hK hW.ob rfl 0 (by decide) (by decide +kernel) rfl rfl dX4_placeOf_4 ?_
  refine lv_iload_n hx hb dX4_placeOf_7 rfl (lv_at hl 2 rfl) ?_
  refine x_iald hx hb hK hW.le (8 * y + q) (by omega) (by omega) (by decide) dX4_placeOf_8 ?_
  have hv1 := mN_at b (q := q) (y := y) (by omega)
  refine x_icmp_ge (tgt := 36) hx hb dX4_placeOf_9 (by decide) (by omega) (fun h2 => ?_) (fun h3 => ?_)
  · refine lv_iload_n hx hb dX4_placeOf_36 rfl (lv_at hl 0 rfl) ?_
    exact x_retI hx hb hr (congrArg Nat.cast (fst9_uniq (Nat.zero_le _) (fun j _ hj => decide_eq_false (hm j hj)) (by rcases Nat.lt_or_ge k (bN b q y) with h9 | h9; exact Or.inr ⟨by omega, decide_eq_true (by omega)⟩; exact Or.inl (by omega))).symm) dX4_placeOf_37 hlocks
  · refine lv_aload_n hx hb dX4_placeOf_12 rfl (lv_at hl 1 rfl) ?_
    refine x_get (ci := 4) (C := RX4) (T := TX4) (N := 10) (own := RX4) (index := 13) (v := .ref (o + 2)) hx hb hts (by decide +kernel) hown hK hW.ob rfl 1 (by decide) (by decide +kernel) rfl rfl dX4_placeOf_13 ?_
    refine lv_bipush (v := zI 20) hx hb dX4_placeOf_16 (by decide +kernel) ?_
    refine lv_iload_n hx hb dX4_placeOf_18 rfl (lv_at hl 2 rfl) ?_
    refine x_imul hx hb dX4_placeOf_19 ?_
    refine lv_iload_n hx hb dX4_placeOf_20 rfl (lv_at hl 0 rfl) ?_
    refine x_iadd hx hb dX4_placeOf_21 ?_
    refine x_iald hx hb hK hW.ro (20 * (8 * y + q) + k) (by omega) (by omega) (by decide) dX4_placeOf_22 ?_
    have hv4 := mR_at hi (b := b) (q := q) (y := y) (k := k) (by omega) (by omega)
    refine lv_bipush (v := zI 64) hx hb dX4_placeOf_23 (by decide +kernel) ?_
    refine x_irem hx hb (by omega) (by omega) dX4_placeOf_25 ?_
    refine lv_iload_n hx hb dX4_placeOf_26 rfl (lv_at hl 3 rfl) ?_
    refine x_icmp_eq (tgt := 36) hx hb dX4_placeOf_27 (by decide) (by omega) (fun h5 => ?_) (fun h6 => ?_)
    · refine lv_iload_n hx hb dX4_placeOf_36 rfl (lv_at hl 0 rfl) ?_
      exact x_retI hx hb hr (congrArg Nat.cast (fst9_uniq (Nat.zero_le _) (fun j _ hj => decide_eq_false (hm j hj)) (by rcases Nat.lt_or_ge k (bN b q y) with h9 | h9; exact Or.inr ⟨by omega, decide_eq_true (by omega)⟩; exact Or.inl (by omega))).symm) dX4_placeOf_37 hlocks
    · refine x_iinc (lv' := [(3, .int (zI ((k : Int) + 1))), (0, .ref o), (1, .int (zI zr)), (2, .int (zI zd))]) (k := 0) hx hb dX4_placeOf_30 hl rfl (by decide) rfl (fun ls hl => ?_)
      refine lv_goto (tgt := 2) hx hb dX4_placeOf_33 (by decide) ?_
      exact ih2 (k + 1) ls (show ((k + 1) ≤ bN b q y) ∧ (∀ j, j < (k + 1) → ¬ ((bD b q y j : Int) = zd)) from ⟨(by omega), (lt_s hm (by omega))⟩) (show bN b q y - (k + 1) < bN b q y - k from (by omega)) (lv_cons (x_at (lv_at hl 0 rfl) (by omega)) (lv_cons (lv_at hl 1 rfl) (lv_cons (lv_at hl 2 rfl) (lv_cons (lv_at hl 3 rfl) (lv_nil hl)))))
set_option maxHeartbeats 4000000 in
set_option maxRecDepth 100000 in
theorem c_X4_append (l : Launch) (G : XG) (o : Nat) (b : XB) (th ov un : Int) (zs : Int) (hzs : -2147483648 ≤ zs ∧ zs < 2147483648) (zq : Int) (hzq : -2147483648 ≤ zq ∧ zq < 2147483648) (zd : Int) (hzd : -2147483648 ≤ zd ∧ zd < 2147483648) (zc : Int) (hzc : -2147483648 ≤ zc ∧ zc < 2147483648) : MetQI l yX4_append wsX4_append (rmF 2 44) G o b th ov un [.ref o, .int (zI zs), .int (zI zq), .int (zI zd), .int (zI zc)] (kR ((0 ≤ zs ∧ zs < 4) ∧ (0 ≤ zq ∧ zq < 8) ∧ (0 ≤ zd ∧ zd < 40) ∧ (0 ≤ zc ∧ zc ≤ 1000)) (kAppN b zq.toNat zs.toNat zd zc)) ((bN b zq.toNat zs.toNat : Int) + 1) (bApp b zq.toNat zs.toNat zd.toNat zc.toNat) := by
  refine Met.ofW (cc := cX4_append) (maxL := 7) (ret := (some .int)) (by decide) rfl ?_
  intro p e s m args below meth c s₁ B hml hv
  obtain ⟨rfl, hW, hi, hK⟩ := hv
  have hx := B.exec
  have hb := B.bytes
  have hr := B.returns
  have hts := atoms_spec (ws := wsX4_append) B.pre
  have hown : s.vm.findClass RX4 = some m.cls := findClass_of_methodNamed B.named
  have hlocks := B.notSynchronized
  have hl := lv_entry ([.ref o, .int (zI zs), .int (zI zq), .int (zI zd), .int (zI zc)]) (n := 7) (Nat.le_of_ble_eq_true rfl)
  rw [lg_entry_eq]
  generalize (lg_sl ([.ref o, .int (zI zs), .int (zI zq), .int (zI zd), .int (zI zc)]) ++ List.replicate (7 - (lg_sl ([.ref o, .int (zI zs), .int (zI zq), .int (zI zd), .int (zI zc)])).length) Slot.unset).toArray = ls at hl ⊢
  have hl : lv_has ls 7 [(0, .ref o), (1, .int (zI zs)), (2, .int (zI zq)), (3, .int (zI zd)), (4, .int (zI zc))] := hl
  have hS : va_S (mA o) s.heap s.heap [] := va_S.rf
  refine lv_aload_n hx hb dX4_append_0 rfl (lv_at hl 0 rfl) ?_
  refine lv_iload_n hx hb dX4_append_1 rfl (lv_at hl 1 rfl) ?_
  refine lv_iload_n hx hb dX4_append_2 rfl (lv_at hl 2 rfl) ?_
  refine x_wI (va_runV (As := [.int (zI zs), .int (zI zq)]) (rest := []) ⟨hx, hb, hml, hown, hts⟩ (c_X4_isRun l G o b th ov un zs (by omega) zq (by omega)) (cwV 2 hts gX4_append_X4_isRun rfl rfl rfl (by decide +kernel) ⟨Nat.le_of_ble_eq_true rfl, Nat.le_of_ble_eq_true rfl⟩) (x_preM hW hi hK) rfl rfl hl.1 rfl (lv_room (Nat.le_of_ble_eq_true rfl)) dX4_append_3 ⟨Nat.le_of_ble_eq_true rfl, Nat.le_of_ble_eq_true rfl⟩) hS (fun q _ h => h) (fun q h => h) (fun H1 locs1 hW1 hz1 hk1 hS => ?_)
  have hW := hW1
  refine x_ifB_ne (tgt := 11) hx hb dX4_append_6 (by decide) (fun h1 => ?_) (fun h2 => ?_)
  · replace hW := hW.th (kR_t h1 rfl)
    refine lv_iload_n hx hb dX4_append_11 rfl (lv_at hl 3 rfl) ?_
    refine x_iconst hx hb dX4_append_12 ?_
    refine lv_bipush (v := zI 39) hx hb dX4_append_13 (by decide +kernel) ?_
    refine x_cI (va_runS (As := [.int (zI zd), .int (zI 0), .int (zI 39)]) (rest := []) ⟨hx, hb, hml, hown, hts⟩ (c_X4_in l zd (by omega) 0 (by omega) 39 (by omega)) (va_cwS 3 hts gX4_append_X4_in rfl rfl rfl (by decide +kernel) ⟨Nat.le_of_ble_eq_true rfl, Nat.le_of_ble_eq_true rfl⟩) x_preS rfl rfl hl.1 rfl (lv_room (Nat.le_of_ble_eq_true rfl)) dX4_append_15 ⟨Nat.le_of_ble_eq_true rfl, Nat.le_of_ble_eq_true rfl⟩) ?_
    refine x_ifB_eq (tgt := 33) hx hb dX4_append_18 (by decide) (fun h3 => ?_) (fun h4 => ?_)
    · refine lv_aload_n hx hb dX4_append_33 rfl (lv_at hl 0 rfl) ?_
      refine x_iconst hx hb dX4_append_34 ?_
      refine x_wI (va_runV (As := [.int (zI 1)]) (rest := []) ⟨hx, hb, hml, hown, hts⟩ (c_X4_fails l G o b 0 ov un 1) (cwV 1 hts gX4_append_X4_fails rfl rfl rfl (by decide +kernel) ⟨Nat.le_of_ble_eq_true rfl, Nat.le_of_ble_eq_true rfl⟩) (x_preM hW hi hK) rfl rfl hl.1 rfl (lv_room (Nat.le_of_ble_eq_true rfl)) dX4_append_35 ⟨Nat.le_of_ble_eq_true rfl, Nat.le_of_ble_eq_true rfl⟩) hS (fun q _ h => h) (fun q h => h) (fun H1 locs1 hW1 hz1 hk1 hS => ?_)
      have hW := hW1
      exact x_qI hx hb hr (kR_f (by omega)) (no1) hW (if0_1) hS dX4_append_38 hlocks
    · refine lv_iload hx hb dX4_append_21 (lv_at hl 4 rfl) ?_
      refine x_iconst hx hb dX4_append_23 ?_
      refine lv_sipush (v := zI 1000) hx hb dX4_append_24 (by decide +kernel) ?_
      refine x_cI (va_runS (As := [.int (zI zc), .int (zI 0), .int (zI 1000)]) (rest := []) ⟨hx, hb, hml, hown, hts⟩ (c_X4_in l zc (by omega) 0 (by omega) 1000 (by omega)) (va_cwS 3 hts gX4_append_X4_in rfl rfl rfl (by decide +kernel) ⟨Nat.le_of_ble_eq_true rfl, Nat.le_of_ble_eq_true rfl⟩) x_preS rfl rfl hl.1 rfl (lv_room (Nat.le_of_ble_eq_true rfl)) dX4_append_27 ⟨Nat.le_of_ble_eq_true rfl, Nat.le_of_ble_eq_true rfl⟩) ?_
      refine x_ifB_ne (tgt := 39) hx hb dX4_append_30 (by decide) (fun h5 => ?_) (fun h6 => ?_)
      · obtain ⟨y, rfl⟩ : ∃ y : Nat, zs = (y : Int) := ⟨zs.toNat, by omega⟩
        obtain ⟨q, rfl⟩ : ∃ q : Nat, zq = (q : Int) := ⟨zq.toNat, by omega⟩
        obtain ⟨d, rfl⟩ : ∃ d : Nat, zd = (d : Int) := ⟨zd.toNat, by omega⟩
        obtain ⟨sc, rfl⟩ : ∃ sc : Nat, zc = (sc : Int) := ⟨zc.toNat, by omega⟩
        refine lv_bipush (v := zI 8) hx hb dX4_append_39 (by decide +kernel) ?_
        refine lv_iload_n hx hb dX4_append_41 rfl (lv_at hl 1 rfl) ?_
        refine x_imul hx hb dX4_append_42 ?_
        refine lv_iload_n hx hb dX4_append_43 rfl (lv_at hl 2 rfl) ?_
        refine x_iadd hx hb dX4_append_44 ?_
        refine lv_istore (lv' := [(5, .int (zI ((8 * (y : Int)) + (q : Int)))), (0, .ref o), (1, .int (zI (y : Int))), (2, .int (zI (q : Int))), (3, .int (zI (d : Int))), (4, .int (zI (sc : Int)))]) hx hb dX4_append_45 hl (by decide) rfl (fun ls hl => ?_)
        refine lv_aload_n hx hb dX4_append_47 rfl (lv_at hl 1 rfl) ?_
        refine x_get (ci := 4) (C := RX4) (T := TX4) (N := 10) (own := RX4) (index := 7) (v := .ref (o + 1)) hx hb hts (by decide +kernel) hown hK hW.ob rfl 0 (by decide) (by decide +kernel) rfl rfl dX4_append_48 ?_
        refine lv_iload hx hb dX4_append_51 (lv_at hl 0 rfl) ?_
        refine x_iald hx hb hK hW.le (8 * y + q) (by omega) (by omega) (by decide) dX4_append_53 ?_
        have hv7 := mN_at b (q := q) (y := y) (by omega)
        have hn20 := hi.n q y
        refine lv_istore (lv' := [(6, .int (zI (mN b (8 * y + q) : Int))), (5, .int (zI ((8 * (y : Int)) + (q : Int)))), (0, .ref o), (1, .int (zI (y : Int))), (2, .int (zI (q : Int))), (3, .int (zI (d : Int))), (4, .int (zI (sc : Int)))]) hx hb dX4_append_54 hl (by decide) rfl (fun ls hl => ?_)
        refine lv_iload hx hb dX4_append_56 (lv_at hl 0 rfl) ?_
        refine lv_bipush (v := zI 20) hx hb dX4_append_58 (by decide +kernel) ?_
        refine x_icmp_eq (tgt := 103) hx hb dX4_append_60 (by decide) (by omega) (fun h8 => ?_) (fun h9 => ?_)
        · refine lv_aload_n hx hb dX4_append_103 rfl (lv_at hl 2 rfl) ?_
          refine x_iconst hx hb dX4_append_104 ?_
          refine x_wI (va_runV (As := [.int (zI 2)]) (rest := []) ⟨hx, hb, hml, hown, hts⟩ (c_X4_fails l G o b 0 ov un 2) (cwV 1 hts gX4_append_X4_fails rfl rfl rfl (by decide +kernel) ⟨Nat.le_of_ble_eq_true rfl, Nat.le_of_ble_eq_true rfl⟩) (x_preM hW hi hK) rfl rfl hl.1 rfl (lv_room (Nat.le_of_ble_eq_true rfl)) dX4_append_105 ⟨Nat.le_of_ble_eq_true rfl, Nat.le_of_ble_eq_true rfl⟩) hS (fun q _ h => h) (fun q h => h) (fun H1 locs1 hW1 hz1 hk1 hS => ?_)
          have hW := hW1
          exact x_qI hx hb hr (kR_t (by omega) (kAppN_2 (q := q) (y := y) (by omega))) (no2) hW (if0_2) hS dX4_append_108 hlocks
        · refine lv_aload_n hx hb dX4_append_63 rfl (lv_at hl 2 rfl) ?_
          refine lv_iload hx hb dX4_append_64 (lv_at hl 1 rfl) ?_
          refine lv_iload_n hx hb dX4_append_66 rfl (lv_at hl 5 rfl) ?_
          refine x_cI (va_runV (As := [.int (zI ((8 * (y : Int)) + (q : Int))), .int (zI (d : Int))]) (rest := []) ⟨hx, hb, hml, hown, hts⟩ (c_X4_placeOf l G o b 0 ov un q y (by omega) (by omega) ((8 * (y : Int)) + (q : Int)) (by omega) (d : Int) (by omega)) (cwV 2 hts gX4_append_X4_placeOf rfl rfl rfl (by decide +kernel) ⟨Nat.le_of_ble_eq_true rfl, Nat.le_of_ble_eq_true rfl⟩) (x_preM hW hi hK) rfl rfl hl.1 rfl (lv_room (Nat.le_of_ble_eq_true rfl)) dX4_append_67 ⟨Nat.le_of_ble_eq_true rfl, Nat.le_of_ble_eq_true rfl⟩) ?_
          have hpl := pl_rk b q y (d : Int)
          refine lv_iload hx hb dX4_append_70 (lv_at hl 0 rfl) ?_
          refine x_icmp_lt (tgt := 103) hx hb dX4_append_72 (by decide) (by omega) (fun h10 => ?_) (fun h11 => ?_)
          · refine lv_aload_n hx hb dX4_append_103 rfl (lv_at hl 2 rfl) ?_
            refine x_iconst hx hb dX4_append_104 ?_
            refine x_wI (va_runV (As := [.int (zI 2)]) (rest := []) ⟨hx, hb, hml, hown, hts⟩ (c_X4_fails l G o b 0 ov un 2) (cwV 1 hts gX4_append_X4_fails rfl rfl rfl (by decide +kernel) ⟨Nat.le_of_ble_eq_true rfl, Nat.le_of_ble_eq_true rfl⟩) (x_preM hW hi hK) rfl rfl hl.1 rfl (lv_room (Nat.le_of_ble_eq_true rfl)) dX4_append_105 ⟨Nat.le_of_ble_eq_true rfl, Nat.le_of_ble_eq_true rfl⟩) hS (fun q _ h => h) (fun q h => h) (fun H1 locs1 hW1 hz1 hk1 hS => ?_)
            have hW := hW1
            exact x_qI hx hb hr (kR_t (by omega) (kAppN_2 (q := q) (y := y) (by omega))) (no2) hW (if0_2) hS dX4_append_108 hlocks
          · refine lv_iload hx hb dX4_append_75 (lv_at hl 0 rfl) ?_
            refine x_if_le (tgt := 109) hx hb dX4_append_77 (by decide) (by omega) (fun h12 => ?_) (fun h13 => ?_)
            · refine lv_aload_n hx hb dX4_append_109 rfl (lv_at hl 2 rfl) ?_
              refine x_get (ci := 4) (C := RX4) (T := TX4) (N := 10) (own := RX4) (index := 13) (v := .ref (o + 2)) hx hb hts (by decide +kernel) hown hK hW.ob rfl 1 (by decide) (by decide +kernel) rfl rfl dX4_append_110 ?_
              refine lv_bipush (v := zI 20) hx hb dX4_append_113 (by decide +kernel) ?_
              refine lv_iload hx hb dX4_append_115 (lv_at hl 1 rfl) ?_
              refine x_imul hx hb dX4_append_117 ?_
              refine lv_iload hx hb dX4_append_118 (lv_at hl 0 rfl) ?_
              refine x_iadd hx hb dX4_append_120 ?_
              refine lv_iload_n hx hb dX4_append_121 rfl (lv_at hl 5 rfl) ?_
              refine lv_bipush (v := zI 64) hx hb dX4_append_122 (by decide +kernel) ?_
              refine lv_iload hx hb dX4_append_124 (lv_at hl 6 rfl) ?_
              refine x_imul hx hb dX4_append_126 ?_
              refine x_iadd hx hb dX4_append_127 ?_
              refine x_iast hx hb hK hW.ro hS ⟨by omega, by omega⟩ (20 * (8 * y + q) + bN b q y) (by omega) (by omega) (by decide) dX4_append_128 (fun H1 locs1 h1 hz1 hn1 hS => ?_)
              have hW := hW.putR (q := q) (y := y) (k := bN b q y) (d := d) (c := sc) (by omega) (by omega) (by omega) h1 hn1
              refine lv_aload_n hx hb dX4_append_129 rfl (lv_at hl 2 rfl) ?_
              refine x_get (ci := 4) (C := RX4) (T := TX4) (N := 10) (own := RX4) (index := 7) (v := .ref (o + 1)) hx hb hts (by decide +kernel) hown hK hW.ob rfl 0 (by decide) (by decide +kernel) rfl rfl dX4_append_130 ?_
              refine lv_iload hx hb dX4_append_133 (lv_at hl 1 rfl) ?_
              refine lv_dup2_11 hx hb dX4_append_135 rfl rfl ?_
              refine x_iald hx hb hK hW.le (8 * y + q) (by omega) (by omega) (by decide) dX4_append_136 ?_
              have hv14 := mN_at b (q := q) (y := y) (by omega)
              refine x_iconst hx hb dX4_append_137 ?_
              refine x_iadd hx hb dX4_append_138 ?_
              have hmn : mN (uS (uD b q y (bN b q y) d) q y (bN b q y) sc) (8 * y + q) = mN b (8 * y + q) := rfl
              have hmn2 := mN_at b (q := q) (y := y) (by omega)
              refine x_iast hx hb hK hW.le hS ⟨by omega, by omega⟩ (8 * y + q) (by omega) (by omega) (by decide) dX4_append_139 (fun H1 locs1 h1 hz1 hn1 hS => ?_)
              have hW := hW.putL (q := q) (y := y) (v := bN b q y + 1) (by omega) (by omega) h1 hn1
              refine lv_iload hx hb dX4_append_140 (lv_at hl 0 rfl) ?_
              refine x_iconst hx hb dX4_append_142 ?_
              refine x_iadd hx hb dX4_append_143 ?_
              exact x_qI hx hb hr (kR_t (by omega) (kAppN_0 (q := q) (y := y) (by omega))) (fun _ => (show ((mN b (8 * y + q) : Nat) : Int) + 1 = ((bN b q y : Nat) : Int) + 1 from by omega)) hW (if0_t) hS dX4_append_144 hlocks
            · refine lv_aload_n hx hb dX4_append_80 rfl (lv_at hl 2 rfl) ?_
              refine x_get (ci := 4) (C := RX4) (T := TX4) (N := 10) (own := RX4) (index := 13) (v := .ref (o + 2)) hx hb hts (by decide +kernel) hown hK hW.ob rfl 1 (by decide) (by decide +kernel) rfl rfl dX4_append_81 ?_
              refine lv_bipush (v := zI 20) hx hb dX4_append_84 (by decide +kernel) ?_
              refine lv_iload hx hb dX4_append_86 (lv_at hl 1 rfl) ?_
              refine x_imul hx hb dX4_append_88 ?_
              refine lv_iload hx hb dX4_append_89 (lv_at hl 0 rfl) ?_
              refine x_iadd hx hb dX4_append_91 ?_
              refine x_iconst hx hb dX4_append_92 ?_
              refine x_isub hx hb dX4_append_93 ?_
              refine x_iald hx hb hK hW.ro (20 * (8 * y + q) + (bN b q y - 1)) (by omega) (by omega) (by decide) dX4_append_94 ?_
              have hv15 := mR_at hi (b := b) (q := q) (y := y) (k := (bN b q y - 1)) (by omega) (by omega)
              refine lv_bipush (v := zI 64) hx hb dX4_append_95 (by decide +kernel) ?_
              refine x_idiv hx hb (by omega) (by omega) dX4_append_97 ?_
              refine lv_iload hx hb dX4_append_98 (lv_at hl 6 rfl) ?_
              refine x_icmp_ge (tgt := 109) hx hb dX4_append_100 (by decide) (by omega) (fun h16 => ?_) (fun h17 => ?_)
              · refine lv_aload_n hx hb dX4_append_109 rfl (lv_at hl 2 rfl) ?_
                refine x_get (ci := 4) (C := RX4) (T := TX4) (N := 10) (own := RX4) (index := 13) (v := .ref (o + 2)) hx hb hts (by decide +kernel) hown hK hW.ob rfl 1 (by decide) (by decide +kernel) rfl rfl dX4_append_110 ?_
                refine lv_bipush (v := zI 20) hx hb dX4_append_113 (by decide +kernel) ?_
                refine lv_iload hx hb dX4_append_115 (lv_at hl 1 rfl) ?_
                refine x_imul hx hb dX4_append_117 ?_
                refine lv_iload hx hb dX4_append_118 (lv_at hl 0 rfl) ?_
                refine x_iadd hx hb dX4_append_120 ?_
                refine lv_iload_n hx hb dX4_append_121 rfl (lv_at hl 5 rfl) ?_
                refine lv_bipush (v := zI 64) hx hb dX4_append_122 (by decide +kernel) ?_
                refine lv_iload hx hb dX4_append_124 (lv_at hl 6 rfl) ?_
                refine x_imul hx hb dX4_append_126 ?_
                refine x_iadd hx hb dX4_append_127 ?_
                refine x_iast hx hb hK hW.ro hS ⟨by omega, by omega⟩ (20 * (8 * y + q) + bN b q y) (by omega) (by omega) (by decide) dX4_append_128 (fun H1 locs1 h1 hz1 hn1 hS => ?_)
                have hW := hW.putR (q := q) (y := y) (k := bN b q y) (d := d) (c := sc) (by omega) (by omega) (by omega) h1 hn1
                refine lv_aload_n hx hb dX4_append_129 rfl (lv_at hl 2 rfl) ?_
                refine x_get (ci := 4) (C := RX4) (T := TX4) (N := 10) (own := RX4) (index := 7) (v := .ref (o + 1)) hx hb hts (by decide +kernel) hown hK hW.ob rfl 0 (by decide) (by decide +kernel) rfl rfl dX4_append_130 ?_
                refine lv_iload hx hb dX4_append_133 (lv_at hl 1 rfl) ?_
                refine lv_dup2_11 hx hb dX4_append_135 rfl rfl ?_
                refine x_iald hx hb hK hW.le (8 * y + q) (by omega) (by omega) (by decide) dX4_append_136 ?_
                have hv18 := mN_at b (q := q) (y := y) (by omega)
                refine x_iconst hx hb dX4_append_137 ?_
                refine x_iadd hx hb dX4_append_138 ?_
                have hmn : mN (uS (uD b q y (bN b q y) d) q y (bN b q y) sc) (8 * y + q) = mN b (8 * y + q) := rfl
                have hmn2 := mN_at b (q := q) (y := y) (by omega)
                refine x_iast hx hb hK hW.le hS ⟨by omega, by omega⟩ (8 * y + q) (by omega) (by omega) (by decide) dX4_append_139 (fun H1 locs1 h1 hz1 hn1 hS => ?_)
                have hW := hW.putL (q := q) (y := y) (v := bN b q y + 1) (by omega) (by omega) h1 hn1
                refine lv_iload hx hb dX4_append_140 (lv_at hl 0 rfl) ?_
                refine x_iconst hx hb dX4_append_142 ?_
                refine x_iadd hx hb dX4_append_143 ?_
                exact x_qI hx hb hr (kR_t (by omega) (kAppN_0 (q := q) (y := y) (by omega))) (fun _ => (show ((mN b (8 * y + q) : Nat) : Int) + 1 = ((bN b q y : Nat) : Int) + 1 from by omega)) hW (if0_t) hS dX4_append_144 hlocks
              · refine lv_aload_n hx hb dX4_append_103 rfl (lv_at hl 2 rfl) ?_
                refine x_iconst hx hb dX4_append_104 ?_
                refine x_wI (va_runV (As := [.int (zI 2)]) (rest := []) ⟨hx, hb, hml, hown, hts⟩ (c_X4_fails l G o b 0 ov un 2) (cwV 1 hts gX4_append_X4_fails rfl rfl rfl (by decide +kernel) ⟨Nat.le_of_ble_eq_true rfl, Nat.le_of_ble_eq_true rfl⟩) (x_preM hW hi hK) rfl rfl hl.1 rfl (lv_room (Nat.le_of_ble_eq_true rfl)) dX4_append_105 ⟨Nat.le_of_ble_eq_true rfl, Nat.le_of_ble_eq_true rfl⟩) hS (fun q _ h => h) (fun q h => h) (fun H1 locs1 hW1 hz1 hk1 hS => ?_)
                have hW := hW1
                exact x_qI hx hb hr (kR_t (by omega) (kAppN_2 (q := q) (y := y) (by omega))) (no2) hW (if0_2) hS dX4_append_108 hlocks
      · refine lv_aload_n hx hb dX4_append_33 rfl (lv_at hl 0 rfl) ?_
        refine x_iconst hx hb dX4_append_34 ?_
        refine x_wI (va_runV (As := [.int (zI 1)]) (rest := []) ⟨hx, hb, hml, hown, hts⟩ (c_X4_fails l G o b 0 ov un 1) (cwV 1 hts gX4_append_X4_fails rfl rfl rfl (by decide +kernel) ⟨Nat.le_of_ble_eq_true rfl, Nat.le_of_ble_eq_true rfl⟩) (x_preM hW hi hK) rfl rfl hl.1 rfl (lv_room (Nat.le_of_ble_eq_true rfl)) dX4_append_35 ⟨Nat.le_of_ble_eq_true rfl, Nat.le_of_ble_eq_true rfl⟩) hS (fun q _ h => h) (fun q h => h) (fun H1 locs1 hW1 hz1 hk1 hS => ?_)
        have hW := hW1
        exact x_qI hx hb hr (kR_f (by omega)) (no1) hW (if0_1) hS dX4_append_38 hlocks
  · replace hW := hW.th (kR_f h2)
    refine x_iconst hx hb dX4_append_9 ?_
    exact x_qI hx hb hr (kR_f (by omega)) (no1) hW (if0_1) hS dX4_append_10 hlocks
set_option maxHeartbeats 4000000 in
set_option maxRecDepth 100000 in
theorem c_X4_empty (l : Launch) (G : XG) (o : Nat) (b : XB) (th ov un : Int) (zs : Int) (hzs : -2147483648 ≤ zs ∧ zs < 2147483648) (zq : Int) (hzq : -2147483648 ≤ zq ∧ zq < 2147483648) : MetQI l yX4_empty wsX4_empty (rmF 2 44) G o b th ov un [.ref o, .int (zI zs), .int (zI zq)] (kR ((0 ≤ zs ∧ zs < 4) ∧ (0 ≤ zq ∧ zq < 8)) 0) (bN b zq.toNat zs.toNat : Int) (uN b zq.toNat zs.toNat 0) := by
  refine Met.ofW (cc := cX4_empty) (maxL := 4) (ret := (some .int)) (by decide) rfl ?_
  intro p e s m args below meth c s₁ B hml hv
  obtain ⟨rfl, hW, hi, hK⟩ := hv
  have hx := B.exec
  have hb := B.bytes
  have hr := B.returns
  have hts := atoms_spec (ws := wsX4_empty) B.pre
  have hown : s.vm.findClass RX4 = some m.cls := findClass_of_methodNamed B.named
  have hlocks := B.notSynchronized
  have hl := lv_entry ([.ref o, .int (zI zs), .int (zI zq)]) (n := 4) (Nat.le_of_ble_eq_true rfl)
  rw [lg_entry_eq]
  generalize (lg_sl ([.ref o, .int (zI zs), .int (zI zq)]) ++ List.replicate (4 - (lg_sl ([.ref o, .int (zI zs), .int (zI zq)])).length) Slot.unset).toArray = ls at hl ⊢
  have hl : lv_has ls 4 [(0, .ref o), (1, .int (zI zs)), (2, .int (zI zq))] := hl
  have hS : va_S (mA o) s.heap s.heap [] := va_S.rf
  refine lv_aload_n hx hb dX4_empty_0 rfl (lv_at hl 0 rfl) ?_
  refine lv_iload_n hx hb dX4_empty_1 rfl (lv_at hl 1 rfl) ?_
  refine lv_iload_n hx hb dX4_empty_2 rfl (lv_at hl 2 rfl) ?_
  refine x_wI (va_runV (As := [.int (zI zs), .int (zI zq)]) (rest := []) ⟨hx, hb, hml, hown, hts⟩ (c_X4_isRun l G o b th ov un zs (by omega) zq (by omega)) (cwV 2 hts gX4_empty_X4_isRun rfl rfl rfl (by decide +kernel) ⟨Nat.le_of_ble_eq_true rfl, Nat.le_of_ble_eq_true rfl⟩) (x_preM hW hi hK) rfl rfl hl.1 rfl (lv_room (Nat.le_of_ble_eq_true rfl)) dX4_empty_3 ⟨Nat.le_of_ble_eq_true rfl, Nat.le_of_ble_eq_true rfl⟩) hS (fun q _ h => h) (fun q h => h) (fun H1 locs1 hW1 hz1 hk1 hS => ?_)
  have hW := hW1
  refine x_ifB_ne (tgt := 11) hx hb dX4_empty_6 (by decide) (fun h1 => ?_) (fun h2 => ?_)
  · replace hW := hW.th (kR_t h1 rfl)
    obtain ⟨y, rfl⟩ : ∃ y : Nat, zs = (y : Int) := ⟨zs.toNat, by omega⟩
    obtain ⟨q, rfl⟩ : ∃ q : Nat, zq = (q : Int) := ⟨zq.toNat, by omega⟩
    refine lv_aload_n hx hb dX4_empty_11 rfl (lv_at hl 0 rfl) ?_
    refine x_get (ci := 4) (C := RX4) (T := TX4) (N := 10) (own := RX4) (index := 7) (v := .ref (o + 1)) hx hb hts (by decide +kernel) hown hK hW.ob rfl 0 (by decide) (by decide +kernel) rfl rfl dX4_empty_12 ?_
    refine lv_bipush (v := zI 8) hx hb dX4_empty_15 (by decide +kernel) ?_
    refine lv_iload_n hx hb dX4_empty_17 rfl (lv_at hl 1 rfl) ?_
    refine x_imul hx hb dX4_empty_18 ?_
    refine lv_iload_n hx hb dX4_empty_19 rfl (lv_at hl 2 rfl) ?_
    refine x_iadd hx hb dX4_empty_20 ?_
    refine x_iald hx hb hK hW.le (8 * y + q) (by omega) (by omega) (by decide) dX4_empty_21 ?_
    have hv3 := mN_at b (q := q) (y := y) (by omega)
    refine lv_istore_n (lv' := [(3, .int (zI (mN b (8 * y + q) : Int))), (0, .ref o), (1, .int (zI (y : Int))), (2, .int (zI (q : Int)))]) hx hb dX4_empty_22 rfl hl (by decide) rfl (fun ls hl => ?_)
    refine lv_aload_n hx hb dX4_empty_23 rfl (lv_at hl 1 rfl) ?_
    refine x_get (ci := 4) (C := RX4) (T := TX4) (N := 10) (own := RX4) (index := 7) (v := .ref (o + 1)) hx hb hts (by decide +kernel) hown hK hW.ob rfl 0 (by decide) (by decide +kernel) rfl rfl dX4_empty_24 ?_
    refine lv_bipush (v := zI 8) hx hb dX4_empty_27 (by decide +kernel) ?_
    refine lv_iload_n hx hb dX4_empty_29 rfl (lv_at hl 2 rfl) ?_
    refine x_imul hx hb dX4_empty_30 ?_
    refine lv_iload_n hx hb dX4_empty_31 rfl (lv_at hl 3 rfl) ?_
    refine x_iadd hx hb dX4_empty_32 ?_
    refine x_iconst hx hb dX4_empty_33 ?_
    refine x_iast hx hb hK hW.le hS ⟨by omega, by omega⟩ (8 * y + q) (by omega) (by omega) (by decide) dX4_empty_34 (fun H1 locs1 h1 hz1 hn1 hS => ?_)
    have hW := hW.putL (q := q) (y := y) (v := 0) (by omega) (by omega) h1 hn1
    refine lv_iload_n hx hb dX4_empty_35 rfl (lv_at hl 0 rfl) ?_
    exact x_qI hx hb hr (kR_t (by omega) rfl) (fun _ => (show ((mN b (8 * y + q) : Nat) : Int) = ((bN b q y : Nat) : Int) from by omega)) hW (if0_t) hS dX4_empty_36 hlocks
  · replace hW := hW.th (kR_f h2)
    refine x_iconst hx hb dX4_empty_9 ?_
    exact x_qI hx hb hr (kR_f (by omega)) (no1) hW (if0_1) hS dX4_empty_10 hlocks
set_option maxHeartbeats 4000000 in
set_option maxRecDepth 100000 in
theorem c_X4_length (l : Launch) (G : XG) (o : Nat) (b : XB) (th ov un : Int) (zs : Int) (hzs : -2147483648 ≤ zs ∧ zs < 2147483648) (zq : Int) (hzq : -2147483648 ≤ zq ∧ zq < 2147483648) : MetQI l yX4_length wsX4_length (rmF 2 44) G o b th ov un [.ref o, .int (zI zs), .int (zI zq)] (kR ((0 ≤ zs ∧ zs < 4) ∧ (0 ≤ zq ∧ zq < 8)) 0) (bN b zq.toNat zs.toNat : Int) b := by
  refine Met.ofW (cc := cX4_length) (maxL := 3) (ret := (some .int)) (by decide) rfl ?_
  intro p e s m args below meth c s₁ B hml hv
  obtain ⟨rfl, hW, hi, hK⟩ := hv
  have hx := B.exec
  have hb := B.bytes
  have hr := B.returns
  have hts := atoms_spec (ws := wsX4_length) B.pre
  have hown : s.vm.findClass RX4 = some m.cls := findClass_of_methodNamed B.named
  have hlocks := B.notSynchronized
  have hl := lv_entry ([.ref o, .int (zI zs), .int (zI zq)]) (n := 3) (Nat.le_of_ble_eq_true rfl)
  rw [lg_entry_eq]
  generalize (lg_sl ([.ref o, .int (zI zs), .int (zI zq)]) ++ List.replicate (3 - (lg_sl ([.ref o, .int (zI zs), .int (zI zq)])).length) Slot.unset).toArray = ls at hl ⊢
  have hl : lv_has ls 3 [(0, .ref o), (1, .int (zI zs)), (2, .int (zI zq))] := hl
  have hS : va_S (mA o) s.heap s.heap [] := va_S.rf
  refine lv_aload_n hx hb dX4_length_0 rfl (lv_at hl 0 rfl) ?_
  refine lv_iload_n hx hb dX4_length_1 rfl (lv_at hl 1 rfl) ?_
  refine lv_iload_n hx hb dX4_length_2 rfl (lv_at hl 2 rfl) ?_
  refine x_wI (va_runV (As := [.int (zI zs), .int (zI zq)]) (rest := []) ⟨hx, hb, hml, hown, hts⟩ (c_X4_isRun l G o b th ov un zs (by omega) zq (by omega)) (cwV 2 hts gX4_length_X4_isRun rfl rfl rfl (by decide +kernel) ⟨Nat.le_of_ble_eq_true rfl, Nat.le_of_ble_eq_true rfl⟩) (x_preM hW hi hK) rfl rfl hl.1 rfl (lv_room (Nat.le_of_ble_eq_true rfl)) dX4_length_3 ⟨Nat.le_of_ble_eq_true rfl, Nat.le_of_ble_eq_true rfl⟩) hS (fun q _ h => h) (fun q h => h) (fun H1 locs1 hW1 hz1 hk1 hS => ?_)
  have hW := hW1
  refine x_ifB_eq (tgt := 23) hx hb dX4_length_6 (by decide) (fun h1 => ?_) (fun h2 => ?_)
  · replace hW := hW.th (kR_f h1)
    refine x_iconst hx hb dX4_length_23 ?_
    exact x_qI hx hb hr (kR_f (by omega)) (no1) hW (if0_1) hS dX4_length_24 hlocks
  · replace hW := hW.th (kR_t h2 rfl)
    obtain ⟨y, rfl⟩ : ∃ y : Nat, zs = (y : Int) := ⟨zs.toNat, by omega⟩
    obtain ⟨q, rfl⟩ : ∃ q : Nat, zq = (q : Int) := ⟨zq.toNat, by omega⟩
    refine lv_aload_n hx hb dX4_length_9 rfl (lv_at hl 0 rfl) ?_
    refine x_get (ci := 4) (C := RX4) (T := TX4) (N := 10) (own := RX4) (index := 7) (v := .ref (o + 1)) hx hb hts (by decide +kernel) hown hK hW.ob rfl 0 (by decide) (by decide +kernel) rfl rfl dX4_length_10 ?_
    refine lv_bipush (v := zI 8) hx hb dX4_length_13 (by decide +kernel) ?_
    refine lv_iload_n hx hb dX4_length_15 rfl (lv_at hl 1 rfl) ?_
    refine x_imul hx hb dX4_length_16 ?_
    refine lv_iload_n hx hb dX4_length_17 rfl (lv_at hl 2 rfl) ?_
    refine x_iadd hx hb dX4_length_18 ?_
    refine x_iald hx hb hK hW.le (8 * y + q) (by omega) (by omega) (by decide) dX4_length_19 ?_
    have hv3 := mN_at b (q := q) (y := y) (by omega)
    refine lv_goto (tgt := 24) hx hb dX4_length_20 (by decide) ?_
    exact x_qI hx hb hr (kR_t (by omega) rfl) (fun _ => (show ((mN b (8 * y + q) : Nat) : Int) = ((bN b q y : Nat) : Int) from by omega)) hW (if0_t) hS dX4_length_24 hlocks
set_option maxHeartbeats 4000000 in
set_option maxRecDepth 100000 in
theorem c_X4_at (l : Launch) (G : XG) (o : Nat) (b : XB) (th ov un : Int) (zs : Int) (hzs : -2147483648 ≤ zs ∧ zs < 2147483648) (zq : Int) (hzq : -2147483648 ≤ zq ∧ zq < 2147483648) (zr : Int) (hzr : -2147483648 ≤ zr ∧ zr < 2147483648) : MetQI l yX4_at wsX4_at (rmF 3 67) G o b th ov un [.ref o, .int (zI zs), .int (zI zq), .int (zI zr)] (kR ((0 ≤ zs ∧ zs < 4) ∧ (0 ≤ zq ∧ zq < 8) ∧ (1 ≤ zr ∧ zr ≤ 20)) 0) (dAt b zq.toNat zs.toNat zr) b := by
  refine Met.ofW (cc := cX4_at) (maxL := 5) (ret := (some .int)) (by decide) rfl ?_
  intro p e s m args below meth c s₁ B hml hv
  obtain ⟨rfl, hW, hi, hK⟩ := hv
  have hx := B.exec
  have hb := B.bytes
  have hr := B.returns
  have hts := atoms_spec (ws := wsX4_at) B.pre
  have hown : s.vm.findClass RX4 = some m.cls := findClass_of_methodNamed B.named
  have hlocks := B.notSynchronized
  have hl := lv_entry ([.ref o, .int (zI zs), .int (zI zq), .int (zI zr)]) (n := 5) (Nat.le_of_ble_eq_true rfl)
  rw [lg_entry_eq]
  generalize (lg_sl ([.ref o, .int (zI zs), .int (zI zq), .int (zI zr)]) ++ List.replicate (5 - (lg_sl ([.ref o, .int (zI zs), .int (zI zq), .int (zI zr)])).length) Slot.unset).toArray = ls at hl ⊢
  have hl : lv_has ls 5 [(0, .ref o), (1, .int (zI zs)), (2, .int (zI zq)), (3, .int (zI zr))] := hl
  have hS : va_S (mA o) s.heap s.heap [] := va_S.rf
  refine lv_aload_n hx hb dX4_at_0 rfl (lv_at hl 0 rfl) ?_
  refine lv_iload_n hx hb dX4_at_1 rfl (lv_at hl 1 rfl) ?_
  refine lv_iload_n hx hb dX4_at_2 rfl (lv_at hl 2 rfl) ?_
  refine lv_iload_n hx hb dX4_at_3 rfl (lv_at hl 3 rfl) ?_
  refine x_wI (va_runV (As := [.int (zI zs), .int (zI zq), .int (zI zr)]) (rest := []) ⟨hx, hb, hml, hown, hts⟩ (c_X4_isDeep l G o b th ov un zs (by omega) zq (by omega) zr (by omega)) (cwV 3 hts gX4_at_X4_isDeep rfl rfl rfl (by decide +kernel) ⟨Nat.le_of_ble_eq_true rfl, Nat.le_of_ble_eq_true rfl⟩) (x_preM hW hi hK) rfl rfl hl.1 rfl (lv_room (Nat.le_of_ble_eq_true rfl)) dX4_at_4 ⟨Nat.le_of_ble_eq_true rfl, Nat.le_of_ble_eq_true rfl⟩) hS (fun q _ h => h) (fun q h => h) (fun H1 locs1 hW1 hz1 hk1 hS => ?_)
  have hW := hW1
  refine x_ifB_ne (tgt := 12) hx hb dX4_at_7 (by decide) (fun h1 => ?_) (fun h2 => ?_)
  · replace hW := hW.th (kR_t h1 rfl)
    obtain ⟨y, rfl⟩ : ∃ y : Nat, zs = (y : Int) := ⟨zs.toNat, by omega⟩
    obtain ⟨q, rfl⟩ : ∃ q : Nat, zq = (q : Int) := ⟨zq.toNat, by omega⟩
    refine lv_bipush (v := zI 8) hx hb dX4_at_12 (by decide +kernel) ?_
    refine lv_iload_n hx hb dX4_at_14 rfl (lv_at hl 1 rfl) ?_
    refine x_imul hx hb dX4_at_15 ?_
    refine lv_iload_n hx hb dX4_at_16 rfl (lv_at hl 2 rfl) ?_
    refine x_iadd hx hb dX4_at_17 ?_
    refine lv_istore (lv' := [(4, .int (zI ((8 * (y : Int)) + (q : Int)))), (0, .ref o), (1, .int (zI (y : Int))), (2, .int (zI (q : Int))), (3, .int (zI zr))]) hx hb dX4_at_18 hl (by decide) rfl (fun ls hl => ?_)
    refine lv_iload_n hx hb dX4_at_20 rfl (lv_at hl 4 rfl) ?_
    refine lv_aload_n hx hb dX4_at_21 rfl (lv_at hl 1 rfl) ?_
    refine x_get (ci := 4) (C := RX4) (T := TX4) (N := 10) (own := RX4) (index := 7) (v := .ref (o + 1)) hx hb hts (by decide +kernel) hown hK hW.ob rfl 0 (by decide) (by decide +kernel) rfl rfl dX4_at_22 ?_
    refine lv_iload hx hb dX4_at_25 (lv_at hl 0 rfl) ?_
    refine x_iald hx hb hK hW.le (8 * y + q) (by omega) (by omega) (by decide) dX4_at_27 ?_
    have hv3 := mN_at b (q := q) (y := y) (by omega)
    have hn20 := hi.n q y
    refine x_icmp_le (tgt := 35) hx hb dX4_at_28 (by decide) (by omega) (fun h4 => ?_) (fun h5 => ?_)
    · refine lv_aload_n hx hb dX4_at_35 rfl (lv_at hl 1 rfl) ?_
      refine x_get (ci := 4) (C := RX4) (T := TX4) (N := 10) (own := RX4) (index := 13) (v := .ref (o + 2)) hx hb hts (by decide +kernel) hown hK hW.ob rfl 1 (by decide) (by decide +kernel) rfl rfl dX4_at_36 ?_
      refine lv_bipush (v := zI 20) hx hb dX4_at_39 (by decide +kernel) ?_
      refine lv_iload hx hb dX4_at_41 (lv_at hl 0 rfl) ?_
      refine x_imul hx hb dX4_at_43 ?_
      refine lv_iload_n hx hb dX4_at_44 rfl (lv_at hl 4 rfl) ?_
      refine x_iadd hx hb dX4_at_45 ?_
      refine x_iconst hx hb dX4_at_46 ?_
      refine x_isub hx hb dX4_at_47 ?_
      refine x_iald hx hb hK hW.ro (20 * (8 * y + q) + (zr.toNat - 1)) (by omega) (by omega) (by decide) dX4_at_48 ?_
      have hv6 := mR_at hi (b := b) (q := q) (y := y) (k := (zr.toNat - 1)) (by omega) (by omega)
      refine lv_bipush (v := zI 64) hx hb dX4_at_49 (by decide +kernel) ?_
      refine x_irem hx hb (by omega) (by omega) dX4_at_51 ?_
      exact x_qI hx hb hr (kR_t (by omega) rfl) (fun _ => (show ((mR b (20 * (8 * y + q) + (zr.toNat - 1)) : Nat) : Int) % 64 = dAt b q y zr from by rw [dAt, if_pos (by omega)]; omega)) hW (if0_t) hS dX4_at_52 hlocks
    · refine x_iconst hx hb dX4_at_31 ?_
      refine lv_goto (tgt := 52) hx hb dX4_at_32 (by decide) ?_
      exact x_qI hx hb hr (kR_t (by omega) rfl) (fun _ => (show (-1 : Int) = dAt b q y zr from (dAt_no b q y zr (by omega)).symm)) hW (if0_t) hS dX4_at_52 hlocks
  · replace hW := hW.th (kR_f h2)
    refine x_iconst hx hb dX4_at_10 ?_
    exact x_qI hx hb hr (kR_f (by omega)) (no1) hW (if0_1) hS dX4_at_11 hlocks
set_option maxHeartbeats 4000000 in
set_option maxRecDepth 100000 in
theorem c_X4_judge (l : Launch) (G : XG) (o : Nat) (b : XB) (th ov un : Int) (zq : Int) (hzq : -2147483648 ≤ zq ∧ zq < 2147483648) (zd : Int) (hzd : -2147483648 ≤ zd ∧ zd < 2147483648) (zj : Int) (hzj : -2147483648 ≤ zj ∧ zj < 2147483648) : MetQI l yX4_judge wsX4_judge (rmF 1 22) G o b th ov un [.ref o, .int (zI zq), .int (zI zd), .int (zI zj)] (kR ((0 ≤ zq ∧ zq < 8) ∧ (0 ≤ zd ∧ zd < 40) ∧ (0 ≤ zj ∧ zj ≤ 2)) 0) (bJ b zq.toNat zd.toNat : Int) (uJ b zq.toNat zd.toNat zj.toNat) := by
  refine Met.ofW (cc := cX4_judge) (maxL := 5) (ret := (some .int)) (by decide) rfl ?_
  intro p e s m args below meth c s₁ B hml hv
  obtain ⟨rfl, hW, hi, hK⟩ := hv
  have hx := B.exec
  have hb := B.bytes
  have hr := B.returns
  have hts := atoms_spec (ws := wsX4_judge) B.pre
  have hown : s.vm.findClass RX4 = some m.cls := findClass_of_methodNamed B.named
  have hlocks := B.notSynchronized
  have hl := lv_entry ([.ref o, .int (zI zq), .int (zI zd), .int (zI zj)]) (n := 5) (Nat.le_of_ble_eq_true rfl)
  rw [lg_entry_eq]
  generalize (lg_sl ([.ref o, .int (zI zq), .int (zI zd), .int (zI zj)]) ++ List.replicate (5 - (lg_sl ([.ref o, .int (zI zq), .int (zI zd), .int (zI zj)])).length) Slot.unset).toArray = ls at hl ⊢
  have hl : lv_has ls 5 [(0, .ref o), (1, .int (zI zq)), (2, .int (zI zd)), (3, .int (zI zj))] := hl
  have hS : va_S (mA o) s.heap s.heap [] := va_S.rf
  refine lv_aload_n hx hb dX4_judge_0 rfl (lv_at hl 0 rfl) ?_
  refine lv_iload_n hx hb dX4_judge_1 rfl (lv_at hl 1 rfl) ?_
  refine x_iconst hx hb dX4_judge_2 ?_
  refine lv_bipush (v := zI 7) hx hb dX4_judge_3 (by decide +kernel) ?_
  refine x_cI (va_runS (As := [.int (zI zq), .int (zI 0), .int (zI 7)]) (rest := [.ref o]) ⟨hx, hb, hml, hown, hts⟩ (c_X4_in l zq (by omega) 0 (by omega) 7 (by omega)) (va_cwS 3 hts gX4_judge_X4_in rfl rfl rfl (by decide +kernel) ⟨Nat.le_of_ble_eq_true rfl, Nat.le_of_ble_eq_true rfl⟩) x_preS rfl rfl hl.1 rfl (lv_room (Nat.le_of_ble_eq_true rfl)) dX4_judge_5 ⟨Nat.le_of_ble_eq_true rfl, Nat.le_of_ble_eq_true rfl⟩) ?_
  refine x_ifB_eq (tgt := 34) hx hb dX4_judge_8 (by decide) (fun h1 => ?_) (fun h2 => ?_)
  · refine x_iconst hx hb dX4_judge_34 ?_
    refine x_put (ci := 4) (C := RX4) (T := TX4) (N := 10) (own := RX4) (index := 28) hx hb hts (by decide +kernel) tyX4 tyX4_ok nmX4 hown hK hW.ob hS ⟨by omega, by omega⟩ rfl 9 (by decide) (by decide +kernel) rfl rfl rfl rfl (Nat.le_of_ble_eq_true rfl) dX4_judge_35 (fun H1 locs1 h1 hz1 hn1 hS => ?_)
    have hW := hW.putO h1 hn1
    refine lv_aload_n hx hb dX4_judge_38 rfl (lv_at hl 0 rfl) ?_
    refine x_get (ci := 4) (C := RX4) (T := TX4) (N := 10) (own := RX4) (index := 28) (v := .int (zI 1)) hx hb hts (by decide +kernel) hown hK hW.ob rfl 9 (by decide) (by decide +kernel) rfl rfl dX4_judge_39 ?_
    refine x_if_le (tgt := 47) hx hb dX4_judge_42 (by decide) (by omega) (fun h3 => ?_) (fun h4 => ?_)
    · exact absurd h3 (by omega)
    · refine x_iconst hx hb dX4_judge_45 ?_
      exact x_qI hx hb hr (kR_f (by omega)) (no1) hW (if0_1) hS dX4_judge_46 hlocks
  · refine lv_iload_n hx hb dX4_judge_11 rfl (lv_at hl 2 rfl) ?_
    refine x_iconst hx hb dX4_judge_12 ?_
    refine lv_bipush (v := zI 39) hx hb dX4_judge_13 (by decide +kernel) ?_
    refine x_cI (va_runS (As := [.int (zI zd), .int (zI 0), .int (zI 39)]) (rest := [.ref o]) ⟨hx, hb, hml, hown, hts⟩ (c_X4_in l zd (by omega) 0 (by omega) 39 (by omega)) (va_cwS 3 hts gX4_judge_X4_in rfl rfl rfl (by decide +kernel) ⟨Nat.le_of_ble_eq_true rfl, Nat.le_of_ble_eq_true rfl⟩) x_preS rfl rfl hl.1 rfl (lv_room (Nat.le_of_ble_eq_true rfl)) dX4_judge_15 ⟨Nat.le_of_ble_eq_true rfl, Nat.le_of_ble_eq_true rfl⟩) ?_
    refine x_ifB_eq (tgt := 34) hx hb dX4_judge_18 (by decide) (fun h5 => ?_) (fun h6 => ?_)
    · refine x_iconst hx hb dX4_judge_34 ?_
      refine x_put (ci := 4) (C := RX4) (T := TX4) (N := 10) (own := RX4) (index := 28) hx hb hts (by decide +kernel) tyX4 tyX4_ok nmX4 hown hK hW.ob hS ⟨by omega, by omega⟩ rfl 9 (by decide) (by decide +kernel) rfl rfl rfl rfl (Nat.le_of_ble_eq_true rfl) dX4_judge_35 (fun H1 locs1 h1 hz1 hn1 hS => ?_)
      have hW := hW.putO h1 hn1
      refine lv_aload_n hx hb dX4_judge_38 rfl (lv_at hl 0 rfl) ?_
      refine x_get (ci := 4) (C := RX4) (T := TX4) (N := 10) (own := RX4) (index := 28) (v := .int (zI 1)) hx hb hts (by decide +kernel) hown hK hW.ob rfl 9 (by decide) (by decide +kernel) rfl rfl dX4_judge_39 ?_
      refine x_if_le (tgt := 47) hx hb dX4_judge_42 (by decide) (by omega) (fun h7 => ?_) (fun h8 => ?_)
      · exact absurd h7 (by omega)
      · refine x_iconst hx hb dX4_judge_45 ?_
        exact x_qI hx hb hr (kR_f (by omega)) (no1) hW (if0_1) hS dX4_judge_46 hlocks
    · refine lv_iload_n hx hb dX4_judge_21 rfl (lv_at hl 3 rfl) ?_
      refine x_iconst hx hb dX4_judge_22 ?_
      refine x_iconst hx hb dX4_judge_23 ?_
      refine x_cI (va_runS (As := [.int (zI zj), .int (zI 0), .int (zI 2)]) (rest := [.ref o]) ⟨hx, hb, hml, hown, hts⟩ (c_X4_in l zj (by omega) 0 (by omega) 2 (by omega)) (va_cwS 3 hts gX4_judge_X4_in rfl rfl rfl (by decide +kernel) ⟨Nat.le_of_ble_eq_true rfl, Nat.le_of_ble_eq_true rfl⟩) x_preS rfl rfl hl.1 rfl (lv_room (Nat.le_of_ble_eq_true rfl)) dX4_judge_24 ⟨Nat.le_of_ble_eq_true rfl, Nat.le_of_ble_eq_true rfl⟩) ?_
      refine x_ifB_eq (tgt := 34) hx hb dX4_judge_27 (by decide) (fun h9 => ?_) (fun h10 => ?_)
      · refine x_iconst hx hb dX4_judge_34 ?_
        refine x_put (ci := 4) (C := RX4) (T := TX4) (N := 10) (own := RX4) (index := 28) hx hb hts (by decide +kernel) tyX4 tyX4_ok nmX4 hown hK hW.ob hS ⟨by omega, by omega⟩ rfl 9 (by decide) (by decide +kernel) rfl rfl rfl rfl (Nat.le_of_ble_eq_true rfl) dX4_judge_35 (fun H1 locs1 h1 hz1 hn1 hS => ?_)
        have hW := hW.putO h1 hn1
        refine lv_aload_n hx hb dX4_judge_38 rfl (lv_at hl 0 rfl) ?_
        refine x_get (ci := 4) (C := RX4) (T := TX4) (N := 10) (own := RX4) (index := 28) (v := .int (zI 1)) hx hb hts (by decide +kernel) hown hK hW.ob rfl 9 (by decide) (by decide +kernel) rfl rfl dX4_judge_39 ?_
        refine x_if_le (tgt := 47) hx hb dX4_judge_42 (by decide) (by omega) (fun h11 => ?_) (fun h12 => ?_)
        · exact absurd h11 (by omega)
        · refine x_iconst hx hb dX4_judge_45 ?_
          exact x_qI hx hb hr (kR_f (by omega)) (no1) hW (if0_1) hS dX4_judge_46 hlocks
      · refine x_iconst hx hb dX4_judge_30 ?_
        refine lv_goto (tgt := 35) hx hb dX4_judge_31 (by decide) ?_
        refine x_put (ci := 4) (C := RX4) (T := TX4) (N := 10) (own := RX4) (index := 28) hx hb hts (by decide +kernel) tyX4 tyX4_ok nmX4 hown hK hW.ob hS ⟨by omega, by omega⟩ rfl 9 (by decide) (by decide +kernel) rfl rfl rfl rfl (Nat.le_of_ble_eq_true rfl) dX4_judge_35 (fun H1 locs1 h1 hz1 hn1 hS => ?_)
        have hW := hW.putO h1 hn1
        refine lv_aload_n hx hb dX4_judge_38 rfl (lv_at hl 0 rfl) ?_
        refine x_get (ci := 4) (C := RX4) (T := TX4) (N := 10) (own := RX4) (index := 28) (v := .int (zI 0)) hx hb hts (by decide +kernel) hown hK hW.ob rfl 9 (by decide) (by decide +kernel) rfl rfl dX4_judge_39 ?_
        refine x_if_le (tgt := 47) hx hb dX4_judge_42 (by decide) (by omega) (fun h13 => ?_) (fun h14 => ?_)
        · obtain ⟨q, rfl⟩ : ∃ q : Nat, zq = (q : Int) := ⟨zq.toNat, by omega⟩
          obtain ⟨d, rfl⟩ : ∃ d : Nat, zd = (d : Int) := ⟨zd.toNat, by omega⟩
          obtain ⟨j0, rfl⟩ : ∃ j0 : Nat, zj = (j0 : Int) := ⟨zj.toNat, by omega⟩
          refine lv_aload_n hx hb dX4_judge_47 rfl (lv_at hl 0 rfl) ?_
          refine x_get (ci := 4) (C := RX4) (T := TX4) (N := 10) (own := RX4) (index := 16) (v := .ref (o + 3)) hx hb hts (by decide +kernel) hown hK hW.ob rfl 2 (by decide) (by decide +kernel) rfl rfl dX4_judge_48 ?_
          refine lv_bipush (v := zI 40) hx hb dX4_judge_51 (by decide +kernel) ?_
          refine lv_iload_n hx hb dX4_judge_53 rfl (lv_at hl 1 rfl) ?_
          refine x_imul hx hb dX4_judge_54 ?_
          refine lv_iload_n hx hb dX4_judge_55 rfl (lv_at hl 2 rfl) ?_
          refine x_iadd hx hb dX4_judge_56 ?_
          refine x_iald hx hb hK hW.ju (40 * q + d) (by omega) (by omega) (by decide) dX4_judge_57 ?_
          have hv15 := mJ_at hi (b := b) (q := q) (d := d) (by omega)
          refine lv_istore (lv' := [(4, .int (zI (mJ b (40 * q + d) : Int))), (0, .ref o), (1, .int (zI (q : Int))), (2, .int (zI (d : Int))), (3, .int (zI (j0 : Int)))]) hx hb dX4_judge_58 hl (by decide) rfl (fun ls hl => ?_)
          refine lv_aload_n hx hb dX4_judge_60 rfl (lv_at hl 1 rfl) ?_
          refine x_get (ci := 4) (C := RX4) (T := TX4) (N := 10) (own := RX4) (index := 16) (v := .ref (o + 3)) hx hb hts (by decide +kernel) hown hK hW.ob rfl 2 (by decide) (by decide +kernel) rfl rfl dX4_judge_61 ?_
          refine lv_bipush (v := zI 40) hx hb dX4_judge_64 (by decide +kernel) ?_
          refine lv_iload_n hx hb dX4_judge_66 rfl (lv_at hl 2 rfl) ?_
          refine x_imul hx hb dX4_judge_67 ?_
          refine lv_iload_n hx hb dX4_judge_68 rfl (lv_at hl 3 rfl) ?_
          refine x_iadd hx hb dX4_judge_69 ?_
          refine lv_iload_n hx hb dX4_judge_70 rfl (lv_at hl 4 rfl) ?_
          refine x_iast hx hb hK hW.ju hS ⟨by omega, by omega⟩ (40 * q + d) (by omega) (by omega) (by decide) dX4_judge_71 (fun H1 locs1 h1 hz1 hn1 hS => ?_)
          have hW := hW.putJ (q := q) (d := d) (v := j0) (by omega) (by omega) h1 hn1
          refine lv_iload hx hb dX4_judge_72 (lv_at hl 0 rfl) ?_
          exact x_qI hx hb hr (kR_t (by omega) rfl) (fun _ => (show ((mJ b (40 * q + d) : Nat) : Int) = ((bJ b q d : Nat) : Int) from by omega)) hW (if0_t) hS dX4_judge_74 hlocks
        · exact absurd h14 (by omega)
