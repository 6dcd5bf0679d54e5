theorem rpZ_bd {b : XB} (hi : bInv b) (q y : Nat) : 0 ≤ rpZ b q y ∧ rpZ b q y ≤ 20 * (232792560 * 184756) := by
  unfold rpZ
  split
  · rename_i h
    have hn := hi.n q y
    have hg := g_rng h
    exact rp_bd (by omega) (by omega) (by omega)
  · omega
theorem rwZ_bd {b : XB} (hi : bInv b) (q y : Nat) : 1 ≤ rwZ b q y ∧ rwZ b q y ≤ 232792560 * 184756 := by
  unfold rwZ
  split
  · rename_i h
    have hn := hi.n q y
    have hg := g_rng h
    have hs := subI_bd (d := gE b q y - gA b q y - gR b q y) (k := gR b q y) (by omega)
    omega
  · omega
theorem shP_bd {b : XB} (hi : bInv b) (y : Nat) (de : Int) : 0 ≤ shP b y de ∧ shP b y de ≤ 8 * (20 * 232792560) := sh_bd hi y de (Nat.le_refl _)
theorem swZ_bd {b : XB} {y : Nat} {de : Int} (hd : 1 ≤ de ∧ de ≤ 20) : 1 ≤ swZ b y de ∧ swZ b y de ≤ 232792560 * 20 * 8 := by
  have hf := frN_le b y
  unfold swZ
  split
  · omega
  · have h1 : 232792560 * de * 1 ≤ 232792560 * de * (frN b y : Int) := Int.mul_le_mul_of_nonneg_left (by omega) (by omega)
    have h2 : 232792560 * de * (frN b y : Int) ≤ 232792560 * de * 8 := Int.mul_le_mul_of_nonneg_left (by omega) (by omega)
    omega
set_option maxHeartbeats 4000000 in
set_option maxRecDepth 100000 in
theorem c_X3_precisionNumerator (l : Launch) (hfl : l.stackTraces = false) (G : XG) (o lo : Nat) (hlo : lo ≤ o) (b : XB) (lim : Int) (dif : Nat → Int) (zs : Int) (hzs : -2147483648 ≤ zs ∧ zs < 2147483648) (zq : Int) (hzq : -2147483648 ≤ zq ∧ zq < 2147483648) (zr : Int) (hzr : -2147483648 ≤ zr ∧ zr < 2147483648) : MetPL l yX3_precisionNumerator wsX3_precisionNumerator (rmP 7 102) (TPc G o lo b lim dif [.ref o, .int (zI zs), .int (zI zq), .int (zI zr)]) (kR ((0 ≤ zs ∧ zs < 4) ∧ (0 ≤ zq ∧ zq < 8) ∧ (1 ≤ zr ∧ zr ≤ 20)) 0) (redN (mhZ b zq.toNat zs.toNat zr).toNat (232792560 * zr).toNat : Int) (BX G o b) (xA o) := by
  refine vx_ofW (cc := cX3_precisionNumerator) (maxL := 4) (ret := (some .long)) (by decide) rfl ?_
  intro p e s m args below meth c s₁ B hml ht9 hv
  obtain ⟨rfl, hW, hi, hK, hT⟩ := hv
  have hx := B.exec
  have hb := B.bytes
  have hr := B.returns
  have hts := atoms_spec (ws := wsX3_precisionNumerator) B.pre
  have hown : s.vm.findClass RX3 = some m.cls := findClass_of_methodNamed B.named
  have hlocks := B.notSynchronized
  have hl := lv_entry ([.ref o, .int (zI zs), .int (zI zq), .int (zI zr)]) (n := 4) (Nat.le_of_ble_eq_true rfl)
  rw [lg_entry_eq]
  generalize (lg_sl ([.ref o, .int (zI zs), .int (zI zq), .int (zI zr)]) ++ List.replicate (4 - (lg_sl ([.ref o, .int (zI zs), .int (zI zq), .int (zI zr)])).length) Slot.unset).toArray = ls at hl ⊢
  have hl : lv_has ls 4 [(0, .ref o), (1, .int (zI zs)), (2, .int (zI zq)), (3, .int (zI zr))] := hl
  have hS : va_S (xA o) s.heap s.heap [] := va_S.rf
  have hF : NF s.heap s.heap := NF.rf
  have hAl : ∀ q, xA o q → lo ≤ q := fun q h => Nat.le_trans hlo h.1
  have hll := hi.l
  refine lv_iload_n hx hb dX3_precisionNumerator_0 rfl (lv_at hl 1 rfl) ?_
  refine vx_callv (vx_runS (As := [.int (zI zs)]) (rest := []) ⟨hx, hb, hml, hown, hts⟩ (c_X3_requireSystem l hfl lo zs (by omega)) (va_cwS 1 hts gX3_precisionNumerator_X3_requireSystem rfl rfl rfl (by decide +kernel) ⟨Nat.le_of_ble_eq_true rfl, Nat.le_of_ble_eq_true rfl⟩) ⟨x_blindS, fun U hU hW' => ⟨rfl, hT.to hS hAl hW' hU⟩⟩ rfl rfl hl.1 rfl (lv_room (Nat.le_of_ble_eq_true rfl)) dX3_precisionNumerator_1 ⟨Nat.le_of_ble_eq_true rfl, Nat.le_of_ble_eq_true rfl⟩) hS (fun q _ h => h.elim) (fun q h => h.elim) (fun q _ h => h.elim) (fun E ce q9 u t H1 locs1 ht hv9 hp9 hB9 hz9 hk9 hS hc1 hc2 hc3 => ?_) (fun u t H1 locs1 ht hv9 hp9 hB9 hz9 hk9 hS => ?_)
  · have hp9 : ¬ (0 ≤ zs ∧ zs < 4) := hp9
    exact vx_out (fun x hx9 => (ht9 x hx9).elim) hlocks hc1 hc2 hc3 (fun t9 ht99 hv99 => ⟨(), trivial, Or.inl ⟨hB9, kR_f (by omega)⟩, (hF.go hz9 (fun q hq => hk9 q hq (fun h => h))).F ht99⟩) hS.2.2 (by decide) (by decide)
  have hp1 : 0 ≤ zs ∧ zs < 4 := hp9
  have hW := hW.kept (fun a h1 h2 => hk9 a (by have := hW.lt; omega) (fun h => h))
  have hF := hF.go hz9 (fun q hq => hk9 q hq (fun h => h))
  refine lv_iload_n hx hb dX3_precisionNumerator_4 rfl (lv_at hl 2 rfl) ?_
  refine vx_callv (vx_runS (As := [.int (zI zq)]) (rest := []) ⟨hx, hb, hml, hown, hts⟩ (c_X3_requireQuestion l hfl lo zq (by omega)) (va_cwS 1 hts gX3_precisionNumerator_X3_requireQuestion rfl rfl rfl (by decide +kernel) ⟨Nat.le_of_ble_eq_true rfl, Nat.le_of_ble_eq_true rfl⟩) ⟨x_blindS, fun U hU hW' => ⟨rfl, hT.to hS hAl hW' hU⟩⟩ rfl rfl hl.1 rfl (lv_room (Nat.le_of_ble_eq_true rfl)) dX3_precisionNumerator_5 ⟨Nat.le_of_ble_eq_true rfl, Nat.le_of_ble_eq_true rfl⟩) hS (fun q _ h => h.elim) (fun q h => h.elim) (fun q _ h => h.elim) (fun E ce q9 u t H1 locs1 ht hv9 hp9 hB9 hz9 hk9 hS hc1 hc2 hc3 => ?_) (fun u t H1 locs1 ht hv9 hp9 hB9 hz9 hk9 hS => ?_)
  · have hp9 : ¬ (0 ≤ zq ∧ zq < 8) := hp9
    exact vx_out (fun x hx9 => (ht9 x hx9).elim) hlocks hc1 hc2 hc3 (fun t9 ht99 hv99 => ⟨(), trivial, Or.inl ⟨hB9, kR_f (by omega)⟩, (hF.go hz9 (fun q hq => hk9 q hq (fun h => h))).F ht99⟩) hS.2.2 (by decide) (by decide)
  have hp2 : 0 ≤ zq ∧ zq < 8 := hp9
  have hW := hW.kept (fun a h1 h2 => hk9 a (by have := hW.lt; omega) (fun h => h))
  have hF := hF.go hz9 (fun q hq => hk9 q hq (fun h => h))
  refine lv_iload_n hx hb dX3_precisionNumerator_8 rfl (lv_at hl 3 rfl) ?_
  refine vx_callv (vx_runS (As := [.int (zI zr)]) (rest := []) ⟨hx, hb, hml, hown, hts⟩ (c_X3_requireOneToTwenty l hfl lo zr (by omega)) (va_cwS 1 hts gX3_precisionNumerator_X3_requireOneToTwenty rfl rfl rfl (by decide +kernel) ⟨Nat.le_of_ble_eq_true rfl, Nat.le_of_ble_eq_true rfl⟩) ⟨x_blindS, fun U hU hW' => ⟨rfl, hT.to hS hAl hW' hU⟩⟩ rfl rfl hl.1 rfl (lv_room (Nat.le_of_ble_eq_true rfl)) dX3_precisionNumerator_9 ⟨Nat.le_of_ble_eq_true rfl, Nat.le_of_ble_eq_true rfl⟩) hS (fun q _ h => h.elim) (fun q h => h.elim) (fun q _ h => h.elim) (fun E ce q9 u t H1 locs1 ht hv9 hp9 hB9 hz9 hk9 hS hc1 hc2 hc3 => ?_) (fun u t H1 locs1 ht hv9 hp9 hB9 hz9 hk9 hS => ?_)
  · have hp9 : ¬ (1 ≤ zr ∧ zr ≤ 20) := hp9
    exact vx_out (fun x hx9 => (ht9 x hx9).elim) hlocks hc1 hc2 hc3 (fun t9 ht99 hv99 => ⟨(), trivial, Or.inl ⟨hB9, kR_f (by omega)⟩, (hF.go hz9 (fun q hq => hk9 q hq (fun h => h))).F ht99⟩) hS.2.2 (by decide) (by decide)
  have hp3 : 1 ≤ zr ∧ zr ≤ 20 := hp9
  have hW := hW.kept (fun a h1 h2 => hk9 a (by have := hW.lt; omega) (fun h => h))
  have hF := hF.go hz9 (fun q hq => hk9 q hq (fun h => h))
  obtain ⟨y, rfl⟩ : ∃ y : Nat, zs = (y : Int) := ⟨zs.toNat, by omega⟩
  obtain ⟨q, rfl⟩ : ∃ q : Nat, zq = (q : Int) := ⟨zq.toNat, by omega⟩
  refine lv_aload_n hx hb dX3_precisionNumerator_12 rfl (lv_at hl 0 rfl) ?_
  refine x_get (ci := 3) (C := RX3) (T := TX3) (N := 3) (own := RX3) (index := 11) (v := .ref (o + 1)) hx hb hts (by decide +kernel) hown hK hW.jr rfl 0 (by decide) (by decide +kernel) rfl rfl dX3_precisionNumerator_13 ?_
  refine lv_iload_n hx hb dX3_precisionNumerator_16 rfl (lv_at hl 2 rfl) ?_
  refine x_aaldq hx hb hK hW.qs (q) (by omega) (by omega) (by decide) dX3_precisionNumerator_17 ?_
  refine lv_iload_n hx hb dX3_precisionNumerator_18 rfl (lv_at hl 1 rfl) ?_
  refine lv_iload_n hx hb dX3_precisionNumerator_19 rfl (lv_at hl 3 rfl) ?_
  refine x_cL (va_runVN (As := [.int (zI (y : Int)), .int (zI zr)]) (rest := []) ⟨hx, hb, hml, hown, hts⟩ (c_X1_meanHitParts l G o b lim dif q (by omega) y (by omega) (y : Int) zr (by omega) (by omega)) ⟨va_cnB 2 hts gX3_precisionNumerator_X1_meanHitParts_n96 rfl rfl rfl (x_nestM hK nk_RX3_96) (hts (.initialized RX1) (by decide +kernel)) (by decide +kernel) ⟨Nat.le_of_ble_eq_true rfl, Nat.le_of_ble_eq_true rfl⟩, hts (.instanceMethod yX1_meanHitParts) (by decide +kernel), hts (.selects RX1 yX1_meanHitParts yX1_meanHitParts) (by decide +kernel)⟩ (x_preV hW hi hK (hW.q (q := q) (by omega)) (ci := 1) (q := (RX1, TX1, 2)) rfl) rfl rfl hl.1 rfl (lv_room (Nat.le_of_ble_eq_true rfl)) dX3_precisionNumerator_20 ⟨Nat.le_of_ble_eq_true rfl, Nat.le_of_ble_eq_true rfl⟩) ?_
  refine lv_ldc2 (v := lI 232792560) hx hb hown (by rw [show lI 232792560 = (232792560 : Int64) from by decide +kernel]; exact hts (.constantLong RX3 100 232792560) (by decide +kernel)) dX3_precisionNumerator_23 ?_
  refine lv_iload_n hx hb dX3_precisionNumerator_26 rfl (lv_at hl 3 rfl) ?_
  refine x_i2l hx hb (by omega) dX3_precisionNumerator_27 ?_
  refine x_lmul hx hb dX3_precisionNumerator_28 ?_
  have hmb := mhZ_bd hi q y zr
  refine x_cL (va_runS (As := [.long (lI (mhZ b q y zr)), .long (lI (232792560 * zr))]) (rest := []) ⟨hx, hb, hml, hown, hts⟩ (c_X3_reduced l (mhZ b q y zr) (232792560 * zr) ((mhZ b q y zr).toNat) ((232792560 * zr).toNat) (by omega) (by omega) (by omega) (by omega) (by omega)) (va_cwS 2 hts gX3_precisionNumerator_X3_reduced rfl rfl rfl (by decide +kernel) ⟨Nat.le_of_ble_eq_true rfl, Nat.le_of_ble_eq_true rfl⟩) x_preS rfl rfl hl.1 rfl (lv_room (Nat.le_of_ble_eq_true rfl)) dX3_precisionNumerator_29 ⟨Nat.le_of_ble_eq_true rfl, Nat.le_of_ble_eq_true rfl⟩) ?_
  refine W.widen (k := 8) (n := 48) (by decide) (by decide) (vx_ret ?_)
  exact W.lret hx hb hr (fun t ht _ => ⟨⟨_, (), rfl, ⟨kR_t (by omega) rfl, congrArg lI (rfl)⟩, _, ht, ⟨_, _, hW⟩⟩, hS.F ht⟩) hS.2.2 dX3_precisionNumerator_32
set_option maxHeartbeats 4000000 in
set_option maxRecDepth 100000 in
theorem c_X3_precisionDenominator (l : Launch) (hfl : l.stackTraces = false) (G : XG) (o lo : Nat) (hlo : lo ≤ o) (b : XB) (lim : Int) (dif : Nat → Int) (zs : Int) (hzs : -2147483648 ≤ zs ∧ zs < 2147483648) (zq : Int) (hzq : -2147483648 ≤ zq ∧ zq < 2147483648) (zr : Int) (hzr : -2147483648 ≤ zr ∧ zr < 2147483648) : MetPL l yX3_precisionDenominator wsX3_precisionDenominator (rmP 7 102) (TPc G o lo b lim dif [.ref o, .int (zI zs), .int (zI zq), .int (zI zr)]) (kR ((0 ≤ zs ∧ zs < 4) ∧ (0 ≤ zq ∧ zq < 8) ∧ (1 ≤ zr ∧ zr ≤ 20)) 0) (redN (232792560 * zr).toNat (mhZ b zq.toNat zs.toNat zr).toNat : Int) (BX G o b) (xA o) := by
  refine vx_ofW (cc := cX3_precisionDenominator) (maxL := 4) (ret := (some .long)) (by decide) rfl ?_
  intro p e s m args below meth c s₁ B hml ht9 hv
  obtain ⟨rfl, hW, hi, hK, hT⟩ := hv
  have hx := B.exec
  have hb := B.bytes
  have hr := B.returns
  have hts := atoms_spec (ws := wsX3_precisionDenominator) B.pre
  have hown : s.vm.findClass RX3 = some m.cls := findClass_of_methodNamed B.named
  have hlocks := B.notSynchronized
  have hl := lv_entry ([.ref o, .int (zI zs), .int (zI zq), .int (zI zr)]) (n := 4) (Nat.le_of_ble_eq_true rfl)
  rw [lg_entry_eq]
  generalize (lg_sl ([.ref o, .int (zI zs), .int (zI zq), .int (zI zr)]) ++ List.replicate (4 - (lg_sl ([.ref o, .int (zI zs), .int (zI zq), .int (zI zr)])).length) Slot.unset).toArray = ls at hl ⊢
  have hl : lv_has ls 4 [(0, .ref o), (1, .int (zI zs)), (2, .int (zI zq)), (3, .int (zI zr))] := hl
  have hS : va_S (xA o) s.heap s.heap [] := va_S.rf
  have hF : NF s.heap s.heap := NF.rf
  have hAl : ∀ q, xA o q → lo ≤ q := fun q h => Nat.le_trans hlo h.1
  have hll := hi.l
  refine lv_iload_n hx hb dX3_precisionDenominator_0 rfl (lv_at hl 1 rfl) ?_
  refine vx_callv (vx_runS (As := [.int (zI zs)]) (rest := []) ⟨hx, hb, hml, hown, hts⟩ (c_X3_requireSystem l hfl lo zs (by omega)) (va_cwS 1 hts gX3_precisionDenominator_X3_requireSystem rfl rfl rfl (by decide +kernel) ⟨Nat.le_of_ble_eq_true rfl, Nat.le_of_ble_eq_true rfl⟩) ⟨x_blindS, fun U hU hW' => ⟨rfl, hT.to hS hAl hW' hU⟩⟩ rfl rfl hl.1 rfl (lv_room (Nat.le_of_ble_eq_true rfl)) dX3_precisionDenominator_1 ⟨Nat.le_of_ble_eq_true rfl, Nat.le_of_ble_eq_true rfl⟩) hS (fun q _ h => h.elim) (fun q h => h.elim) (fun q _ h => h.elim) (fun E ce q9 u t H1 locs1 ht hv9 hp9 hB9 hz9 hk9 hS hc1 hc2 hc3 => ?_) (fun u t H1 locs1 ht hv9 hp9 hB9 hz9 hk9 hS => ?_)
  · have hp9 : ¬ (0 ≤ zs ∧ zs < 4) := hp9
    exact vx_out (fun x hx9 => (ht9 x hx9).elim) hlocks hc1 hc2 hc3 (fun t9 ht99 hv99 => ⟨(), trivial, Or.inl ⟨hB9, kR_f (by omega)⟩, (hF.go hz9 (fun q hq => hk9 q hq (fun h => h))).F ht99⟩) hS.2.2 (by decide) (by decide)
  have hp1 : 0 ≤ zs ∧ zs < 4 := hp9
  have hW := hW.kept (fun a h1 h2 => hk9 a (by have := hW.lt; omega) (fun h => h))
  have hF := hF.go hz9 (fun q hq => hk9 q hq (fun h => h))
  refine lv_iload_n hx hb dX3_precisionDenominator_4 rfl (lv_at hl 2 rfl) ?_
  refine vx_callv (vx_runS (As := [.int (zI zq)]) (rest := []) ⟨hx, hb, hml, hown, hts⟩ (c_X3_requireQuestion l hfl lo zq (by omega)) (va_cwS 1 hts gX3_precisionDenominator_X3_requireQuestion rfl rfl rfl (by decide +kernel) ⟨Nat.le_of_ble_eq_true rfl, Nat.le_of_ble_eq_true rfl⟩) ⟨x_blindS, fun U hU hW' => ⟨rfl, hT.to hS hAl hW' hU⟩⟩ rfl rfl hl.1 rfl (lv_room (Nat.le_of_ble_eq_true rfl)) dX3_precisionDenominator_5 ⟨Nat.le_of_ble_eq_true rfl, Nat.le_of_ble_eq_true rfl⟩) hS (fun q _ h => h.elim) (fun q h => h.elim) (fun q _ h => h.elim) (fun E ce q9 u t H1 locs1 ht hv9 hp9 hB9 hz9 hk9 hS hc1 hc2 hc3 => ?_) (fun u t H1 locs1 ht hv9 hp9 hB9 hz9 hk9 hS => ?_)
  · have hp9 : ¬ (0 ≤ zq ∧ zq < 8) := hp9
    exact vx_out (fun x hx9 => (ht9 x hx9).elim) hlocks hc1 hc2 hc3 (fun t9 ht99 hv99 => ⟨(), trivial, Or.inl ⟨hB9, kR_f (by omega)⟩, (hF.go hz9 (fun q hq => hk9 q hq (fun h => h))).F ht99⟩) hS.2.2 (by decide) (by decide)
  have hp2 : 0 ≤ zq ∧ zq < 8 := hp9
  have hW := hW.kept (fun a h1 h2 => hk9 a (by have := hW.lt; omega) (fun h => h))
  have hF := hF.go hz9 (fun q hq => hk9 q hq (fun h => h))
  refine lv_iload_n hx hb dX3_precisionDenominator_8 rfl (lv_at hl 3 rfl) ?_
  refine vx_callv (vx_runS (As := [.int (zI zr)]) (rest := []) ⟨hx, hb, hml, hown, hts⟩ (c_X3_requireOneToTwenty l hfl lo zr (by omega)) (va_cwS 1 hts gX3_precisionDenominator_X3_requireOneToTwenty rfl rfl rfl (by decide +kernel) ⟨Nat.le_of_ble_eq_true rfl, Nat.le_of_ble_eq_true rfl⟩) ⟨x_blindS, fun U hU hW' => ⟨rfl, hT.to hS hAl hW' hU⟩⟩ rfl rfl hl.1 rfl (lv_room (Nat.le_of_ble_eq_true rfl)) dX3_precisionDenominator_9 ⟨Nat.le_of_ble_eq_true rfl, Nat.le_of_ble_eq_true rfl⟩) hS (fun q _ h => h.elim) (fun q h => h.elim) (fun q _ h => h.elim) (fun E ce q9 u t H1 locs1 ht hv9 hp9 hB9 hz9 hk9 hS hc1 hc2 hc3 => ?_) (fun u t H1 locs1 ht hv9 hp9 hB9 hz9 hk9 hS => ?_)
  · have hp9 : ¬ (1 ≤ zr ∧ zr ≤ 20) := hp9
    exact vx_out (fun x hx9 => (ht9 x hx9).elim) hlocks hc1 hc2 hc3 (fun t9 ht99 hv99 => ⟨(), trivial, Or.inl ⟨hB9, kR_f (by omega)⟩, (hF.go hz9 (fun q hq => hk9 q hq (fun h => h))).F ht99⟩) hS.2.2 (by decide) (by decide)
  have hp3 : 1 ≤ zr ∧ zr ≤ 20 := hp9
  have hW := hW.kept (fun a h1 h2 => hk9 a (by have := hW.lt; omega) (fun h => h))
  have hF := hF.go hz9 (fun q hq => hk9 q hq (fun h => h))
  obtain ⟨y, rfl⟩ : ∃ y : Nat, zs = (y : Int) := ⟨zs.toNat, by omega⟩
  obtain ⟨q, rfl⟩ : ∃ q : Nat, zq = (q : Int) := ⟨zq.toNat, by omega⟩
  refine lv_ldc2 (v := lI 232792560) hx hb hown (by rw [show lI 232792560 = (232792560 : Int64) from by decide +kernel]; exact hts (.constantLong RX3 100 232792560) (by decide +kernel)) dX3_precisionDenominator_12 ?_
  refine lv_iload_n hx hb dX3_precisionDenominator_15 rfl (lv_at hl 3 rfl) ?_
  refine x_i2l hx hb (by omega) dX3_precisionDenominator_16 ?_
  refine x_lmul hx hb dX3_precisionDenominator_17 ?_
  refine lv_aload_n hx hb dX3_precisionDenominator_18 rfl (lv_at hl 0 rfl) ?_
  refine x_get (ci := 3) (C := RX3) (T := TX3) (N := 3) (own := RX3) (index := 11) (v := .ref (o + 1)) hx hb hts (by decide +kernel) hown hK hW.jr rfl 0 (by decide) (by decide +kernel) rfl rfl dX3_precisionDenominator_19 ?_
  refine lv_iload_n hx hb dX3_precisionDenominator_22 rfl (lv_at hl 2 rfl) ?_
  refine x_aaldq hx hb hK hW.qs (q) (by omega) (by omega) (by decide) dX3_precisionDenominator_23 ?_
  refine lv_iload_n hx hb dX3_precisionDenominator_24 rfl (lv_at hl 1 rfl) ?_
  refine lv_iload_n hx hb dX3_precisionDenominator_25 rfl (lv_at hl 3 rfl) ?_
  refine x_cL (va_runVN (As := [.int (zI (y : Int)), .int (zI zr)]) (rest := [.long (lI (232792560 * zr))]) ⟨hx, hb, hml, hown, hts⟩ (c_X1_meanHitParts l G o b lim dif q (by omega) y (by omega) (y : Int) zr (by omega) (by omega)) ⟨va_cnB 2 hts gX3_precisionDenominator_X1_meanHitParts_n96 rfl rfl rfl (x_nestM hK nk_RX3_96) (hts (.initialized RX1) (by decide +kernel)) (by decide +kernel) ⟨Nat.le_of_ble_eq_true rfl, Nat.le_of_ble_eq_true rfl⟩, hts (.instanceMethod yX1_meanHitParts) (by decide +kernel), hts (.selects RX1 yX1_meanHitParts yX1_meanHitParts) (by decide +kernel)⟩ (x_preV hW hi hK (hW.q (q := q) (by omega)) (ci := 1) (q := (RX1, TX1, 2)) rfl) rfl rfl hl.1 rfl (lv_room (Nat.le_of_ble_eq_true rfl)) dX3_precisionDenominator_26 ⟨Nat.le_of_ble_eq_true rfl, Nat.le_of_ble_eq_true rfl⟩) ?_
  have hmb := mhZ_bd hi q y zr
  refine x_cL (va_runS (As := [.long (lI (232792560 * zr)), .long (lI (mhZ b q y zr))]) (rest := []) ⟨hx, hb, hml, hown, hts⟩ (c_X3_reduced l (232792560 * zr) (mhZ b q y zr) ((232792560 * zr).toNat) ((mhZ b q y zr).toNat) (by omega) (by omega) (by omega) (by omega) (by omega)) (va_cwS 2 hts gX3_precisionDenominator_X3_reduced rfl rfl rfl (by decide +kernel) ⟨Nat.le_of_ble_eq_true rfl, Nat.le_of_ble_eq_true rfl⟩) x_preS rfl rfl hl.1 rfl (lv_room (Nat.le_of_ble_eq_true rfl)) dX3_precisionDenominator_29 ⟨Nat.le_of_ble_eq_true rfl, Nat.le_of_ble_eq_true rfl⟩) ?_
  refine W.widen (k := 8) (n := 48) (by decide) (by decide) (vx_ret ?_)
  exact W.lret hx hb hr (fun t ht _ => ⟨⟨_, (), rfl, ⟨kR_t (by omega) rfl, congrArg lI (rfl)⟩, _, ht, ⟨_, _, hW⟩⟩, hS.F ht⟩) hS.2.2 dX3_precisionDenominator_32
set_option maxHeartbeats 4000000 in
set_option maxRecDepth 100000 in
theorem c_X3_reciprocalNumerator (l : Launch) (hfl : l.stackTraces = false) (G : XG) (o lo : Nat) (hlo : lo ≤ o) (b : XB) (lim : Int) (dif : Nat → Int) (zs : Int) (hzs : -2147483648 ≤ zs ∧ zs < 2147483648) (zq : Int) (hzq : -2147483648 ≤ zq ∧ zq < 2147483648) : MetPL l yX3_reciprocalNumerator wsX3_reciprocalNumerator (rmP 7 102) (TPc G o lo b lim dif [.ref o, .int (zI zs), .int (zI zq)]) (kR ((0 ≤ zs ∧ zs < 4) ∧ (0 ≤ zq ∧ zq < 8)) 0) (redN (rpZ b zq.toNat zs.toNat).toNat (rwZ b zq.toNat zs.toNat).toNat : Int) (BX G o b) (xA o) := by
  refine vx_ofW (cc := cX3_reciprocalNumerator) (maxL := 4) (ret := (some .long)) (by decide) rfl ?_
  intro p e s m args below meth c s₁ B hml ht9 hv
  obtain ⟨rfl, hW, hi, hK, hT⟩ := hv
  have hx := B.exec
  have hb := B.bytes
  have hr := B.returns
  have hts := atoms_spec (ws := wsX3_reciprocalNumerator) B.pre
  have hown : s.vm.findClass RX3 = some m.cls := findClass_of_methodNamed B.named
  have hlocks := B.notSynchronized
  have hl := lv_entry ([.ref o, .int (zI zs), .int (zI zq)]) (n := 4) (Nat.le_of_ble_eq_true rfl)
  rw [lg_entry_eq]
  generalize (lg_sl ([.ref o, .int (zI zs), .int (zI zq)]) ++ List.replicate (4 - (lg_sl ([.ref o, .int (zI zs), .int (zI zq)])).length) Slot.unset).toArray = ls at hl ⊢
  have hl : lv_has ls 4 [(0, .ref o), (1, .int (zI zs)), (2, .int (zI zq))] := hl
  have hS : va_S (xA o) s.heap s.heap [] := va_S.rf
  have hF : NF s.heap s.heap := NF.rf
  have hAl : ∀ q, xA o q → lo ≤ q := fun q h => Nat.le_trans hlo h.1
  have hll := hi.l
  refine lv_iload_n hx hb dX3_reciprocalNumerator_0 rfl (lv_at hl 1 rfl) ?_
  refine vx_callv (vx_runS (As := [.int (zI zs)]) (rest := []) ⟨hx, hb, hml, hown, hts⟩ (c_X3_requireSystem l hfl lo zs (by omega)) (va_cwS 1 hts gX3_reciprocalNumerator_X3_requireSystem rfl rfl rfl (by decide +kernel) ⟨Nat.le_of_ble_eq_true rfl, Nat.le_of_ble_eq_true rfl⟩) ⟨x_blindS, fun U hU hW' => ⟨rfl, hT.to hS hAl hW' hU⟩⟩ rfl rfl hl.1 rfl (lv_room (Nat.le_of_ble_eq_true rfl)) dX3_reciprocalNumerator_1 ⟨Nat.le_of_ble_eq_true rfl, Nat.le_of_ble_eq_true rfl⟩) hS (fun q _ h => h.elim) (fun q h => h.elim) (fun q _ h => h.elim) (fun E ce q9 u t H1 locs1 ht hv9 hp9 hB9 hz9 hk9 hS hc1 hc2 hc3 => ?_) (fun u t H1 locs1 ht hv9 hp9 hB9 hz9 hk9 hS => ?_)
  · have hp9 : ¬ (0 ≤ zs ∧ zs < 4) := hp9
    exact vx_out (fun x hx9 => (ht9 x hx9).elim) hlocks hc1 hc2 hc3 (fun t9 ht99 hv99 => ⟨(), trivial, Or.inl ⟨hB9, kR_f (by omega)⟩, (hF.go hz9 (fun q hq => hk9 q hq (fun h => h))).F ht99⟩) hS.2.2 (by decide) (by decide)
  have hp1 : 0 ≤ zs ∧ zs < 4 := hp9
  have hW := hW.kept (fun a h1 h2 => hk9 a (by have := hW.lt; omega) (fun h => h))
  have hF := hF.go hz9 (fun q hq => hk9 q hq (fun h => h))
  refine lv_iload_n hx hb dX3_reciprocalNumerator_4 rfl (lv_at hl 2 rfl) ?_
  refine vx_callv (vx_runS (As := [.int (zI zq)]) (rest := []) ⟨hx, hb, hml, hown, hts⟩ (c_X3_requireQuestion l hfl lo zq (by omega)) (va_cwS 1 hts gX3_reciprocalNumerator_X3_requireQuestion rfl rfl rfl (by decide +kernel) ⟨Nat.le_of_ble_eq_true rfl, Nat.le_of_ble_eq_true rfl⟩) ⟨x_blindS, fun U hU hW' => ⟨rfl, hT.to hS hAl hW' hU⟩⟩ rfl rfl hl.1 rfl (lv_room (Nat.le_of_ble_eq_true rfl)) dX3_reciprocalNumerator_5 ⟨Nat.le_of_ble_eq_true rfl, Nat.le_of_ble_eq_true rfl⟩) hS (fun q _ h => h.elim) (fun q h => h.elim) (fun q _ h => h.elim) (fun E ce q9 u t H1 locs1 ht hv9 hp9 hB9 hz9 hk9 hS hc1 hc2 hc3 => ?_) (fun u t H1 locs1 ht hv9 hp9 hB9 hz9 hk9 hS => ?_)
  · have hp9 : ¬ (0 ≤ zq ∧ zq < 8) := hp9
    exact vx_out (fun x hx9 => (ht9 x hx9).elim) hlocks hc1 hc2 hc3 (fun t9 ht99 hv99 => ⟨(), trivial, Or.inl ⟨hB9, kR_f (by omega)⟩, (hF.go hz9 (fun q hq => hk9 q hq (fun h => h))).F ht99⟩) hS.2.2 (by decide) (by decide)
  have hp2 : 0 ≤ zq ∧ zq < 8 := hp9
  have hW := hW.kept (fun a h1 h2 => hk9 a (by have := hW.lt; omega) (fun h => h))
  have hF := hF.go hz9 (fun q hq => hk9 q hq (fun h => h))
  obtain ⟨y, rfl⟩ : ∃ y : Nat, zs = (y : Int) := ⟨zs.toNat, by omega⟩
  obtain ⟨q, rfl⟩ : ∃ q : Nat, zq = (q : Int) := ⟨zq.toNat, by omega⟩
  refine lv_aload_n hx hb dX3_reciprocalNumerator_8 rfl (lv_at hl 0 rfl) ?_
  refine x_get (ci := 3) (C := RX3) (T := TX3) (N := 3) (own := RX3) (index := 11) (v := .ref (o + 1)) hx hb hts (by decide +kernel) hown hK hW.jr rfl 0 (by decide) (by decide +kernel) rfl rfl dX3_reciprocalNumerator_9 ?_
  refine lv_iload_n hx hb dX3_reciprocalNumerator_12 rfl (lv_at hl 2 rfl) ?_
  refine x_aaldq hx hb hK hW.qs (q) (by omega) (by omega) (by decide) dX3_reciprocalNumerator_13 ?_
  refine lv_astore_n (lv' := [(3, .ref (o + 2 + 15 * q)), (0, .ref o), (1, .int (zI (y : Int))), (2, .int (zI (q : Int)))]) hx hb dX3_reciprocalNumerator_14 rfl hl (by decide) rfl (fun ls hl => ?_)
  refine lv_aload_n hx hb dX3_reciprocalNumerator_15 rfl (lv_at hl 0 rfl) ?_
  refine lv_iload_n hx hb dX3_reciprocalNumerator_16 rfl (lv_at hl 2 rfl) ?_
  refine x_cL (va_runVN (As := [.int (zI (y : Int))]) (rest := []) ⟨hx, hb, hml, hown, hts⟩ (c_X1_reciprocalParts l G o b lim dif q (by omega) y (by omega) (y : Int) (by omega)) ⟨va_cnB 1 hts gX3_reciprocalNumerator_X1_reciprocalParts_n106 rfl rfl rfl (x_nestM hK nk_RX3_106) (hts (.initialized RX1) (by decide +kernel)) (by decide +kernel) ⟨Nat.le_of_ble_eq_true rfl, Nat.le_of_ble_eq_true rfl⟩, hts (.instanceMethod yX1_reciprocalParts) (by decide +kernel), hts (.selects RX1 yX1_reciprocalParts yX1_reciprocalParts) (by decide +kernel)⟩ (x_preV hW hi hK (hW.q (q := q) (by omega)) (ci := 1) (q := (RX1, TX1, 2)) rfl) rfl rfl hl.1 rfl (lv_room (Nat.le_of_ble_eq_true rfl)) dX3_reciprocalNumerator_17 ⟨Nat.le_of_ble_eq_true rfl, Nat.le_of_ble_eq_true rfl⟩) ?_
  refine lv_aload_n hx hb dX3_reciprocalNumerator_20 rfl (lv_at hl 0 rfl) ?_
  refine lv_iload_n hx hb dX3_reciprocalNumerator_21 rfl (lv_at hl 2 rfl) ?_
  refine x_cL (va_runVN (As := [.int (zI (y : Int))]) (rest := [.long (lI (rpZ b q y))]) ⟨hx, hb, hml, hown, hts⟩ (c_X1_reciprocalWhole l G o b lim dif q (by omega) y (by omega) (y : Int) (by omega)) ⟨va_cnB 1 hts gX3_reciprocalNumerator_X1_reciprocalWhole_n110 rfl rfl rfl (x_nestM hK nk_RX3_110) (hts (.initialized RX1) (by decide +kernel)) (by decide +kernel) ⟨Nat.le_of_ble_eq_true rfl, Nat.le_of_ble_eq_true rfl⟩, hts (.instanceMethod yX1_reciprocalWhole) (by decide +kernel), hts (.selects RX1 yX1_reciprocalWhole yX1_reciprocalWhole) (by decide +kernel)⟩ (x_preV hW hi hK (hW.q (q := q) (by omega)) (ci := 1) (q := (RX1, TX1, 2)) rfl) rfl rfl hl.1 rfl (lv_room (Nat.le_of_ble_eq_true rfl)) dX3_reciprocalNumerator_22 ⟨Nat.le_of_ble_eq_true rfl, Nat.le_of_ble_eq_true rfl⟩) ?_
  have hpb := rpZ_bd hi q y
  have hwb := rwZ_bd hi q y
  refine x_cL (va_runS (As := [.long (lI (rpZ b q y)), .long (lI (rwZ b q y))]) (rest := []) ⟨hx, hb, hml, hown, hts⟩ (c_X3_reduced l (rpZ b q y) (rwZ b q y) ((rpZ b q y).toNat) ((rwZ b q y).toNat) (by omega) (by omega) (by omega) (by omega) (by omega)) (va_cwS 2 hts gX3_reciprocalNumerator_X3_reduced rfl rfl rfl (by decide +kernel) ⟨Nat.le_of_ble_eq_true rfl, Nat.le_of_ble_eq_true rfl⟩) x_preS rfl rfl hl.1 rfl (lv_room (Nat.le_of_ble_eq_true rfl)) dX3_reciprocalNumerator_25 ⟨Nat.le_of_ble_eq_true rfl, Nat.le_of_ble_eq_true rfl⟩) ?_
  refine W.widen (k := 8) (n := 48) (by decide) (by decide) (vx_ret ?_)
  exact W.lret hx hb hr (fun t ht _ => ⟨⟨_, (), rfl, ⟨kR_t (by omega) rfl, congrArg lI (rfl)⟩, _, ht, ⟨_, _, hW⟩⟩, hS.F ht⟩) hS.2.2 dX3_reciprocalNumerator_28
set_option maxHeartbeats 4000000 in
set_option maxRecDepth 100000 in
theorem c_X3_reciprocalDenominator (l : Launch) (hfl : l.stackTraces = false) (G : XG) (o lo : Nat) (hlo : lo ≤ o) (b : XB) (lim : Int) (dif : Nat → Int) (zs : Int) (hzs : -2147483648 ≤ zs ∧ zs < 2147483648) (zq : Int) (hzq : -2147483648 ≤ zq ∧ zq < 2147483648) : MetPL l yX3_reciprocalDenominator wsX3_reciprocalDenominator (rmP 7 102) (TPc G o lo b lim dif [.ref o, .int (zI zs), .int (zI zq)]) (kR ((0 ≤ zs ∧ zs < 4) ∧ (0 ≤ zq ∧ zq < 8)) 0) (redN (rwZ b zq.toNat zs.toNat).toNat (rpZ b zq.toNat zs.toNat).toNat : Int) (BX G o b) (xA o) := by
  refine vx_ofW (cc := cX3_reciprocalDenominator) (maxL := 4) (ret := (some .long)) (by decide) rfl ?_
  intro p e s m args below meth c s₁ B hml ht9 hv
  obtain ⟨rfl, hW, hi, hK, hT⟩ := hv
  have hx := B.exec
  have hb := B.bytes
  have hr := B.returns
  have hts := atoms_spec (ws := wsX3_reciprocalDenominator) B.pre
  have hown : s.vm.findClass RX3 = some m.cls := findClass_of_methodNamed B.named
  have hlocks := B.notSynchronized
  have hl := lv_entry ([.ref o, .int (zI zs), .int (zI zq)]) (n := 4) (Nat.le_of_ble_eq_true rfl)
  rw [lg_entry_eq]
  generalize (lg_sl ([.ref o, .int (zI zs), .int (zI zq)]) ++ List.replicate (4 - (lg_sl ([.ref o, .int (zI zs), .int (zI zq)])).length) Slot.unset).toArray = ls at hl ⊢
  have hl : lv_has ls 4 [(0, .ref o), (1, .int (zI zs)), (2, .int (zI zq))] := hl
  have hS : va_S (xA o) s.heap s.heap [] := va_S.rf
  have hF : NF s.heap s.heap := NF.rf
  have hAl : ∀ q, xA o q → lo ≤ q := fun q h => Nat.le_trans hlo h.1
  have hll := hi.l
  refine lv_iload_n hx hb dX3_reciprocalDenominator_0 rfl (lv_at hl 1 rfl) ?_
  refine vx_callv (vx_runS (As := [.int (zI zs)]) (rest := []) ⟨hx, hb, hml, hown, hts⟩ (c_X3_requireSystem l hfl lo zs (by omega)) (va_cwS 1 hts gX3_reciprocalDenominator_X3_requireSystem rfl rfl rfl (by decide +kernel) ⟨Nat.le_of_ble_eq_true rfl, Nat.le_of_ble_eq_true rfl⟩) ⟨x_blindS, fun U hU hW' => ⟨rfl, hT.to hS hAl hW' hU⟩⟩ rfl rfl hl.1 rfl (lv_room (Nat.le_of_ble_eq_true rfl)) dX3_reciprocalDenominator_1 ⟨Nat.le_of_ble_eq_true rfl, Nat.le_of_ble_eq_true rfl⟩) hS (fun q _ h => h.elim) (fun q h => h.elim) (fun q _ h => h.elim) (fun E ce q9 u t H1 locs1 ht hv9 hp9 hB9 hz9 hk9 hS hc1 hc2 hc3 => ?_) (fun u t H1 locs1 ht hv9 hp9 hB9 hz9 hk9 hS => ?_)
  · have hp9 : ¬ (0 ≤ zs ∧ zs < 4) := hp9
    exact vx_out (fun x hx9 => (ht9 x hx9).elim) hlocks hc1 hc2 hc3 (fun t9 ht99 hv99 => ⟨(), trivial, Or.inl ⟨hB9, kR_f (by omega)⟩, (hF.go hz9 (fun q hq => hk9 q hq (fun h => h))).F ht99⟩) hS.2.2 (by decide) (by decide)
  have hp1 : 0 ≤ zs ∧ zs < 4 := hp9
  have hW := hW.kept (fun a h1 h2 => hk9 a (by have := hW.lt; omega) (fun h => h))
  have hF := hF.go hz9 (fun q hq => hk9 q hq (fun h => h))
  refine lv_iload_n hx hb dX3_reciprocalDenominator_4 rfl (lv_at hl 2 rfl) ?_
  refine vx_callv (vx_runS (As := [.int (zI zq)]) (rest := []) ⟨hx, hb, hml, hown, hts⟩ (c_X3_requireQuestion l hfl lo zq (by omega)) (va_cwS 1 hts gX3_reciprocalDenominator_X3_requireQuestion rfl rfl rfl (by decide +kernel) ⟨Nat.le_of_ble_eq_true rfl, Nat.le_of_ble_eq_true rfl⟩) ⟨x_blindS, fun U hU hW' => ⟨rfl, hT.to hS hAl hW' hU⟩⟩ rfl rfl hl.1 rfl (lv_room (Nat.le_of_ble_eq_true rfl)) dX3_reciprocalDenominator_5 ⟨Nat.le_of_ble_eq_true rfl, Nat.le_of_ble_eq_true rfl⟩) hS (fun q _ h => h.elim) (fun q h => h.elim) (fun q _ h => h.elim) (fun E ce q9 u t H1 locs1 ht hv9 hp9 hB9 hz9 hk9 hS hc1 hc2 hc3 => ?_) (fun u t H1 locs1 ht hv9 hp9 hB9 hz9 hk9 hS => ?_)
  · have hp9 : ¬ (0 ≤ zq ∧ zq < 8) := hp9
    exact vx_out (fun x hx9 => (ht9 x hx9).elim) hlocks hc1 hc2 hc3 (fun t9 ht99 hv99 => ⟨(), trivial, Or.inl ⟨hB9, kR_f (by omega)⟩, (hF.go hz9 (fun q hq => hk9 q hq (fun h => h))).F ht99⟩) hS.2.2 (by decide) (by decide)
  have hp2 : 0 ≤ zq ∧ zq < 8 := hp9
  have hW := hW.kept (fun a h1 h2 => hk9 a (by have := hW.lt; omega) (fun h => h))
  have hF := hF.go hz9 (fun q hq => hk9 q hq (fun h => h))
  obtain ⟨y, rfl⟩ : ∃ y : Nat, zs = (y : Int) := ⟨zs.toNat, by omega⟩
  obtain ⟨q, rfl⟩ : ∃ q : Nat, zq = (q : Int) := ⟨zq.toNat, by omega⟩
  refine lv_aload_n hx hb dX3_reciprocalDenominator_8 rfl (lv_at hl 0 rfl) ?_
  refine x_get (ci := 3) (C := RX3) (T := TX3) (N := 3) (own := RX3) (index := 11) (v := .ref (o + 1)) hx hb hts (by decide +kernel) hown hK hW.jr rfl 0 (by decide) (by decide +kernel) rfl rfl dX3_reciprocalDenominator_9 ?_
  refine lv_iload_n hx hb dX3_reciprocalDenominator_12 rfl (lv_at hl 2 rfl) ?_
  refine x_aaldq hx hb hK hW.qs (q) (by omega) (by omega) (by decide) dX3_reciprocalDenominator_13 ?_
  refine lv_astore_n (lv' := [(3, .ref (o + 2 + 15 * q)), (0, .ref o), (1, .int (zI (y : Int))), (2, .int (zI (q : Int)))]) hx hb dX3_reciprocalDenominator_14 rfl hl (by decide) rfl (fun ls hl => ?_)
  refine lv_aload_n hx hb dX3_reciprocalDenominator_15 rfl (lv_at hl 0 rfl) ?_
  refine lv_iload_n hx hb dX3_reciprocalDenominator_16 rfl (lv_at hl 2 rfl) ?_
  refine x_cL (va_runVN (As := [.int (zI (y : Int))]) (rest := []) ⟨hx, hb, hml, hown, hts⟩ (c_X1_reciprocalWhole l G o b lim dif q (by omega) y (by omega) (y : Int) (by omega)) ⟨va_cnB 1 hts gX3_reciprocalDenominator_X1_reciprocalWhole_n110 rfl rfl rfl (x_nestM hK nk_RX3_110) (hts (.initialized RX1) (by decide +kernel)) (by decide +kernel) ⟨Nat.le_of_ble_eq_true rfl, Nat.le_of_ble_eq_true rfl⟩, hts (.instanceMethod yX1_reciprocalWhole) (by decide +kernel), hts (.selects RX1 yX1_reciprocalWhole yX1_reciprocalWhole) (by decide +kernel)⟩ (x_preV hW hi hK (hW.q (q := q) (by omega)) (ci := 1) (q := (RX1, TX1, 2)) rfl) rfl rfl hl.1 rfl (lv_room (Nat.le_of_ble_eq_true rfl)) dX3_reciprocalDenominator_17 ⟨Nat.le_of_ble_eq_true rfl, Nat.le_of_ble_eq_true rfl⟩) ?_
  refine lv_aload_n hx hb dX3_reciprocalDenominator_20 rfl (lv_at hl 0 rfl) ?_
  refine lv_iload_n hx hb dX3_reciprocalDenominator_21 rfl (lv_at hl 2 rfl) ?_
  refine x_cL (va_runVN (As := [.int (zI (y : Int))]) (rest := [.long (lI (rwZ b q y))]) ⟨hx, hb, hml, hown, hts⟩ (c_X1_reciprocalParts l G o b lim dif q (by omega) y (by omega) (y : Int) (by omega)) ⟨va_cnB 1 hts gX3_reciprocalDenominator_X1_reciprocalParts_n106 rfl rfl rfl (x_nestM hK nk_RX3_106) (hts (.initialized RX1) (by decide +kernel)) (by decide +kernel) ⟨Nat.le_of_ble_eq_true rfl, Nat.le_of_ble_eq_true rfl⟩, hts (.instanceMethod yX1_reciprocalParts) (by decide +kernel), hts (.selects RX1 yX1_reciprocalParts yX1_reciprocalParts) (by decide +kernel)⟩ (x_preV hW hi hK (hW.q (q := q) (by omega)) (ci := 1) (q := (RX1, TX1, 2)) rfl) rfl rfl hl.1 rfl (lv_room (Nat.le_of_ble_eq_true rfl)) dX3_reciprocalDenominator_22 ⟨Nat.le_of_ble_eq_true rfl, Nat.le_of_ble_eq_true rfl⟩) ?_
  have hpb := rpZ_bd hi q y
  have hwb := rwZ_bd hi q y
  refine x_cL (va_runS (As := [.long (lI (rwZ b q y)), .long (lI (rpZ b q y))]) (rest := []) ⟨hx, hb, hml, hown, hts⟩ (c_X3_reduced l (rwZ b q y) (rpZ b q y) ((rwZ b q y).toNat) ((rpZ b q y).toNat) (by omega) (by omega) (by omega) (by omega) (by omega)) (va_cwS 2 hts gX3_reciprocalDenominator_X3_reduced rfl rfl rfl (by decide +kernel) ⟨Nat.le_of_ble_eq_true rfl, Nat.le_of_ble_eq_true rfl⟩) x_preS rfl rfl hl.1 rfl (lv_room (Nat.le_of_ble_eq_true rfl)) dX3_reciprocalDenominator_25 ⟨Nat.le_of_ble_eq_true rfl, Nat.le_of_ble_eq_true rfl⟩) ?_
  refine W.widen (k := 8) (n := 48) (by decide) (by decide) (vx_ret ?_)
  exact W.lret hx hb hr (fun t ht _ => ⟨⟨_, (), rfl, ⟨kR_t (by omega) rfl, congrArg lI (rfl)⟩, _, ht, ⟨_, _, hW⟩⟩, hS.F ht⟩) hS.2.2 dX3_reciprocalDenominator_28
set_option maxHeartbeats 4000000 in
set_option maxRecDepth 100000 in
theorem c_X3_meanNumerator (l : Launch) (hfl : l.stackTraces = false) (G : XG) (o lo : Nat) (hlo : lo ≤ o) (b : XB) (lim : Int) (dif : Nat → Int) (zs : Int) (hzs : -2147483648 ≤ zs ∧ zs < 2147483648) (zr : Int) (hzr : -2147483648 ≤ zr ∧ zr < 2147483648) : MetPL l yX3_meanNumerator wsX3_meanNumerator (rmP 7 102) (TPc G o lo b lim dif [.ref o, .int (zI zs), .int (zI zr)]) (kR ((0 ≤ zs ∧ zs < 4) ∧ (1 ≤ zr ∧ zr ≤ 20)) 0) (redN (shP b zs.toNat zr).toNat (swZ b zs.toNat zr).toNat : Int) (BX G o b) (xA o) := by
  refine vx_ofW (cc := cX3_meanNumerator) (maxL := 3) (ret := (some .long)) (by decide) rfl ?_
  intro p e s m args below meth c s₁ B hml ht9 hv
  obtain ⟨rfl, hW, hi, hK, hT⟩ := hv
  have hx := B.exec
  have hb := B.bytes
  have hr := B.returns
  have hts := atoms_spec (ws := wsX3_meanNumerator) B.pre
  have hown : s.vm.findClass RX3 = some m.cls := findClass_of_methodNamed B.named
  have hlocks := B.notSynchronized
  have hl := lv_entry ([.ref o, .int (zI zs), .int (zI zr)]) (n := 3) (Nat.le_of_ble_eq_true rfl)
  rw [lg_entry_eq]
  generalize (lg_sl ([.ref o, .int (zI zs), .int (zI zr)]) ++ List.replicate (3 - (lg_sl ([.ref o, .int (zI zs), .int (zI zr)])).length) Slot.unset).toArray = ls at hl ⊢
  have hl : lv_has ls 3 [(0, .ref o), (1, .int (zI zs)), (2, .int (zI zr))] := hl
  have hS : va_S (xA o) s.heap s.heap [] := va_S.rf
  have hF : NF s.heap s.heap := NF.rf
  have hAl : ∀ q, xA o q → lo ≤ q := fun q h => Nat.le_trans hlo h.1
  have hll := hi.l
  refine lv_iload_n hx hb dX3_meanNumerator_0 rfl (lv_at hl 1 rfl) ?_
  refine vx_callv (vx_runS (As := [.int (zI zs)]) (rest := []) ⟨hx, hb, hml, hown, hts⟩ (c_X3_requireSystem l hfl lo zs (by omega)) (va_cwS 1 hts gX3_meanNumerator_X3_requireSystem rfl rfl rfl (by decide +kernel) ⟨Nat.le_of_ble_eq_true rfl, Nat.le_of_ble_eq_true rfl⟩) ⟨x_blindS, fun U hU hW' => ⟨rfl, hT.to hS hAl hW' hU⟩⟩ rfl rfl hl.1 rfl (lv_room (Nat.le_of_ble_eq_true rfl)) dX3_meanNumerator_1 ⟨Nat.le_of_ble_eq_true rfl, Nat.le_of_ble_eq_true rfl⟩) hS (fun q _ h => h.elim) (fun q h => h.elim) (fun q _ h => h.elim) (fun E ce q9 u t H1 locs1 ht hv9 hp9 hB9 hz9 hk9 hS hc1 hc2 hc3 => ?_) (fun u t H1 locs1 ht hv9 hp9 hB9 hz9 hk9 hS => ?_)
  · have hp9 : ¬ (0 ≤ zs ∧ zs < 4) := hp9
    exact vx_out (fun x hx9 => (ht9 x hx9).elim) hlocks hc1 hc2 hc3 (fun t9 ht99 hv99 => ⟨(), trivial, Or.inl ⟨hB9, kR_f (by omega)⟩, (hF.go hz9 (fun q hq => hk9 q hq (fun h => h))).F ht99⟩) hS.2.2 (by decide) (by decide)
  have hp1 : 0 ≤ zs ∧ zs < 4 := hp9
  have hW := hW.kept (fun a h1 h2 => hk9 a (by have := hW.lt; omega) (fun h => h))
  have hF := hF.go hz9 (fun q hq => hk9 q hq (fun h => h))
  refine lv_iload_n hx hb dX3_meanNumerator_4 rfl (lv_at hl 2 rfl) ?_
  refine vx_callv (vx_runS (As := [.int (zI zr)]) (rest := []) ⟨hx, hb, hml, hown, hts⟩ (c_X3_requireOneToTwenty l hfl lo zr (by omega)) (va_cwS 1 hts gX3_meanNumerator_X3_requireOneToTwenty rfl rfl rfl (by decide +kernel) ⟨Nat.le_of_ble_eq_true rfl, Nat.le_of_ble_eq_true rfl⟩) ⟨x_blindS, fun U hU hW' => ⟨rfl, hT.to hS hAl hW' hU⟩⟩ rfl rfl hl.1 rfl (lv_room (Nat.le_of_ble_eq_true rfl)) dX3_meanNumerator_5 ⟨Nat.le_of_ble_eq_true rfl, Nat.le_of_ble_eq_true rfl⟩) hS (fun q _ h => h.elim) (fun q h => h.elim) (fun q _ h => h.elim) (fun E ce q9 u t H1 locs1 ht hv9 hp9 hB9 hz9 hk9 hS hc1 hc2 hc3 => ?_) (fun u t H1 locs1 ht hv9 hp9 hB9 hz9 hk9 hS => ?_)
  · have hp9 : ¬ (1 ≤ zr ∧ zr ≤ 20) := hp9
    exact vx_out (fun x hx9 => (ht9 x hx9).elim) hlocks hc1 hc2 hc3 (fun t9 ht99 hv99 => ⟨(), trivial, Or.inl ⟨hB9, kR_f (by omega)⟩, (hF.go hz9 (fun q hq => hk9 q hq (fun h => h))).F ht99⟩) hS.2.2 (by decide) (by decide)
  have hp2 : 1 ≤ zr ∧ zr ≤ 20 := hp9
  have hW := hW.kept (fun a h1 h2 => hk9 a (by have := hW.lt; omega) (fun h => h))
  have hF := hF.go hz9 (fun q hq => hk9 q hq (fun h => h))
  obtain ⟨y, rfl⟩ : ∃ y : Nat, zs = (y : Int) := ⟨zs.toNat, by omega⟩
  refine lv_aload_n hx hb dX3_meanNumerator_8 rfl (lv_at hl 0 rfl) ?_
  refine lv_iload_n hx hb dX3_meanNumerator_9 rfl (lv_at hl 1 rfl) ?_
  refine lv_iload_n hx hb dX3_meanNumerator_10 rfl (lv_at hl 2 rfl) ?_
  refine x_cL (va_runV (As := [.int (zI (y : Int)), .int (zI zr)]) (rest := []) ⟨hx, hb, hml, hown, hts⟩ (c_X3_systemHitParts l G o b lim dif (y) (by omega) (y : Int) zr (by omega) (by omega)) (cwV 2 hts gX3_meanNumerator_X3_systemHitParts rfl rfl rfl (by decide +kernel) ⟨Nat.le_of_ble_eq_true rfl, Nat.le_of_ble_eq_true rfl⟩) (x_preV hW hi hK hW.jr (ci := 3) (q := (RX3, TX3, 3)) rfl) rfl rfl hl.1 rfl (lv_room (Nat.le_of_ble_eq_true rfl)) dX3_meanNumerator_11 ⟨Nat.le_of_ble_eq_true rfl, Nat.le_of_ble_eq_true rfl⟩) ?_
  refine lv_aload_n hx hb dX3_meanNumerator_14 rfl (lv_at hl 0 rfl) ?_
  refine lv_iload_n hx hb dX3_meanNumerator_15 rfl (lv_at hl 1 rfl) ?_
  refine lv_iload_n hx hb dX3_meanNumerator_16 rfl (lv_at hl 2 rfl) ?_
  refine x_cL (va_runV (As := [.int (zI (y : Int)), .int (zI zr)]) (rest := [.long (lI (shP b (y) zr))]) ⟨hx, hb, hml, hown, hts⟩ (c_X3_systemWhole l G o b lim dif (y) (by omega) (y : Int) zr (by omega) (by omega)) (cwV 2 hts gX3_meanNumerator_X3_systemWhole rfl rfl rfl (by decide +kernel) ⟨Nat.le_of_ble_eq_true rfl, Nat.le_of_ble_eq_true rfl⟩) (x_preV hW hi hK hW.jr (ci := 3) (q := (RX3, TX3, 3)) rfl) rfl rfl hl.1 rfl (lv_room (Nat.le_of_ble_eq_true rfl)) dX3_meanNumerator_17 ⟨Nat.le_of_ble_eq_true rfl, Nat.le_of_ble_eq_true rfl⟩) ?_
  have hpb := shP_bd hi y zr
  have hwb := swZ_bd (b := b) (y := y) (de := zr) (by omega)
  refine x_cL (va_runS (As := [.long (lI (shP b (y) zr)), .long (lI (swZ b (y) zr))]) (rest := []) ⟨hx, hb, hml, hown, hts⟩ (c_X3_reduced l (shP b (y) zr) (swZ b (y) zr) ((shP b y zr).toNat) ((swZ b y zr).toNat) (by omega) (by omega) (by omega) (by omega) (by omega)) (va_cwS 2 hts gX3_meanNumerator_X3_reduced rfl rfl rfl (by decide +kernel) ⟨Nat.le_of_ble_eq_true rfl, Nat.le_of_ble_eq_true rfl⟩) x_preS rfl rfl hl.1 rfl (lv_room (Nat.le_of_ble_eq_true rfl)) dX3_meanNumerator_20 ⟨Nat.le_of_ble_eq_true rfl, Nat.le_of_ble_eq_true rfl⟩) ?_
  refine W.widen (k := 8) (n := 48) (by decide) (by decide) (vx_ret ?_)
  exact W.lret hx hb hr (fun t ht _ => ⟨⟨_, (), rfl, ⟨kR_t (by omega) rfl, congrArg lI (rfl)⟩, _, ht, ⟨_, _, hW⟩⟩, hS.F ht⟩) hS.2.2 dX3_meanNumerator_23
set_option maxHeartbeats 4000000 in
set_option maxRecDepth 100000 in
theorem c_X3_meanDenominator (l : Launch) (hfl : l.stackTraces = false) (G : XG) (o lo : Nat) (hlo : lo ≤ o) (b : XB) (lim : Int) (dif : Nat → Int) (zs : Int) (hzs : -2147483648 ≤ zs ∧ zs < 2147483648) (zr : Int) (hzr : -2147483648 ≤ zr ∧ zr < 2147483648) : MetPL l yX3_meanDenominator wsX3_meanDenominator (rmP 7 102) (TPc G o lo b lim dif [.ref o, .int (zI zs), .int (zI zr)]) (kR ((0 ≤ zs ∧ zs < 4) ∧ (1 ≤ zr ∧ zr ≤ 20)) 0) (redN (swZ b zs.toNat zr).toNat (shP b zs.toNat zr).toNat : Int) (BX G o b) (xA o) := by
  refine vx_ofW (cc := cX3_meanDenominator) (maxL := 3) (ret := (some .long)) (by decide) rfl ?_
  intro p e s m args below meth c s₁ B hml ht9 hv
  obtain ⟨rfl, hW, hi, hK, hT⟩ := hv
  have hx := B.exec
  have hb := B.bytes
  have hr := B.returns
  have hts := atoms_spec (ws := wsX3_meanDenominator) B.pre
  have hown : s.vm.findClass RX3 = some m.cls := findClass_of_methodNamed B.named
  have hlocks := B.notSynchronized
  have hl := lv_entry ([.ref o, .int (zI zs), .int (zI zr)]) (n := 3) (Nat.le_of_ble_eq_true rfl)
  rw [lg_entry_eq]
  generalize (lg_sl ([.ref o, .int (zI zs), .int (zI zr)]) ++ List.replicate (3 - (lg_sl ([.ref o, .int (zI zs), .int (zI zr)])).length) Slot.unset).toArray = ls at hl ⊢
  have hl : lv_has ls 3 [(0, .ref o), (1, .int (zI zs)), (2, .int (zI zr))] := hl
  have hS : va_S (xA o) s.heap s.heap [] := va_S.rf
  have hF : NF s.heap s.heap := NF.rf
  have hAl : ∀ q, xA o q → lo ≤ q := fun q h => Nat.le_trans hlo h.1
  have hll := hi.l
  refine lv_iload_n hx hb dX3_meanDenominator_0 rfl (lv_at hl 1 rfl) ?_
  refine vx_callv (vx_runS (As := [.int (zI zs)]) (rest := []) ⟨hx, hb, hml, hown, hts⟩ (c_X3_requireSystem l hfl lo zs (by omega)) (va_cwS 1 hts gX3_meanDenominator_X3_requireSystem rfl rfl rfl (by decide +kernel) ⟨Nat.le_of_ble_eq_true rfl, Nat.le_of_ble_eq_true rfl⟩) ⟨x_blindS, fun U hU hW' => ⟨rfl, hT.to hS hAl hW' hU⟩⟩ rfl rfl hl.1 rfl (lv_room (Nat.le_of_ble_eq_true rfl)) dX3_meanDenominator_1 ⟨Nat.le_of_ble_eq_true rfl, Nat.le_of_ble_eq_true rfl⟩) hS (fun q _ h => h.elim) (fun q h => h.elim) (fun q _ h => h.elim) (fun E ce q9 u t H1 locs1 ht hv9 hp9 hB9 hz9 hk9 hS hc1 hc2 hc3 => ?_) (fun u t H1 locs1 ht hv9 hp9 hB9 hz9 hk9 hS => ?_)
  · have hp9 : ¬ (0 ≤ zs ∧ zs < 4) := hp9
    exact vx_out (fun x hx9 => (ht9 x hx9).elim) hlocks hc1 hc2 hc3 (fun t9 ht99 hv99 => ⟨(), trivial, Or.inl ⟨hB9, kR_f (by omega)⟩, (hF.go hz9 (fun q hq => hk9 q hq (fun h => h))).F ht99⟩) hS.2.2 (by decide) (by decide)
  have hp1 : 0 ≤ zs ∧ zs < 4 := hp9
  have hW := hW.kept (fun a h1 h2 => hk9 a (by have := hW.lt; omega) (fun h => h))
  have hF := hF.go hz9 (fun q hq => hk9 q hq (fun h => h))
  refine lv_iload_n hx hb dX3_meanDenominator_4 rfl (lv_at hl 2 rfl) ?_
  refine vx_callv (vx_runS (As := [.int (zI zr)]) (rest := []) ⟨hx, hb, hml, hown, hts⟩ (c_X3_requireOneToTwenty l hfl lo zr (by omega)) (va_cwS 1 hts gX3_meanDenominator_X3_requireOneToTwenty rfl rfl rfl (by decide +kernel) ⟨Nat.le_of_ble_eq_true rfl, Nat.le_of_ble_eq_true rfl⟩) ⟨x_blindS, fun U hU hW' => ⟨rfl, hT.to hS hAl hW' hU⟩⟩ rfl rfl hl.1 rfl (lv_room (Nat.le_of_ble_eq_true rfl)) dX3_meanDenominator_5 ⟨Nat.le_of_ble_eq_true rfl, Nat.le_of_ble_eq_true rfl⟩) hS (fun q _ h => h.elim) (fun q h => h.elim) (fun q _ h => h.elim) (fun E ce q9 u t H1 locs1 ht hv9 hp9 hB9 hz9 hk9 hS hc1 hc2 hc3 => ?_) (fun u t H1 locs1 ht hv9 hp9 hB9 hz9 hk9 hS => ?_)
  · have hp9 : ¬ (1 ≤ zr ∧ zr ≤ 20) := hp9
    exact vx_out (fun x hx9 => (ht9 x hx9).elim) hlocks hc1 hc2 hc3 (fun t9 ht99 hv99 => ⟨(), trivial, Or.inl ⟨hB9, kR_f (by omega)⟩, (hF.go hz9 (fun q hq => hk9 q hq (fun h => h))).F ht99⟩) hS.2.2 (by decide) (by decide)
  have hp2 : 1 ≤ zr ∧ zr ≤ 20 := hp9
  have hW := hW.kept (fun a h1 h2 => hk9 a (by have := hW.lt; omega) (fun h => h))
  have hF := hF.go hz9 (fun q hq => hk9 q hq (fun h => h))
  obtain ⟨y, rfl⟩ : ∃ y : Nat, zs = (y : Int) := ⟨zs.toNat, by omega⟩
  refine lv_aload_n hx hb dX3_meanDenominator_8 rfl (lv_at hl 0 rfl) ?_
  refine lv_iload_n hx hb dX3_meanDenominator_9 rfl (lv_at hl 1 rfl) ?_
  refine lv_iload_n hx hb dX3_meanDenominator_10 rfl (lv_at hl 2 rfl) ?_
  refine x_cL (va_runV (As := [.int (zI (y : Int)), .int (zI zr)]) (rest := []) ⟨hx, hb, hml, hown, hts⟩ (c_X3_systemWhole l G o b lim dif (y) (by omega) (y : Int) zr (by omega) (by omega)) (cwV 2 hts gX3_meanDenominator_X3_systemWhole rfl rfl rfl (by decide +kernel) ⟨Nat.le_of_ble_eq_true rfl, Nat.le_of_ble_eq_true rfl⟩) (x_preV hW hi hK hW.jr (ci := 3) (q := (RX3, TX3, 3)) rfl) rfl rfl hl.1 rfl (lv_room (Nat.le_of_ble_eq_true rfl)) dX3_meanDenominator_11 ⟨Nat.le_of_ble_eq_true rfl, Nat.le_of_ble_eq_true rfl⟩) ?_
  refine lv_aload_n hx hb dX3_meanDenominator_14 rfl (lv_at hl 0 rfl) ?_
  refine lv_iload_n hx hb dX3_meanDenominator_15 rfl (lv_at hl 1 rfl) ?_
  refine lv_iload_n hx hb dX3_meanDenominator_16 rfl (lv_at hl 2 rfl) ?_
  refine x_cL (va_runV (As := [.int (zI (y : Int)), .int (zI zr)]) (rest := [.long (lI (swZ b (y) zr))]) ⟨hx, hb, hml, hown, hts⟩ (c_X3_systemHitParts l G o b lim dif (y) (by omega) (y : Int) zr (by omega) (by omega)) (cwV 2 hts gX3_meanDenominator_X3_systemHitParts rfl rfl rfl (by decide +kernel) ⟨Nat.le_of_ble_eq_true rfl, Nat.le_of_ble_eq_true rfl⟩) (x_preV hW hi hK hW.jr (ci := 3) (q := (RX3, TX3, 3)) rfl) rfl rfl hl.1 rfl (lv_room (Nat.le_of_ble_eq_true rfl)) dX3_meanDenominator_17 ⟨Nat.le_of_ble_eq_true rfl, Nat.le_of_ble_eq_true rfl⟩) ?_
  have hpb := shP_bd hi y zr
  have hwb := swZ_bd (b := b) (y := y) (de := zr) (by omega)
  refine x_cL (va_runS (As := [.long (lI (swZ b (y) zr)), .long (lI (shP b (y) zr))]) (rest := []) ⟨hx, hb, hml, hown, hts⟩ (c_X3_reduced l (swZ b (y) zr) (shP b (y) zr) ((swZ b y zr).toNat) ((shP b y zr).toNat) (by omega) (by omega) (by omega) (by omega) (by omega)) (va_cwS 2 hts gX3_meanDenominator_X3_reduced rfl rfl rfl (by decide +kernel) ⟨Nat.le_of_ble_eq_true rfl, Nat.le_of_ble_eq_true rfl⟩) x_preS rfl rfl hl.1 rfl (lv_room (Nat.le_of_ble_eq_true rfl)) dX3_meanDenominator_20 ⟨Nat.le_of_ble_eq_true rfl, Nat.le_of_ble_eq_true rfl⟩) ?_
  refine W.widen (k := 8) (n := 48) (by decide) (by decide) (vx_ret ?_)
  exact W.lret hx hb hr (fun t ht _ => ⟨⟨_, (), rfl, ⟨kR_t (by omega) rfl, congrArg lI (rfl)⟩, _, ht, ⟨_, _, hW⟩⟩, hS.F ht⟩) hS.2.2 dX3_meanDenominator_23
/-- the best system so far, its parts, its runs -/
def bstAt (b : XB) (de : Int) : Nat → Nat × Int × Int
  | 0 => (0, 0, 1)
  | k + 1 => if (bstAt b de k).2.1 * (frN b k : Int) < shP b k de * (bstAt b de k).2.2 then (k, shP b k de, (frN b k : Int)) else bstAt b de k
theorem bst_bd {b : XB} (hi : bInv b) (de : Int) : ∀ k, (bstAt b de k).1 ≤ k ∧ (0 ≤ (bstAt b de k).2.1 ∧ (bstAt b de k).2.1 ≤ 8 * (20 * 232792560)) ∧ (0 ≤ (bstAt b de k).2.2 ∧ (bstAt b de k).2.2 ≤ 8)
  | 0 => by simp [bstAt]
  | k + 1 => by
    have h := bst_bd hi de k
    have h1 := shP_bd hi k de
    have h2 := frN_le b k
    unfold bstAt
    split
    · simp only []; omega
    · omega
theorem mul_rng {x y X : Int} (hx : 0 ≤ x ∧ x ≤ X) (hy : 0 ≤ y ∧ y ≤ 8) : 0 ≤ x * y ∧ x * y ≤ X * 8 := ⟨Int.mul_nonneg hx.1 hy.1, Int.mul_le_mul hx.2 hy.2 hy.1 (by omega)⟩
theorem bst_rng {b : XB} (hi : bInv b) (de : Int) (k : Nat) : -9223372036854775808 ≤ shP b k de * (bstAt b de k).2.2 ∧ shP b k de * (bstAt b de k).2.2 < 9223372036854775808 ∧ -9223372036854775808 ≤ (bstAt b de k).2.1 * (frN b k : Int) ∧ (bstAt b de k).2.1 * (frN b k : Int) < 9223372036854775808 := by
  have h := bst_bd hi de k
  have h2 := frN_le b k
  have a := mul_rng (shP_bd hi k de) h.2.2
  have c := mul_rng h.2.1 (y := (frN b k : Int)) (by omega)
  omega
def bestN (b : XB) (de : Int) : Nat := (bstAt b de 4).1
theorem bst_t {b : XB} {de : Int} {k : Nat} (h : 0 < cmpZ (shP b k de * (bstAt b de k).2.2) ((bstAt b de k).2.1 * (frN b k : Int))) : bstAt b de (k + 1) = (k, shP b k de, (frN b k : Int)) := if_pos (by
  have := cmpZ_le (shP b k de * (bstAt b de k).2.2) ((bstAt b de k).2.1 * (frN b k : Int))
  omega)
theorem bst_f {b : XB} {de : Int} {k : Nat} (h : cmpZ (shP b k de * (bstAt b de k).2.2) ((bstAt b de k).2.1 * (frN b k : Int)) ≤ 0) : bstAt b de (k + 1) = bstAt b de k := if_neg (by
  have := cmpZ_le (shP b k de * (bstAt b de k).2.2) ((bstAt b de k).2.1 * (frN b k : Int))
  omega)
set_option maxHeartbeats 4000000 in
set_option maxRecDepth 100000 in
theorem c_X3_best (l : Launch) (hfl : l.stackTraces = false) (G : XG) (o lo : Nat) (hlo : lo ≤ o) (b : XB) (lim : Int) (dif : Nat → Int) (zr : Int) (hzr : -2147483648 ≤ zr ∧ zr < 2147483648) : MetPI l yX3_best wsX3_best (rmP 7 102) (TPc G o lo b lim dif [.ref o, .int (zI zr)]) (kR (1 ≤ zr ∧ zr ≤ 20) 0) (bestN b zr : Int) (BX G o b) (xA o) := by
  refine vx_ofW (cc := cX3_best) (maxL := 12) (ret := (some .int)) (by decide) rfl ?_
  intro p e s m args below meth c s₁ B hml ht9 hv
  obtain ⟨rfl, hW, hi, hK, hT⟩ := hv
  have hx := B.exec
  have hb := B.bytes
  have hr := B.returns
  have hts := atoms_spec (ws := wsX3_best) B.pre
  have hown : s.vm.findClass RX3 = some m.cls := findClass_of_methodNamed B.named
  have hlocks := B.notSynchronized
  have hl := lv_entry ([.ref o, .int (zI zr)]) (n := 12) (Nat.le_of_ble_eq_true rfl)
  rw [lg_entry_eq]
  generalize (lg_sl ([.ref o, .int (zI zr)]) ++ List.replicate (12 - (lg_sl ([.ref o, .int (zI zr)])).length) Slot.unset).toArray = ls at hl ⊢
  have hl : lv_has ls 12 [(0, .ref o), (1, .int (zI zr))] := hl
  have hS : va_S (xA o) s.heap s.heap [] := va_S.rf
  have hF : NF s.heap s.heap := NF.rf
  have hAl : ∀ q, xA o q → lo ≤ q := fun q h => Nat.le_trans hlo h.1
  have hll := hi.l
  refine lv_iload_n hx hb dX3_best_0 rfl (lv_at hl 1 rfl) ?_
  refine vx_callv (vx_runS (As := [.int (zI zr)]) (rest := []) ⟨hx, hb, hml, hown, hts⟩ (c_X3_requireOneToTwenty l hfl lo zr (by omega)) (va_cwS 1 hts gX3_best_X3_requireOneToTwenty rfl rfl rfl (by decide +kernel) ⟨Nat.le_of_ble_eq_true rfl, Nat.le_of_ble_eq_true rfl⟩) ⟨x_blindS, fun U hU hW' => ⟨rfl, hT.to hS hAl hW' hU⟩⟩ rfl rfl hl.1 rfl (lv_room (Nat.le_of_ble_eq_true rfl)) dX3_best_1 ⟨Nat.le_of_ble_eq_true rfl, Nat.le_of_ble_eq_true rfl⟩) hS (fun q _ h => h.elim) (fun q h => h.elim) (fun q _ h => h.elim) (fun E ce q9 u t H1 locs1 ht hv9 hp9 hB9 hz9 hk9 hS hc1 hc2 hc3 => ?_) (fun u t H1 locs1 ht hv9 hp9 hB9 hz9 hk9 hS => ?_)
  · have hp9 : ¬ (1 ≤ zr ∧ zr ≤ 20) := hp9
    exact vx_out (fun x hx9 => (ht9 x hx9).elim) hlocks hc1 hc2 hc3 (fun t9 ht99 hv99 => ⟨(), trivial, Or.inl ⟨hB9, kR_f (by omega)⟩, (hF.go hz9 (fun q hq => hk9 q hq (fun h => h))).F ht99⟩) hS.2.2 (by decide) (by decide)
  have hp1 : 1 ≤ zr ∧ zr ≤ 20 := hp9
  have hW := hW.kept (fun a h1 h2 => hk9 a (by have := hW.lt; omega) (fun h => h))
  have hF := hF.go hz9 (fun q hq => hk9 q hq (fun h => h))
  refine x_iconst hx hb dX3_best_4 ?_
  refine lv_istore_n (lv' := [(2, .int (zI 0)), (0, .ref o), (1, .int (zI zr))]) hx hb dX3_best_5 rfl hl (by decide) rfl (fun ls hl => ?_)
  refine lv_lconst (v := lI 0) hx hb dX3_best_6 (by decide +kernel) ?_
  refine lv_lstore_n (lv' := [(3, .long (lI 0)), (2, .int (zI 0)), (0, .ref o), (1, .int (zI zr))]) hx hb dX3_best_7 rfl hl (by decide) rfl (fun ls hl => ?_)
  refine lv_lconst (v := lI 1) hx hb dX3_best_8 (by decide +kernel) ?_
  refine lv_lstore (lv' := [(5, .long (lI 1)), (3, .long (lI 0)), (2, .int (zI 0)), (0, .ref o), (1, .int (zI zr))]) hx hb dX3_best_9 hl (by decide) rfl (fun ls hl => ?_)
  refine x_iconst hx hb dX3_best_11 ?_
  refine lv_istore (lv' := [(7, .int (zI 0)), (5, .long (lI 1)), (3, .long (lI 0)), (2, .int (zI 0)), (0, .ref o), (1, .int (zI zr))]) hx hb dX3_best_12 hl (by decide) rfl (fun ls hl => ?_)
  refine x_loop1 (fun (k : Nat) => (k ≤ 4)) (fun (k : Nat) => 4 - k) (fun (k : Nat) => [(7, .int (zI (k : Int))), (2, .int (zI ((bstAt b zr k).1 : Int))), (3, .long (lI (bstAt b zr k).2.1)), (5, .long (lI (bstAt b zr k).2.2)), (0, .ref o), (1, .int (zI zr))]) (0) (show ((0) ≤ 4) from (Nat.zero_le _)) (show lv_has ls 12 [(7, .int (zI ((0) : Int))), (2, .int (zI ((bstAt b zr (0)).1 : Int))), (3, .long (lI (bstAt b zr (0)).2.1)), (5, .long (lI (bstAt b zr (0)).2.2)), (0, .ref o), (1, .int (zI zr))] from (lv_cons (x_at (lv_at hl 0 rfl) (by omega)) (lv_cons (x_at (lv_at hl 3 rfl) (rfl)) (lv_cons (x_atL (lv_at hl 2 rfl) (rfl)) (lv_cons (x_atL (lv_at hl 1 rfl) (rfl)) (lv_cons (lv_at hl 4 rfl) (lv_cons (lv_at hl 5 rfl) (lv_nil hl)))))))) (fun k ls hI14 hl ih14 => ?_)
  have hk : k ≤ 4 := hI14
  have hl : lv_has ls 12 [(7, .int (zI (k : Int))), (2, .int (zI ((bstAt b zr k).1 : Int))), (3, .long (lI (bstAt b zr k).2.1)), (5, .long (lI (bstAt b zr k).2.2)), (0, .ref o), (1, .int (zI zr))] := hl
  have hfr9 := frN_le b k
  refine lv_iload hx hb dX3_best_14 (lv_at hl 0 rfl) ?_
  refine x_iconst hx hb dX3_best_16 ?_
  refine x_icmp_ge (tgt := 67) hx hb dX3_best_17 (by decide) (by omega) (fun h2 => ?_) (fun h3 => ?_)
  · refine lv_iload_n hx hb dX3_best_67 rfl (lv_at hl 1 rfl) ?_
    refine W.widen (k := 8) (n := 48) (by decide) (by decide) (vx_ret ?_)
    exact W.iret hx hb hr (fun t ht _ => ⟨⟨_, (), rfl, ⟨kR_t (by omega) rfl, congrArg zI (by rw [show k = 4 from by omega]; rfl)⟩, _, ht, ⟨_, _, hW⟩⟩, hS.F ht⟩) hS.2.2 dX3_best_68
  · refine lv_aload_n hx hb dX3_best_20 rfl (lv_at hl 4 rfl) ?_
    refine lv_iload hx hb dX3_best_21 (lv_at hl 0 rfl) ?_
    refine lv_iload_n hx hb dX3_best_23 rfl (lv_at hl 5 rfl) ?_
    refine x_cL (va_runV (As := [.int (zI (k : Int)), .int (zI zr)]) (rest := []) ⟨hx, hb, hml, hown, hts⟩ (c_X3_systemHitParts l G o b lim dif (k) (by omega) (k : Int) zr (by omega) (by omega)) (cwV 2 hts gX3_best_X3_systemHitParts rfl rfl rfl (by decide +kernel) ⟨Nat.le_of_ble_eq_true rfl, Nat.le_of_ble_eq_true rfl⟩) (x_preV hW hi hK hW.jr (ci := 3) (q := (RX3, TX3, 3)) rfl) rfl rfl hl.1 rfl (lv_room (Nat.le_of_ble_eq_true rfl)) dX3_best_24 ⟨Nat.le_of_ble_eq_true rfl, Nat.le_of_ble_eq_true rfl⟩) ?_
    refine lv_lstore (lv' := [(8, .long (lI (shP b (k) zr))), (7, .int (zI (k : Int))), (2, .int (zI ((bstAt b zr k).1 : Int))), (3, .long (lI (bstAt b zr k).2.1)), (5, .long (lI (bstAt b zr k).2.2)), (0, .ref o), (1, .int (zI zr))]) hx hb dX3_best_27 hl (by decide) rfl (fun ls hl => ?_)
    refine lv_aload_n hx hb dX3_best_29 rfl (lv_at hl 5 rfl) ?_
    refine lv_iload hx hb dX3_best_30 (lv_at hl 1 rfl) ?_
    refine x_cI (va_runV (As := [.int (zI (k : Int))]) (rest := []) ⟨hx, hb, hml, hown, hts⟩ (c_X3_filledRuns l G o b lim dif (k) (by omega) (k : Int) (by omega)) (cwV 1 hts gX3_best_X3_filledRuns rfl rfl rfl (by decide +kernel) ⟨Nat.le_of_ble_eq_true rfl, Nat.le_of_ble_eq_true rfl⟩) (x_preV hW hi hK hW.jr (ci := 3) (q := (RX3, TX3, 3)) rfl) rfl rfl hl.1 rfl (lv_room (Nat.le_of_ble_eq_true rfl)) dX3_best_32 ⟨Nat.le_of_ble_eq_true rfl, Nat.le_of_ble_eq_true rfl⟩) ?_
    refine x_i2l hx hb (by omega) dX3_best_35 ?_
    refine lv_lstore (lv' := [(10, .long (lI (frN b (k) : Int))), (8, .long (lI (shP b (k) zr))), (7, .int (zI (k : Int))), (2, .int (zI ((bstAt b zr k).1 : Int))), (3, .long (lI (bstAt b zr k).2.1)), (5, .long (lI (bstAt b zr k).2.2)), (0, .ref o), (1, .int (zI zr))]) hx hb dX3_best_36 hl (by decide) rfl (fun ls hl => ?_)
    refine lv_lload hx hb dX3_best_38 (lv_at hl 1 rfl) ?_
    refine lv_lload hx hb dX3_best_40 (lv_at hl 5 rfl) ?_
    refine x_lmul hx hb dX3_best_42 ?_
    refine lv_lload_n hx hb dX3_best_43 rfl (lv_at hl 4 rfl) ?_
    refine lv_lload hx hb dX3_best_44 (lv_at hl 0 rfl) ?_
    refine x_lmul hx hb dX3_best_46 ?_
    refine x_lcmp hx hb (bst_rng hi zr k) dX3_best_47 ?_
    refine x_if_le (tgt := 61) hx hb dX3_best_48 (by decide) (x_cw _ _) (fun h4 => ?_) (fun h5 => ?_)
    · have HF := h4
      refine x_iinc (lv' := [(7, .int (zI ((k : Int) + 1))), (10, .long (lI (frN b (k) : Int))), (8, .long (lI (shP b (k) zr))), (2, .int (zI ((bstAt b zr k).1 : Int))), (3, .long (lI (bstAt b zr k).2.1)), (5, .long (lI (bstAt b zr k).2.2)), (0, .ref o), (1, .int (zI zr))]) (k := 2) hx hb dX3_best_61 hl rfl (by decide) rfl (fun ls hl => ?_)
      refine lv_goto (tgt := 14) hx hb dX3_best_64 (by decide) ?_
      exact ih14 (k + 1) ls (show ((k + 1) ≤ 4) from (by omega)) (show 4 - (k + 1) < 4 - k from (by omega)) (lv_cons (x_at (lv_at hl 0 rfl) (by omega)) (lv_cons (x_at (lv_at hl 3 rfl) (by rw [bst_f HF])) (lv_cons (x_atL (lv_at hl 4 rfl) (by rw [bst_f HF])) (lv_cons (x_atL (lv_at hl 5 rfl) (by rw [bst_f HF])) (lv_cons (lv_at hl 6 rfl) (lv_cons (lv_at hl 7 rfl) (lv_nil hl)))))))
    · have HT := h5
      refine lv_iload hx hb dX3_best_51 (lv_at hl 2 rfl) ?_
      refine lv_istore_n (lv' := [(2, .int (zI (k : Int))), (10, .long (lI (frN b (k) : Int))), (8, .long (lI (shP b (k) zr))), (7, .int (zI (k : Int))), (3, .long (lI (bstAt b zr k).2.1)), (5, .long (lI (bstAt b zr k).2.2)), (0, .ref o), (1, .int (zI zr))]) hx hb dX3_best_53 rfl hl (by decide) rfl (fun ls hl => ?_)
      refine lv_lload hx hb dX3_best_54 (lv_at hl 2 rfl) ?_
      refine lv_lstore_n (lv' := [(3, .long (lI (shP b (k) zr))), (2, .int (zI (k : Int))), (10, .long (lI (frN b (k) : Int))), (8, .long (lI (shP b (k) zr))), (7, .int (zI (k : Int))), (5, .long (lI (bstAt b zr k).2.2)), (0, .ref o), (1, .int (zI zr))]) hx hb dX3_best_56 rfl hl (by decide) rfl (fun ls hl => ?_)
      refine lv_lload hx hb dX3_best_57 (lv_at hl 2 rfl) ?_
      refine lv_lstore (lv' := [(5, .long (lI (frN b (k) : Int))), (3, .long (lI (shP b (k) zr))), (2, .int (zI (k : Int))), (10, .long (lI (frN b (k) : Int))), (8, .long (lI (shP b (k) zr))), (7, .int (zI (k : Int))), (0, .ref o), (1, .int (zI zr))]) hx hb dX3_best_59 hl (by decide) rfl (fun ls hl => ?_)
      refine x_iinc (lv' := [(7, .int (zI ((k : Int) + 1))), (5, .long (lI (frN b (k) : Int))), (3, .long (lI (shP b (k) zr))), (2, .int (zI (k : Int))), (10, .long (lI (frN b (k) : Int))), (8, .long (lI (shP b (k) zr))), (0, .ref o), (1, .int (zI zr))]) (k := 5) hx hb dX3_best_61 hl rfl (by decide) rfl (fun ls hl => ?_)
      refine lv_goto (tgt := 14) hx hb dX3_best_64 (by decide) ?_
      exact ih14 (k + 1) ls (show ((k + 1) ≤ 4) from (by omega)) (show 4 - (k + 1) < 4 - k from (by omega)) (lv_cons (x_at (lv_at hl 0 rfl) (by omega)) (lv_cons (x_at (lv_at hl 3 rfl) (by rw [bst_t HT])) (lv_cons (x_atL (lv_at hl 2 rfl) (by rw [bst_t HT])) (lv_cons (x_atL (lv_at hl 1 rfl) (by rw [bst_t HT])) (lv_cons (lv_at hl 6 rfl) (lv_cons (lv_at hl 7 rfl) (lv_nil hl)))))))
def kClkN (b : XB) (k : Nat) : Int := if bLC b k = 0 then 0 else 2
theorem kClkN_0 {b : XB} {k : Nat} (h : bLC b k = 0) : kClkN b k = 0 := if_pos h
theorem kClkN_2 {b : XB} {k : Nat} (h : ¬ bLC b k = 0) : kClkN b k = 2 := if_neg h
set_option maxHeartbeats 4000000 in
set_option maxRecDepth 100000 in
theorem c_X3_click (l : Launch) (hfl : l.stackTraces = false) (G : XG) (o lo : Nat) (hlo : lo ≤ o) (b : XB) (lim : Int) (dif : Nat → Int) (zr : Int) (hzr : -2147483648 ≤ zr ∧ zr < 2147483648) : MetPI l yX3_click wsX3_click (rmP 7 103) (TPc G o lo b lim dif [.ref o, .int (zI zr)]) (kR (1 ≤ zr ∧ zr ≤ (bL b : Int)) (kClkN b (zr.toNat - 1))) (bLG b (zr.toNat - 1) : Int) (BX G o (uLC b (zr.toNat - 1) 1)) (xA o) := by
  refine vx_ofW (cc := cX3_click) (maxL := 2) (ret := (some .int)) (by decide) rfl ?_
  intro p e s m args below meth c s₁ B hml ht9 hv
  obtain ⟨rfl, hW, hi, hK, hT⟩ := hv
  have hx := B.exec
  have hb := B.bytes
  have hr := B.returns
  have hts := atoms_spec (ws := wsX3_click) B.pre
  have hown : s.vm.findClass RX3 = some m.cls := findClass_of_methodNamed B.named
  have hlocks := B.notSynchronized
  have hl := lv_entry ([.ref o, .int (zI zr)]) (n := 2) (Nat.le_of_ble_eq_true rfl)
  rw [lg_entry_eq]
  generalize (lg_sl ([.ref o, .int (zI zr)]) ++ List.replicate (2 - (lg_sl ([.ref o, .int (zI zr)])).length) Slot.unset).toArray = ls at hl ⊢
  have hl : lv_has ls 2 [(0, .ref o), (1, .int (zI zr))] := hl
  have hS : va_S (xA o) s.heap s.heap [] := va_S.rf
  have hF : NF s.heap s.heap := NF.rf
  have hAl : ∀ q, xA o q → lo ≤ q := fun q h => Nat.le_trans hlo h.1
  have hll := hi.l
  refine lv_aload_n hx hb dX3_click_0 rfl (lv_at hl 0 rfl) ?_
  refine lv_iload_n hx hb dX3_click_1 rfl (lv_at hl 1 rfl) ?_
  refine vx_callv (vx_runV (As := [.int (zI zr)]) (rest := []) ⟨hx, hb, hml, hown, hts⟩ (c_X3_requireListed l hfl G o lo b lim dif zr (by omega)) (cwV 1 hts gX3_click_X3_requireListed rfl rfl rfl (by decide +kernel) ⟨Nat.le_of_ble_eq_true rfl, Nat.le_of_ble_eq_true rfl⟩) (x_preT hW hi hK hT hS hAl hW.jr (ci := 3) (q := (RX3, TX3, 3)) rfl) rfl rfl hl.1 rfl (lv_room (Nat.le_of_ble_eq_true rfl)) dX3_click_2 ⟨Nat.le_of_ble_eq_true rfl, Nat.le_of_ble_eq_true rfl⟩) hS (fun q _ h => h.elim) (fun q h => h.elim) (fun q _ h => h.elim) (fun E ce q9 u t H1 locs1 ht hv9 hp9 hB9 hz9 hk9 hS hc1 hc2 hc3 => ?_) (fun u t H1 locs1 ht hv9 hp9 hB9 hz9 hk9 hS => ?_)
  · have hp9 : ¬ (1 ≤ zr ∧ zr ≤ (bL b : Int)) := hp9
    exact vx_out (fun x hx9 => (ht9 x hx9).elim) hlocks hc1 hc2 hc3 (fun t9 ht99 hv99 => ⟨(), trivial, Or.inl ⟨hB9, kR_f (by omega)⟩, (hF.go hz9 (fun q hq => hk9 q hq (fun h => h))).F ht99⟩) hS.2.2 (by decide) (by decide)
  have hp1 : 1 ≤ zr ∧ zr ≤ (bL b : Int) := hp9
  have hW := hW.kept (fun a h1 h2 => hk9 a (by have := hW.lt; omega) (fun h => h))
  have hF := hF.go hz9 (fun q hq => hk9 q hq (fun h => h))
  obtain ⟨r, rfl⟩ : ∃ r : Nat, zr = (r : Int) := ⟨zr.toNat, by omega⟩
  refine lv_aload_n hx hb dX3_click_5 rfl (lv_at hl 0 rfl) ?_
  refine x_get (ci := 3) (C := RX3) (T := TX3) (N := 3) (own := RX3) (index := 19) (v := .ref (o + 122)) hx hb hts (by decide +kernel) hown hK hW.jr rfl 1 (by decide) (by decide +kernel) rfl rfl dX3_click_6 ?_
  refine x_getN (ci := 0) (C := RX0) (T := TX0) (N := 5) (own := RX3) (index := 138) (v := .ref (o + 125)) hx hb hts (by decide +kernel) hown hK hW.cl rfl 2 (by decide) nk_RX3_138 rfl rfl dX3_click_9 ?_
  refine lv_iload_n hx hb dX3_click_12 rfl (lv_at hl 1 rfl) ?_
  refine x_iconst hx hb dX3_click_13 ?_
  refine x_isub hx hb dX3_click_14 ?_
  refine x_zald hx hb hK hW.lc (r - 1) (by omega) (by omega) (by decide) dX3_click_15 ?_
  have hv2 := hi.lc (r - 1)
  refine x_if_eq (tgt := 29) hx hb dX3_click_16 (by decide) (by omega) (fun h3 => ?_) (fun h4 => ?_)
  · refine lv_aload_n hx hb dX3_click_29 rfl (lv_at hl 0 rfl) ?_
    refine x_get (ci := 3) (C := RX3) (T := TX3) (N := 3) (own := RX3) (index := 19) (v := .ref (o + 122)) hx hb hts (by decide +kernel) hown hK hW.jr rfl 1 (by decide) (by decide +kernel) rfl rfl dX3_click_30 ?_
    refine x_getN (ci := 0) (C := RX0) (T := TX0) (N := 5) (own := RX3) (index := 138) (v := .ref (o + 125)) hx hb hts (by decide +kernel) hown hK hW.cl rfl 2 (by decide) nk_RX3_138 rfl rfl dX3_click_33 ?_
    refine lv_iload_n hx hb dX3_click_36 rfl (lv_at hl 1 rfl) ?_
    refine x_iconst hx hb dX3_click_37 ?_
    refine x_isub hx hb dX3_click_38 ?_
    refine x_iconst hx hb dX3_click_39 ?_
    refine x_zast hx hb hK hW.lc hS ⟨by omega, by omega⟩ (r - 1) (by omega) (by omega) (by decide) (x_nar (by omega)) dX3_click_40 (fun H1 locs1 h1 hz1 hn1 hS => ?_)
    have hW := hW.putLC (k := r - 1) (v := 1) (by omega) h1 hn1
    refine lv_aload_n hx hb dX3_click_41 rfl (lv_at hl 0 rfl) ?_
    refine x_get (ci := 3) (C := RX3) (T := TX3) (N := 3) (own := RX3) (index := 19) (v := .ref (o + 122)) hx hb hts (by decide +kernel) hown hK hW.jr rfl 1 (by decide) (by decide +kernel) rfl rfl dX3_click_42 ?_
    refine x_getN (ci := 0) (C := RX0) (T := TX0) (N := 5) (own := RX3) (index := 144) (v := .ref (o + 124)) hx hb hts (by decide +kernel) hown hK hW.cl rfl 1 (by decide) nk_RX3_144 rfl rfl dX3_click_45 ?_
    refine lv_iload_n hx hb dX3_click_48 rfl (lv_at hl 1 rfl) ?_
    refine x_iconst hx hb dX3_click_49 ?_
    refine x_isub hx hb dX3_click_50 ?_
    refine x_iald hx hb hK hW.lg (r - 1) (by omega) (by omega) (by decide) dX3_click_51 ?_
    have hv5 := hi.lg (r - 1)
    refine W.widen (k := 8) (n := 48) (by decide) (by decide) (vx_ret ?_)
    exact W.iret hx hb hr (fun t ht _ => ⟨⟨_, (), rfl, ⟨kR_t (by omega) (kClkN_0 (k := r - 1) (by omega)), congrArg zI (rfl)⟩, _, ht, ⟨_, _, hW⟩⟩, hS.F ht⟩) hS.2.2 dX3_click_52
  · exact x_thrS (Ts := wsX3_click) (lo := lo) (is := 142) (text := "the document was clicked") (rest := []) hx hb hfl hml hl hown hts (by decide +kernel) (by decide +kernel) (fun w hw => by exact List.mem_cons_of_mem _ (List.mem_append_left _ (List.mem_append_right _ hw))) hT (List.mem_of_getElem? (i := 11) rfl) hS hAl dX3_click_19 dX3_click_22 dX3_click_23 dX3_click_25 dX3_click_28 ht9 ⟨by decide, by decide, by decide, by decide⟩ hlocks (fun t ha hz hk => ⟨(), trivial, Or.inr ⟨rfl, kR_t (by omega) (kClkN_2 (k := r - 1) (by omega))⟩, (hF.go hz hk).F rfl⟩) hS.2.2 (by decide) (by decide)
set_option maxHeartbeats 4000000 in
set_option maxRecDepth 100000 in
theorem c_X3_credit (l : Launch) (hfl : l.stackTraces = false) (G : XG) (o lo : Nat) (hlo : lo ≤ o) (b : XB) (lim : Int) (dif : Nat → Int) (zs : Int) (hzs : -2147483648 ≤ zs ∧ zs < 2147483648) : MetPI l yX3_credit wsX3_credit (rmP 7 102) (TPc G o lo b lim dif [.ref o, .int (zI zs)]) (kR (0 ≤ zs ∧ zs < 4) 0) (cfN b zs : Int) (BX G o b) (xA o) := by
  refine vx_ofW (cc := cX3_credit) (maxL := 2) (ret := (some .int)) (by decide) rfl ?_
  intro p e s m args below meth c s₁ B hml ht9 hv
  obtain ⟨rfl, hW, hi, hK, hT⟩ := hv
  have hx := B.exec
  have hb := B.bytes
  have hr := B.returns
  have hts := atoms_spec (ws := wsX3_credit) B.pre
  have hown : s.vm.findClass RX3 = some m.cls := findClass_of_methodNamed B.named
  have hlocks := B.notSynchronized
  have hl := lv_entry ([.ref o, .int (zI zs)]) (n := 2) (Nat.le_of_ble_eq_true rfl)
  rw [lg_entry_eq]
  generalize (lg_sl ([.ref o, .int (zI zs)]) ++ List.replicate (2 - (lg_sl ([.ref o, .int (zI zs)])).length) Slot.unset).toArray = ls at hl ⊢
  have hl : lv_has ls 2 [(0, .ref o), (1, .int (zI zs))] := hl
  have hS : va_S (xA o) s.heap s.heap [] := va_S.rf
  have hF : NF s.heap s.heap := NF.rf
  have hAl : ∀ q, xA o q → lo ≤ q := fun q h => Nat.le_trans hlo h.1
  have hll := hi.l
  refine lv_iload_n hx hb dX3_credit_0 rfl (lv_at hl 1 rfl) ?_
  refine vx_callv (vx_runS (As := [.int (zI zs)]) (rest := []) ⟨hx, hb, hml, hown, hts⟩ (c_X3_requireSystem l hfl lo zs (by omega)) (va_cwS 1 hts gX3_credit_X3_requireSystem rfl rfl rfl (by decide +kernel) ⟨Nat.le_of_ble_eq_true rfl, Nat.le_of_ble_eq_true rfl⟩) ⟨x_blindS, fun U hU hW' => ⟨rfl, hT.to hS hAl hW' hU⟩⟩ rfl rfl hl.1 rfl (lv_room (Nat.le_of_ble_eq_true rfl)) dX3_credit_1 ⟨Nat.le_of_ble_eq_true rfl, Nat.le_of_ble_eq_true rfl⟩) hS (fun q _ h => h.elim) (fun q h => h.elim) (fun q _ h => h.elim) (fun E ce q9 u t H1 locs1 ht hv9 hp9 hB9 hz9 hk9 hS hc1 hc2 hc3 => ?_) (fun u t H1 locs1 ht hv9 hp9 hB9 hz9 hk9 hS => ?_)
  · have hp9 : ¬ (0 ≤ zs ∧ zs < 4) := hp9
    exact vx_out (fun x hx9 => (ht9 x hx9).elim) hlocks hc1 hc2 hc3 (fun t9 ht99 hv99 => ⟨(), trivial, Or.inl ⟨hB9, kR_f (by omega)⟩, (hF.go hz9 (fun q hq => hk9 q hq (fun h => h))).F ht99⟩) hS.2.2 (by decide) (by decide)
  have hp1 : 0 ≤ zs ∧ zs < 4 := hp9
  have hW := hW.kept (fun a h1 h2 => hk9 a (by have := hW.lt; omega) (fun h => h))
  have hF := hF.go hz9 (fun q hq => hk9 q hq (fun h => h))
  refine lv_aload_n hx hb dX3_credit_4 rfl (lv_at hl 0 rfl) ?_
  refine x_get (ci := 3) (C := RX3) (T := TX3) (N := 3) (own := RX3) (index := 19) (v := .ref (o + 122)) hx hb hts (by decide +kernel) hown hK hW.jr rfl 1 (by decide) (by decide +kernel) rfl rfl dX3_credit_5 ?_
  refine lv_iload_n hx hb dX3_credit_8 rfl (lv_at hl 1 rfl) ?_
  refine x_cI (va_runVN (As := [.int (zI zs)]) (rest := []) ⟨hx, hb, hml, hown, hts⟩ (c_X0_clicksFor l G o b lim dif zs (by omega)) ⟨va_cnB 1 hts gX3_credit_X0_clicksFor_n147 rfl rfl rfl (x_nestM hK nk_RX3_147) (hts (.initialized RX0) (by decide +kernel)) (by decide +kernel) ⟨Nat.le_of_ble_eq_true rfl, Nat.le_of_ble_eq_true rfl⟩, hts (.instanceMethod yX0_clicksFor) (by decide +kernel), hts (.selects RX0 yX0_clicksFor yX0_clicksFor) (by decide +kernel)⟩ (x_preV hW hi hK hW.cl (ci := 0) (q := (RX0, TX0, 5)) rfl) rfl rfl hl.1 rfl (lv_room (Nat.le_of_ble_eq_true rfl)) dX3_credit_9 ⟨Nat.le_of_ble_eq_true rfl, Nat.le_of_ble_eq_true rfl⟩) ?_
  refine W.widen (k := 8) (n := 48) (by decide) (by decide) (vx_ret ?_)
  exact W.iret hx hb hr (fun t ht _ => ⟨⟨_, (), rfl, ⟨kR_t (by omega) rfl, congrArg zI (rfl)⟩, _, ht, ⟨_, _, hW⟩⟩, hS.F ht⟩) hS.2.2 dX3_credit_12
/-- the rounds of a crossing -/
def crI (b : XB) (q y1 y2 : Nat) (lim : Int) : Nat → XB
  | 0 => uL b 0
  | k + 1 => tkB (tkB (crI b q y1 y2 lim k) lim q y1 y1) lim q y2 y2
theorem crI_inv {b : XB} (hi : bInv b) {q y1 y2 : Nat} {lim : Int} (hl : lim ≤ 20) (h1 : y1 < 4) (h2 : y2 < 4) : ∀ k, bInv (crI b q y1 y2 lim k)
  | 0 => uL_inv hi (by omega)
  | k + 1 => tkB_inv (tkB_inv (crI_inv hi hl h1 h2 k) hl h1) hl h2
def crB (b : XB) (q y1 y2 : Nat) (lim : Int) : XB := crI b q y1 y2 lim lim.toNat
set_option maxHeartbeats 4000000 in
set_option maxRecDepth 100000 in
theorem c_X3_cross (l : Launch) (hfl : l.stackTraces = false) (G : XG) (o lo : Nat) (hlo : lo ≤ o) (b : XB) (lim : Int) (dif : Nat → Int) (z1 : Int) (hz1 : -2147483648 ≤ z1 ∧ z1 < 2147483648) (z2 : Int) (hz2 : -2147483648 ≤ z2 ∧ z2 < 2147483648) (zq : Int) (hzq : -2147483648 ≤ zq ∧ zq < 2147483648) (zl : Int) (hzl : -2147483648 ≤ zl ∧ zl < 2147483648) : MetPI l yX3_cross wsX3_cross (rmP 7 102) (TPc G o lo b lim dif [.ref o, .int (zI z1), .int (zI z2), .int (zI zq), .int (zI zl)]) (kR ((0 ≤ z1 ∧ z1 < 4) ∧ (0 ≤ z2 ∧ z2 < 4) ∧ (0 ≤ zq ∧ zq < 8) ∧ (1 ≤ zl ∧ zl ≤ 20) ∧ ¬ z1 = z2) 0) (bL (crB b zq.toNat z1.toNat z2.toNat zl) : Int) (BX G o (crB b zq.toNat z1.toNat z2.toNat zl)) (xA o) := by
  refine vx_ofW (cc := cX3_cross) (maxL := 7) (ret := (some .int)) (by decide) rfl ?_
  intro p e s m args below meth c s₁ B hml ht9 hv
  obtain ⟨rfl, hW, hi, hK, hT⟩ := hv
  have hx := B.exec
  have hb := B.bytes
  have hr := B.returns
  have hts := atoms_spec (ws := wsX3_cross) B.pre
  have hown : s.vm.findClass RX3 = some m.cls := findClass_of_methodNamed B.named
  have hlocks := B.notSynchronized
  have hl := lv_entry ([.ref o, .int (zI z1), .int (zI z2), .int (zI zq), .int (zI zl)]) (n := 7) (Nat.le_of_ble_eq_true rfl)
  rw [lg_entry_eq]
  generalize (lg_sl ([.ref o, .int (zI z1), .int (zI z2), .int (zI zq), .int (zI zl)]) ++ List.replicate (7 - (lg_sl ([.ref o, .int (zI z1), .int (zI z2), .int (zI zq), .int (zI zl)])).length) Slot.unset).toArray = ls at hl ⊢
  have hl : lv_has ls 7 [(0, .ref o), (1, .int (zI z1)), (2, .int (zI z2)), (3, .int (zI zq)), (4, .int (zI zl))] := hl
  have hS : va_S (xA o) s.heap s.heap [] := va_S.rf
  have hF : NF s.heap s.heap := NF.rf
  have hAl : ∀ q, xA o q → lo ≤ q := fun q h => Nat.le_trans hlo h.1
  have hll := hi.l
  refine lv_iload_n hx hb dX3_cross_0 rfl (lv_at hl 1 rfl) ?_
  refine vx_callv (vx_runS (As := [.int (zI z1)]) (rest := []) ⟨hx, hb, hml, hown, hts⟩ (c_X3_requireSystem l hfl lo z1 (by omega)) (va_cwS 1 hts gX3_cross_X3_requireSystem rfl rfl rfl (by decide +kernel) ⟨Nat.le_of_ble_eq_true rfl, Nat.le_of_ble_eq_true rfl⟩) ⟨x_blindS, fun U hU hW' => ⟨rfl, hT.to hS hAl hW' hU⟩⟩ rfl rfl hl.1 rfl (lv_room (Nat.le_of_ble_eq_true rfl)) dX3_cross_1 ⟨Nat.le_of_ble_eq_true rfl, Nat.le_of_ble_eq_true rfl⟩) hS (fun q _ h => h.elim) (fun q h => h.elim) (fun q _ h => h.elim) (fun E ce q9 u t H1 locs1 ht hv9 hp9 hB9 hz9 hk9 hS hc1 hc2 hc3 => ?_) (fun u t H1 locs1 ht hv9 hp9 hB9 hz9 hk9 hS => ?_)
  · have hp9 : ¬ (0 ≤ z1 ∧ z1 < 4) := hp9
    exact vx_out (fun x hx9 => (ht9 x hx9).elim) hlocks hc1 hc2 hc3 (fun t9 ht99 hv99 => ⟨(), trivial, Or.inl ⟨hB9, kR_f (by omega)⟩, (hF.go hz9 (fun q hq => hk9 q hq (fun h => h))).F ht99⟩) hS.2.2 (by decide) (by decide)
  have hp1 : 0 ≤ z1 ∧ z1 < 4 := hp9
  have hW := hW.kept (fun a h1 h2 => hk9 a (by have := hW.lt; omega) (fun h => h))
  have hF := hF.go hz9 (fun q hq => hk9 q hq (fun h => h))
  refine lv_iload_n hx hb dX3_cross_4 rfl (lv_at hl 2 rfl) ?_
  refine vx_callv (vx_runS (As := [.int (zI z2)]) (rest := []) ⟨hx, hb, hml, hown, hts⟩ (c_X3_requireSystem l hfl lo z2 (by omega)) (va_cwS 1 hts gX3_cross_X3_requireSystem rfl rfl rfl (by decide +kernel) ⟨Nat.le_of_ble_eq_true rfl, Nat.le_of_ble_eq_true rfl⟩) ⟨x_blindS, fun U hU hW' => ⟨rfl, hT.to hS hAl hW' hU⟩⟩ rfl rfl hl.1 rfl (lv_room (Nat.le_of_ble_eq_true rfl)) dX3_cross_5 ⟨Nat.le_of_ble_eq_true rfl, Nat.le_of_ble_eq_true rfl⟩) hS (fun q _ h => h.elim) (fun q h => h.elim) (fun q _ h => h.elim) (fun E ce q9 u t H1 locs1 ht hv9 hp9 hB9 hz9 hk9 hS hc1 hc2 hc3 => ?_) (fun u t H1 locs1 ht hv9 hp9 hB9 hz9 hk9 hS => ?_)
  · have hp9 : ¬ (0 ≤ z2 ∧ z2 < 4) := hp9
    exact vx_out (fun x hx9 => (ht9 x hx9).elim) hlocks hc1 hc2 hc3 (fun t9 ht99 hv99 => ⟨(), trivial, Or.inl ⟨hB9, kR_f (by omega)⟩, (hF.go hz9 (fun q hq => hk9 q hq (fun h => h))).F ht99⟩) hS.2.2 (by decide) (by decide)
  have hp2 : 0 ≤ z2 ∧ z2 < 4 := hp9
  have hW := hW.kept (fun a h1 h2 => hk9 a (by have := hW.lt; omega) (fun h => h))
  have hF := hF.go hz9 (fun q hq => hk9 q hq (fun h => h))
  refine lv_iload_n hx hb dX3_cross_8 rfl (lv_at hl 3 rfl) ?_
  refine vx_callv (vx_runS (As := [.int (zI zq)]) (rest := []) ⟨hx, hb, hml, hown, hts⟩ (c_X3_requireQuestion l hfl lo zq (by omega)) (va_cwS 1 hts gX3_cross_X3_requireQuestion rfl rfl rfl (by decide +kernel) ⟨Nat.le_of_ble_eq_true rfl, Nat.le_of_ble_eq_true rfl⟩) ⟨x_blindS, fun U hU hW' => ⟨rfl, hT.to hS hAl hW' hU⟩⟩ rfl rfl hl.1 rfl (lv_room (Nat.le_of_ble_eq_true rfl)) dX3_cross_9 ⟨Nat.le_of_ble_eq_true rfl, Nat.le_of_ble_eq_true rfl⟩) hS (fun q _ h => h.elim) (fun q h => h.elim) (fun q _ h => h.elim) (fun E ce q9 u t H1 locs1 ht hv9 hp9 hB9 hz9 hk9 hS hc1 hc2 hc3 => ?_) (fun u t H1 locs1 ht hv9 hp9 hB9 hz9 hk9 hS => ?_)
  · have hp9 : ¬ (0 ≤ zq ∧ zq < 8) := hp9
    exact vx_out (fun x hx9 => (ht9 x hx9).elim) hlocks hc1 hc2 hc3 (fun t9 ht99 hv99 => ⟨(), trivial, Or.inl ⟨hB9, kR_f (by omega)⟩, (hF.go hz9 (fun q hq => hk9 q hq (fun h => h))).F ht99⟩) hS.2.2 (by decide) (by decide)
  have hp3 : 0 ≤ zq ∧ zq < 8 := hp9
  have hW := hW.kept (fun a h1 h2 => hk9 a (by have := hW.lt; omega) (fun h => h))
  have hF := hF.go hz9 (fun q hq => hk9 q hq (fun h => h))
  refine lv_iload hx hb dX3_cross_12 (lv_at hl 4 rfl) ?_
  refine vx_callv (vx_runS (As := [.int (zI zl)]) (rest := []) ⟨hx, hb, hml, hown, hts⟩ (c_X3_requireOneToTwenty l hfl lo zl (by omega)) (va_cwS 1 hts gX3_cross_X3_requireOneToTwenty rfl rfl rfl (by decide +kernel) ⟨Nat.le_of_ble_eq_true rfl, Nat.le_of_ble_eq_true rfl⟩) ⟨x_blindS, fun U hU hW' => ⟨rfl, hT.to hS hAl hW' hU⟩⟩ rfl rfl hl.1 rfl (lv_room (Nat.le_of_ble_eq_true rfl)) dX3_cross_14 ⟨Nat.le_of_ble_eq_true rfl, Nat.le_of_ble_eq_true rfl⟩) hS (fun q _ h => h.elim) (fun q h => h.elim) (fun q _ h => h.elim) (fun E ce q9 u t H1 locs1 ht hv9 hp9 hB9 hz9 hk9 hS hc1 hc2 hc3 => ?_) (fun u t H1 locs1 ht hv9 hp9 hB9 hz9 hk9 hS => ?_)
  · have hp9 : ¬ (1 ≤ zl ∧ zl ≤ 20) := hp9
    exact vx_out (fun x hx9 => (ht9 x hx9).elim) hlocks hc1 hc2 hc3 (fun t9 ht99 hv99 => ⟨(), trivial, Or.inl ⟨hB9, kR_f (by omega)⟩, (hF.go hz9 (fun q hq => hk9 q hq (fun h => h))).F ht99⟩) hS.2.2 (by decide) (by decide)
  have hp4 : 1 ≤ zl ∧ zl ≤ 20 := hp9
  have hW := hW.kept (fun a h1 h2 => hk9 a (by have := hW.lt; omega) (fun h => h))
  have hF := hF.go hz9 (fun q hq => hk9 q hq (fun h => h))
  refine lv_iload_n hx hb dX3_cross_17 rfl (lv_at hl 1 rfl) ?_
  refine lv_iload_n hx hb dX3_cross_18 rfl (lv_at hl 2 rfl) ?_
  refine x_icmp_ne (tgt := 32) hx hb dX3_cross_19 (by decide) (by omega) (fun h5 => ?_) (fun h6 => ?_)
  · obtain ⟨y1, rfl⟩ : ∃ y1 : Nat, z1 = (y1 : Int) := ⟨z1.toNat, by omega⟩
    obtain ⟨y2, rfl⟩ : ∃ y2 : Nat, z2 = (y2 : Int) := ⟨z2.toNat, by omega⟩
    obtain ⟨q, rfl⟩ : ∃ q : Nat, zq = (q : Int) := ⟨zq.toNat, by omega⟩
    obtain ⟨n, rfl⟩ : ∃ n : Nat, zl = (n : Int) := ⟨zl.toNat, by omega⟩
    refine lv_aload_n hx hb dX3_cross_32 rfl (lv_at hl 0 rfl) ?_
    refine x_get (ci := 3) (C := RX3) (T := TX3) (N := 3) (own := RX3) (index := 11) (v := .ref (o + 1)) hx hb hts (by decide +kernel) hown hK hW.jr rfl 0 (by decide) (by decide +kernel) rfl rfl dX3_cross_33 ?_
    refine lv_iload_n hx hb dX3_cross_36 rfl (lv_at hl 3 rfl) ?_
    refine x_aaldq hx hb hK hW.qs (q) (by omega) (by omega) (by decide) dX3_cross_37 ?_
    refine x_getN (ci := 1) (C := RX1) (T := TX1) (N := 2) (own := RX3) (index := 44) (v := .ref (o + 2 + 15 * q + 1)) hx hb hts (by decide +kernel) hown hK (hW.q (q := q) (by omega)) rfl 0 (by decide) nk_RX3_44 rfl rfl dX3_cross_38 ?_
    refine lv_astore (lv' := [(5, .ref (o + 2 + 15 * q + 1)), (0, .ref o), (1, .int (zI (y1 : Int))), (2, .int (zI (y2 : Int))), (3, .int (zI (q : Int))), (4, .int (zI (n : Int)))]) hx hb dX3_cross_41 hl (by decide) rfl (fun ls hl => ?_)
    refine lv_aload_n hx hb dX3_cross_43 rfl (lv_at hl 1 rfl) ?_
    refine x_get (ci := 3) (C := RX3) (T := TX3) (N := 3) (own := RX3) (index := 19) (v := .ref (o + 122)) hx hb hts (by decide +kernel) hown hK hW.jr rfl 1 (by decide) (by decide +kernel) rfl rfl dX3_cross_44 ?_
    refine lv_iload hx hb dX3_cross_47 (lv_at hl 5 rfl) ?_
    refine x_wV (va_runVN (As := [.int (zI (n : Int))]) (rest := []) ⟨hx, hb, hml, hown, hts⟩ (c_X0_restart l G o b lim dif (n : Int) (by omega)) ⟨va_cnB 1 hts gX3_cross_X0_restart_n124 rfl rfl rfl (x_nestM hK nk_RX3_124) (hts (.initialized RX0) (by decide +kernel)) (by decide +kernel) ⟨Nat.le_of_ble_eq_true rfl, Nat.le_of_ble_eq_true rfl⟩, hts (.instanceMethod yX0_restart) (by decide +kernel), hts (.selects RX0 yX0_restart yX0_restart) (by decide +kernel)⟩ (x_preV hW hi hK hW.cl (ci := 0) (q := (RX0, TX0, 5)) rfl) rfl rfl hl.1 rfl (lv_room (Nat.le_of_ble_eq_true rfl)) dX3_cross_49 ⟨Nat.le_of_ble_eq_true rfl, Nat.le_of_ble_eq_true rfl⟩) hS (fun q _ h => h) (fun q h => h) (fun H1 locs1 hW1 hz1 hk1 hS => ?_)
    have hW := hW1
    refine x_iconst hx hb dX3_cross_52 ?_
    refine lv_istore (lv' := [(6, .int (zI 0)), (5, .ref (o + 2 + 15 * q + 1)), (0, .ref o), (1, .int (zI (y1 : Int))), (2, .int (zI (y2 : Int))), (3, .int (zI (q : Int))), (4, .int (zI (n : Int)))]) hx hb dX3_cross_53 hl (by decide) rfl (fun ls hl => ?_)
    refine x_loopH1 (fun (k : Nat) (H : Heap) (locs : List Loc) => (k ≤ n) ∧ (BW G o (crI b q y1 y2 (n : Int) k) (n : Int) dif H) ∧ (va_S (xA o) s.heap H locs)) (fun (k : Nat) => n - k) (fun (k : Nat) => [(6, .int (zI (k : Int))), (5, .ref (o + 2 + 15 * q + 1)), (0, .ref o), (1, .int (zI (y1 : Int))), (2, .int (zI (y2 : Int))), (3, .int (zI (q : Int))), (4, .int (zI (n : Int)))]) (0) (by exact ⟨(Nat.zero_le _), (hW), (hS)⟩) (show lv_has ls 7 [(6, .int (zI ((0) : Int))), (5, .ref (o + 2 + 15 * q + 1)), (0, .ref o), (1, .int (zI (y1 : Int))), (2, .int (zI (y2 : Int))), (3, .int (zI (q : Int))), (4, .int (zI (n : Int)))] from (lv_cons (x_at (lv_at hl 0 rfl) (by omega)) (lv_cons (lv_at hl 1 rfl) (lv_cons (lv_at hl 2 rfl) (lv_cons (lv_at hl 3 rfl) (lv_cons (lv_at hl 4 rfl) (lv_cons (lv_at hl 5 rfl) (lv_cons (lv_at hl 6 rfl) (lv_nil hl))))))))) (fun k H locs ls hI55 hl ih55 => ?_)
    obtain ⟨hk, hW, hS⟩ : (k ≤ n) ∧ (BW G o (crI b q y1 y2 (n : Int) k) (n : Int) dif H) ∧ (va_S (xA o) s.heap H locs) := hI55
    have hl : lv_has ls 7 [(6, .int (zI (k : Int))), (5, .ref (o + 2 + 15 * q + 1)), (0, .ref o), (1, .int (zI (y1 : Int))), (2, .int (zI (y2 : Int))), (3, .int (zI (q : Int))), (4, .int (zI (n : Int)))] := hl
    have hi := crI_inv hi (q := q) (y1 := y1) (y2 := y2) (lim := (n : Int)) (by omega) (by omega) (by omega) k
    have hll9 := hi.l
    refine lv_iload hx hb dX3_cross_55 (lv_at hl 0 rfl) ?_
    refine lv_iload hx hb dX3_cross_57 (lv_at hl 6 rfl) ?_
    refine x_icmp_ge (tgt := 92) hx hb dX3_cross_59 (by decide) (by omega) (fun h7 => ?_) (fun h8 => ?_)
    · refine lv_aload_n hx hb dX3_cross_92 rfl (lv_at hl 2 rfl) ?_
      refine x_get (ci := 3) (C := RX3) (T := TX3) (N := 3) (own := RX3) (index := 19) (v := .ref (o + 122)) hx hb hts (by decide +kernel) hown hK hW.jr rfl 1 (by decide) (by decide +kernel) rfl rfl dX3_cross_93 ?_
      refine x_getN (ci := 0) (C := RX0) (T := TX0) (N := 5) (own := RX3) (index := 131) (v := .int (zI (bL (crI b q y1 y2 (n : Int) k) : Int))) hx hb hts (by decide +kernel) hown hK hW.cl rfl 4 (by decide) nk_RX3_131 rfl rfl dX3_cross_96 ?_
      obtain rfl : k = n := by omega
      refine W.widen (k := 8) (n := 48) (by decide) (by decide) (vx_ret ?_)
      exact W.iret hx hb hr (fun t ht _ => ⟨⟨_, (), rfl, ⟨kR_t (by omega) rfl, congrArg zI (rfl)⟩, _, ht, ⟨_, _, hW⟩⟩, hS.F ht⟩) hS.2.2 dX3_cross_99
    · refine lv_aload_n hx hb dX3_cross_62 rfl (lv_at hl 2 rfl) ?_
      refine x_get (ci := 3) (C := RX3) (T := TX3) (N := 3) (own := RX3) (index := 19) (v := .ref (o + 122)) hx hb hts (by decide +kernel) hown hK hW.jr rfl 1 (by decide) (by decide +kernel) rfl rfl dX3_cross_63 ?_
      refine lv_aload hx hb dX3_cross_66 (lv_at hl 1 rfl) ?_
      refine lv_iload_n hx hb dX3_cross_68 rfl (lv_at hl 3 rfl) ?_
      refine x_aaldr hx hb hK (hW.rs (q := q) (by omega)) (y1) (by omega) (by omega) (by decide) dX3_cross_69 ?_
      refine lv_iload_n hx hb dX3_cross_70 rfl (lv_at hl 3 rfl) ?_
      refine x_wV (va_runVN (As := [.ref (o + 2 + 15 * q + 2 + 3 * y1), .int (zI (y1 : Int))]) (rest := []) ⟨hx, hb, hml, hown, hts⟩ (c_X0_takeFrom l G o (crI b q y1 y2 (n : Int) k) (n : Int) dif q y1 (by omega) (by omega) (y1 : Int) (y1) (by omega) (by omega) (by omega)) ⟨va_cnB 2 hts gX3_cross_X0_takeFrom_n127 rfl rfl rfl (x_nestM hK nk_RX3_127) (hts (.initialized RX0) (by decide +kernel)) (by decide +kernel) ⟨Nat.le_of_ble_eq_true rfl, Nat.le_of_ble_eq_true rfl⟩, hts (.instanceMethod yX0_takeFrom) (by decide +kernel), hts (.selects RX0 yX0_takeFrom yX0_takeFrom) (by decide +kernel)⟩ (x_preV hW hi hK hW.cl (ci := 0) (q := (RX0, TX0, 5)) rfl) rfl rfl hl.1 rfl (lv_room (Nat.le_of_ble_eq_true rfl)) dX3_cross_71 ⟨Nat.le_of_ble_eq_true rfl, Nat.le_of_ble_eq_true rfl⟩) hS (fun q _ h => h) (fun q h => h) (fun H1 locs1 hW1 hz1 hk1 hS => ?_)
      have hW := hW1
      have hi := tkB_inv (lim := (n : Int)) hi (by omega) (q := q) (y := y1) (g := y1) (by omega)
      refine lv_aload_n hx hb dX3_cross_74 rfl (lv_at hl 2 rfl) ?_
      refine x_get (ci := 3) (C := RX3) (T := TX3) (N := 3) (own := RX3) (index := 19) (v := .ref (o + 122)) hx hb hts (by decide +kernel) hown hK hW.jr rfl 1 (by decide) (by decide +kernel) rfl rfl dX3_cross_75 ?_
      refine lv_aload hx hb dX3_cross_78 (lv_at hl 1 rfl) ?_
      refine lv_iload_n hx hb dX3_cross_80 rfl (lv_at hl 4 rfl) ?_
      refine x_aaldr hx hb hK (hW.rs (q := q) (by omega)) (y2) (by omega) (by omega) (by decide) dX3_cross_81 ?_
      refine lv_iload_n hx hb dX3_cross_82 rfl (lv_at hl 4 rfl) ?_
      refine x_wV (va_runVN (As := [.ref (o + 2 + 15 * q + 2 + 3 * y2), .int (zI (y2 : Int))]) (rest := []) ⟨hx, hb, hml, hown, hts⟩ (c_X0_takeFrom l G o (tkB (crI b q y1 y2 (n : Int) k) (n : Int) q y1 y1) (n : Int) dif q y2 (by omega) (by omega) (y2 : Int) (y2) (by omega) (by omega) (by omega)) ⟨va_cnB 2 hts gX3_cross_X0_takeFrom_n127 rfl rfl rfl (x_nestM hK nk_RX3_127) (hts (.initialized RX0) (by decide +kernel)) (by decide +kernel) ⟨Nat.le_of_ble_eq_true rfl, Nat.le_of_ble_eq_true rfl⟩, hts (.instanceMethod yX0_takeFrom) (by decide +kernel), hts (.selects RX0 yX0_takeFrom yX0_takeFrom) (by decide +kernel)⟩ (x_preV hW hi hK hW.cl (ci := 0) (q := (RX0, TX0, 5)) rfl) rfl rfl hl.1 rfl (lv_room (Nat.le_of_ble_eq_true rfl)) dX3_cross_83 ⟨Nat.le_of_ble_eq_true rfl, Nat.le_of_ble_eq_true rfl⟩) hS (fun q _ h => h) (fun q h => h) (fun H1 locs1 hW1 hz1 hk1 hS => ?_)
      have hW := hW1
      have hi := tkB_inv (lim := (n : Int)) hi (by omega) (q := q) (y := y2) (g := y2) (by omega)
      refine x_iinc (lv' := [(6, .int (zI ((k : Int) + 1))), (5, .ref (o + 2 + 15 * q + 1)), (0, .ref o), (1, .int (zI (y1 : Int))), (2, .int (zI (y2 : Int))), (3, .int (zI (q : Int))), (4, .int (zI (n : Int)))]) (k := 0) hx hb dX3_cross_86 hl rfl (by decide) rfl (fun ls hl => ?_)
      refine lv_goto (tgt := 55) hx hb dX3_cross_89 (by decide) ?_
      exact ih55 (k + 1) _ _ ls (by exact ⟨(by omega), (hW), (hS)⟩) (show n - (k + 1) < n - k from (by omega)) (lv_cons (x_at (lv_at hl 0 rfl) (by omega)) (lv_cons (lv_at hl 1 rfl) (lv_cons (lv_at hl 2 rfl) (lv_cons (lv_at hl 3 rfl) (lv_cons (lv_at hl 4 rfl) (lv_cons (lv_at hl 5 rfl) (lv_cons (lv_at hl 6 rfl) (lv_nil hl))))))))
  · exact x_thrI (Ts := wsX3_cross) (lo := lo) (is := 122) (text := "both systems are the same") (rest := []) hx hb hfl hml hl hown hts (by decide +kernel) (by decide +kernel) (fun w hw => by exact List.mem_cons_of_mem _ (List.mem_append_right _ hw)) hT (List.mem_of_getElem? (i := 9) rfl) hS hAl dX3_cross_22 dX3_cross_25 dX3_cross_26 dX3_cross_28 dX3_cross_31 ht9 ⟨by decide, by decide, by decide, by decide⟩ hlocks (fun t ha hz hk => ⟨(), trivial, Or.inl ⟨rfl, kR_f (by omega)⟩, (hF.go hz hk).F rfl⟩) hS.2.2 (by decide) (by decide)
