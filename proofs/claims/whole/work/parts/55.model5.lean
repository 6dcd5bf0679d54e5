theorem cnt9_ex {P : Nat → Bool} {lo : Nat} : ∀ {n : Nat}, ¬ cnt9 P lo n = 0 → ∃ k, k < n ∧ P (lo + k) = true
  | 0, h => absurd rfl h
  | n + 1, h => by
    by_cases hp : P (lo + n) = true
    · exact ⟨n, by omega, hp⟩
    · rw [cnt9_f hp] at h
      obtain ⟨k, h1, h2⟩ := cnt9_ex h
      exact ⟨k, by omega, h2⟩
theorem rec_no {b : XB} {q y : Nat} (h : ∀ j, j < bN b q y → relP b q y j = false) : r0N b q y = bN b q y := by
  have := fst9_uniq (P := relP b q y) (i := 0) (f := bN b q y) (k := bN b q y) (Nat.zero_le _) (fun j _ hj => h j hj) (Or.inl (Nat.zero_add _).symm)
  rw [r0N, this]
theorem rec_grp {b : XB} {q y k : Nat} (hk : k < bN b q y) (hs : isSt (bS b q y) k) (hm : ∀ j, j < k → relP b q y j = false) (hr : ¬ relN b q y k (tE (bS b q y) (bN b q y) k) = 0) :
    r0N b q y < bN b q y ∧ gA b q y = k ∧ gE b q y = tE (bS b q y) (bN b q y) k ∧ gR b q y = relN b q y k (tE (bS b q y) (bN b q y) k) := by
  have r := tE_rng (bS b q y) hk
  obtain ⟨i, hi1, hi2⟩ := cnt9_ex hr
  have hlt : r0N b q y ≤ k + i := by
    rcases Nat.lt_or_ge (k + i) (r0N b q y) with h | h
    · have := fst9_all (relP b q y) (bN b q y) 0 (k + i) (Nat.zero_le _) h
      rw [this] at hi2; cases hi2
    · exact h
  have hn : r0N b q y < bN b q y := by omega
  have hge : k ≤ r0N b q y := by
    rcases Nat.lt_or_ge (r0N b q y) k with h | h
    · have := r0_rel hn
      rw [hm _ h] at this; cases this
    · exact h
  have h1 : gA b q y = k := grp_S hk hs hge (by omega)
  have h2 : gE b q y = tE (bS b q y) (bN b q y) k := grp_E (sc := bS b q y) hk hge (by omega)
  exact ⟨hn, h1, h2, by rw [gR, h1, h2]⟩
theorem rp_step (e r k j : Nat) : sum9 (rpT e r) k j + subI (e - (k + j + 1) - (r - 1)) (r - 1) * (232792560 / ((k : Int) + (j : Int) + 1)) = sum9 (rpT e r) k (j + 1) := by
  rw [sum9_s, rpT, Int.mul_comm, Int.natCast_add]
theorem red01 : (redN 0 1 : Int) = 0 ∧ (redN 1 0 : Int) = 1 := by decide +kernel
theorem rp_no {b : XB} {q y : Nat} (h : r0N b q y = bN b q y) : rpZ b q y = 0 ∧ rwZ b q y = 1 := by
  unfold rpZ rwZ
  rw [if_neg (by omega), if_neg (by omega)]
  exact ⟨rfl, rfl⟩
set_option maxHeartbeats 4000000 in
set_option maxRecDepth 100000 in
theorem c_X4_isReciprocal (l : Launch) (G : XG) (o : Nat) (b : XB) (th ov un : Int) (zs : Int) (hzs : -2147483648 ≤ zs ∧ zs < 2147483648) (zq : Int) (hzq : -2147483648 ≤ zq ∧ zq < 2147483648) : MetWI l yX4_isReciprocal wsX4_isReciprocal (rmF 2 44) (MPc G o b th ov un [.ref o, .int (zI zs), .int (zI zq)]) (bI ((0 ≤ zs ∧ zs < 4) ∧ (0 ≤ zq ∧ zq < 8))) (fun H => ∃ ov2 un2, MW G o b (kR ((0 ≤ zs ∧ zs < 4) ∧ (0 ≤ zq ∧ zq < 8)) 0) ov2 un2 H ∧ (((0 ≤ zs ∧ zs < 4) ∧ (0 ≤ zq ∧ zq < 8)) → ov2 = (redN ((rpZ b zq.toNat zs.toNat).toNat) ((rwZ b zq.toNat zs.toNat).toNat) : Int) ∧ un2 = (redN ((rwZ b zq.toNat zs.toNat).toNat) ((rpZ b zq.toNat zs.toNat).toNat) : Int))) (mA o) := by
  refine Met.ofW (cc := cX4_isReciprocal) (maxL := 8) (ret := (some .boolean)) (by decide) rfl ?_
  intro p e s m args below meth c s₁ B hml hv
  obtain ⟨rfl, hW, hi, hK⟩ := hv
  have hx := B.exec
  have hb := B.bytes
  have hr := B.returns
  have hts := atoms_spec (ws := wsX4_isReciprocal) B.pre
  have hown : s.vm.findClass RX4 = some m.cls := findClass_of_methodNamed B.named
  have hlocks := B.notSynchronized
  have hl := lv_entry ([.ref o, .int (zI zs), .int (zI zq)]) (n := 8) (Nat.le_of_ble_eq_true rfl)
  rw [lg_entry_eq]
  generalize (lg_sl ([.ref o, .int (zI zs), .int (zI zq)]) ++ List.replicate (8 - (lg_sl ([.ref o, .int (zI zs), .int (zI zq)])).length) Slot.unset).toArray = ls at hl ⊢
  have hl : lv_has ls 8 [(0, .ref o), (1, .int (zI zs)), (2, .int (zI zq))] := hl
  have hS : va_S (mA o) s.heap s.heap [] := va_S.rf
  refine lv_aload_n hx hb dX4_isReciprocal_0 rfl (lv_at hl 0 rfl) ?_
  refine lv_iload_n hx hb dX4_isReciprocal_1 rfl (lv_at hl 1 rfl) ?_
  refine lv_iload_n hx hb dX4_isReciprocal_2 rfl (lv_at hl 2 rfl) ?_
  refine x_wI (va_runV (As := [.int (zI zs), .int (zI zq)]) (rest := []) ⟨hx, hb, hml, hown, hts⟩ (c_X4_isRun l G o b th ov un zs (by omega) zq (by omega)) (cwV 2 hts gX4_isReciprocal_X4_isRun rfl rfl rfl (by decide +kernel) ⟨Nat.le_of_ble_eq_true rfl, Nat.le_of_ble_eq_true rfl⟩) (x_preM hW hi hK) rfl rfl hl.1 rfl (lv_room (Nat.le_of_ble_eq_true rfl)) dX4_isReciprocal_3 ⟨Nat.le_of_ble_eq_true rfl, Nat.le_of_ble_eq_true rfl⟩) hS (fun q _ h => h) (fun q h => h) (fun H1 locs1 hW1 hz1 hk1 hS => ?_)
  have hW := hW1
  refine x_ifB_ne (tgt := 11) hx hb dX4_isReciprocal_6 (by decide) (fun h1 => ?_) (fun h2 => ?_)
  · replace hW := hW.th (kR_t h1 rfl)
    obtain ⟨y, rfl⟩ : ∃ y : Nat, zs = (y : Int) := ⟨zs.toNat, by omega⟩
    obtain ⟨q, rfl⟩ : ∃ q : Nat, zq = (q : Int) := ⟨zq.toNat, by omega⟩
    refine lv_bipush (v := zI 8) hx hb dX4_isReciprocal_11 (by decide +kernel) ?_
    refine lv_iload_n hx hb dX4_isReciprocal_13 rfl (lv_at hl 1 rfl) ?_
    refine x_imul hx hb dX4_isReciprocal_14 ?_
    refine lv_iload_n hx hb dX4_isReciprocal_15 rfl (lv_at hl 2 rfl) ?_
    refine x_iadd hx hb dX4_isReciprocal_16 ?_
    refine lv_istore_n (lv' := [(3, .int (zI ((8 * (y : Int)) + (q : Int)))), (0, .ref o), (1, .int (zI (y : Int))), (2, .int (zI (q : Int)))]) hx hb dX4_isReciprocal_17 rfl hl (by decide) rfl (fun ls hl => ?_)
    refine x_iconst hx hb dX4_isReciprocal_18 ?_
    refine lv_istore (lv' := [(4, .int (zI 0)), (3, .int (zI ((8 * (y : Int)) + (q : Int)))), (0, .ref o), (1, .int (zI (y : Int))), (2, .int (zI (q : Int)))]) hx hb dX4_isReciprocal_19 hl (by decide) rfl (fun ls hl => ?_)
    refine x_loop1 (fun (k : Nat) => (k ≤ bN b q y) ∧ (k = bN b q y ∨ isSt (bS b q y) k) ∧ (∀ j, j < k → relP b q y j = false)) (fun (k : Nat) => bN b q y - k) (fun (k : Nat) => [(4, .int (zI (k : Int))), (0, .ref o), (3, .int (zI ((8 * (y : Int)) + (q : Int))))]) (0) (show ((0) ≤ bN b q y) ∧ ((0) = bN b q y ∨ isSt (bS b q y) (0)) ∧ (∀ j, j < (0) → relP b q y j = false) from ⟨(Nat.zero_le _), (Or.inr (Or.inl rfl)), (fun j hj => absurd hj (Nat.not_lt_zero _))⟩) (show lv_has ls 8 [(4, .int (zI ((0) : Int))), (0, .ref o), (3, .int (zI ((8 * (y : Int)) + (q : Int))))] from (lv_cons (x_at (lv_at hl 0 rfl) (by omega)) (lv_cons (lv_at hl 2 rfl) (lv_cons (lv_at hl 1 rfl) (lv_nil hl))))) (fun k ls hI21 hl ih21 => ?_)
    obtain ⟨hk, hs, hm⟩ : (k ≤ bN b q y) ∧ (k = bN b q y ∨ isSt (bS b q y) k) ∧ (∀ j, j < k → relP b q y j = false) := hI21
    have hl : lv_has ls 8 [(4, .int (zI (k : Int))), (0, .ref o), (3, .int (zI ((8 * (y : Int)) + (q : Int))))] := hl
    have hn20 := hi.n q y
    refine lv_iload hx hb dX4_isReciprocal_21 (lv_at hl 0 rfl) ?_
    refine lv_aload_n hx hb dX4_isReciprocal_23 rfl (lv_at hl 1 rfl) ?_
    refine x_get (ci := 4) (C := RX4) (T := TX4) (N := 10) (own := RX4) (index := 7) (v := .ref (o + 1)) hx hb hts (by decide +kernel) hown hK hW.ob rfl 0 (by decide) (by decide +kernel) rfl rfl dX4_isReciprocal_24 ?_
    refine lv_iload_n hx hb dX4_isReciprocal_27 rfl (lv_at hl 2 rfl) ?_
    refine x_iald hx hb hK hW.le (8 * y + q) (by omega) (by omega) (by decide) dX4_isReciprocal_28 ?_
    have hv3 := mN_at b (q := q) (y := y) (by omega)
    refine x_icmp_ge (tgt := 61) hx hb dX4_isReciprocal_29 (by decide) (by omega) (fun h4 => ?_) (fun h5 => ?_)
    · have hkn : k = bN b q y := by omega
      refine lv_aload_n hx hb dX4_isReciprocal_61 rfl (lv_at hl 1 rfl) ?_
      refine lv_lconst (v := lI 0) hx hb dX4_isReciprocal_62 (by decide +kernel) ?_
      refine x_put (ci := 4) (C := RX4) (T := TX4) (N := 10) (own := RX4) (index := 66) hx hb hts (by decide +kernel) tyX4 tyX4_ok nmX4 hown hK hW.ob hS ⟨by omega, by omega⟩ rfl 7 (by decide) (by decide +kernel) rfl rfl rfl rfl (Nat.le_of_ble_eq_true rfl) dX4_isReciprocal_63 (fun H1 locs1 h1 hz1 hn1 hS => ?_)
      have hW := hW.putO h1 hn1
      refine lv_aload_n hx hb dX4_isReciprocal_66 rfl (lv_at hl 1 rfl) ?_
      refine lv_lconst (v := lI 1) hx hb dX4_isReciprocal_67 (by decide +kernel) ?_
      refine x_put (ci := 4) (C := RX4) (T := TX4) (N := 10) (own := RX4) (index := 70) hx hb hts (by decide +kernel) tyX4 tyX4_ok nmX4 hown hK hW.ob hS ⟨by omega, by omega⟩ rfl 8 (by decide) (by decide +kernel) rfl rfl rfl rfl (Nat.le_of_ble_eq_true rfl) dX4_isReciprocal_68 (fun H1 locs1 h1 hz1 hn1 hS => ?_)
      have hW := hW.putO h1 hn1
      refine lv_iload hx hb dX4_isReciprocal_71 (lv_at hl 0 rfl) ?_
      refine lv_aload_n hx hb dX4_isReciprocal_73 rfl (lv_at hl 1 rfl) ?_
      refine x_get (ci := 4) (C := RX4) (T := TX4) (N := 10) (own := RX4) (index := 7) (v := .ref (o + 1)) hx hb hts (by decide +kernel) hown hK hW.ob rfl 0 (by decide) (by decide +kernel) rfl rfl dX4_isReciprocal_74 ?_
      refine lv_iload_n hx hb dX4_isReciprocal_77 rfl (lv_at hl 2 rfl) ?_
      refine x_iald hx hb hK hW.le (8 * y + q) (by omega) (by omega) (by decide) dX4_isReciprocal_78 ?_
      have hv6 := mN_at b (q := q) (y := y) (by omega)
      refine x_icmp_ge (tgt := 182) hx hb dX4_isReciprocal_79 (by decide) (by omega) (fun h7 => ?_) (fun h8 => ?_)
      · refine x_iconst hx hb dX4_isReciprocal_182 ?_
        have hz9 := rp_no (rec_no (b := b) (q := q) (y := y) (fun j hj => hm j (by omega)))
        have hW : ∃ ov2 un2, MW G o b (kR ((0 ≤ (y : Int) ∧ (y : Int) < 4) ∧ (0 ≤ (q : Int) ∧ (q : Int) < 8)) 0) ov2 un2 _ ∧ (((0 ≤ (y : Int) ∧ (y : Int) < 4) ∧ (0 ≤ (q : Int) ∧ (q : Int) < 8)) → ov2 = (redN ((rpZ b q y).toNat) ((rwZ b q y).toNat) : Int) ∧ un2 = (redN ((rwZ b q y).toNat) ((rpZ b q y).toNat) : Int)) := ⟨_, _, hW.th (kR_t (by omega) rfl).symm, fun _ => by rw [hz9.1, hz9.2]; exact ⟨red01.1.symm, red01.2.symm⟩⟩
        exact W.zret hx hb hr (x_nar (by omega)) (fun t ht _ => ⟨⟨_, (), rfl, congrArg zI ((bI_t (by omega)).symm), _, ht, hW⟩, hS.F ht⟩) hS.2.2 dX4_isReciprocal_183
      · have hg9 := rec_grp (b := b) (q := q) (y := y) (k := k) (by omega) (hs.resolve_left (by omega)) hm (by omega)
        refine lv_aload_n hx hb dX4_isReciprocal_82 rfl (lv_at hl 1 rfl) ?_
        refine lv_iload_n hx hb dX4_isReciprocal_83 rfl (lv_at hl 2 rfl) ?_
        refine lv_iload hx hb dX4_isReciprocal_84 (lv_at hl 0 rfl) ?_
        refine x_cI (va_runV (As := [.int (zI ((8 * (y : Int)) + (q : Int))), .int (zI (k : Int))]) (rest := []) ⟨hx, hb, hml, hown, hts⟩ (c_X4_tieEnd l G o b 0 0 1 q y (by omega) (by omega) ((8 * (y : Int)) + (q : Int)) (by omega) (k : Int) (k) (by omega) (by omega)) (cwV 2 hts gX4_isReciprocal_X4_tieEnd rfl rfl rfl (by decide +kernel) ⟨Nat.le_of_ble_eq_true rfl, Nat.le_of_ble_eq_true rfl⟩) (x_preM hW hi hK) rfl rfl hl.1 rfl (lv_room (Nat.le_of_ble_eq_true rfl)) dX4_isReciprocal_86 ⟨Nat.le_of_ble_eq_true rfl, Nat.le_of_ble_eq_true rfl⟩) ?_
        refine lv_iload hx hb dX4_isReciprocal_89 (lv_at hl 0 rfl) ?_
        refine x_isub hx hb dX4_isReciprocal_91 ?_
        refine lv_istore (lv' := [(5, .int (zI ((tE (bS b q y) (bN b q y) (k) : Int) - (k : Int)))), (4, .int (zI (k : Int))), (0, .ref o), (3, .int (zI ((8 * (y : Int)) + (q : Int))))]) hx hb dX4_isReciprocal_92 hl (by decide) rfl (fun ls hl => ?_)
        refine lv_aload_n hx hb dX4_isReciprocal_94 rfl (lv_at hl 2 rfl) ?_
        refine lv_iload_n hx hb dX4_isReciprocal_95 rfl (lv_at hl 3 rfl) ?_
        refine lv_iload hx hb dX4_isReciprocal_96 (lv_at hl 1 rfl) ?_
        refine lv_iload hx hb dX4_isReciprocal_98 (lv_at hl 1 rfl) ?_
        refine lv_iload hx hb dX4_isReciprocal_100 (lv_at hl 0 rfl) ?_
        refine x_iadd hx hb dX4_isReciprocal_102 ?_
        refine x_cI (va_runV (As := [.int (zI ((8 * (y : Int)) + (q : Int))), .int (zI (k : Int)), .int (zI ((k : Int) + ((tE (bS b q y) (bN b q y) (k) : Int) - (k : Int))))]) (rest := []) ⟨hx, hb, hml, hown, hts⟩ (c_X4_relevantAmong l G o b 0 0 1 q y (by omega) (by omega) ((8 * (y : Int)) + (q : Int)) (by omega) (k : Int) ((k : Int) + ((tE (bS b q y) (bN b q y) (k) : Int) - (k : Int))) (k) (tE (bS b q y) (bN b q y) (k)) (by omega) (by omega) (by omega) (by omega)) (cwV 3 hts gX4_isReciprocal_X4_relevantAmong rfl rfl rfl (by decide +kernel) ⟨Nat.le_of_ble_eq_true rfl, Nat.le_of_ble_eq_true rfl⟩) (x_preM hW hi hK) rfl rfl hl.1 rfl (lv_room (Nat.le_of_ble_eq_true rfl)) dX4_isReciprocal_103 ⟨Nat.le_of_ble_eq_true rfl, Nat.le_of_ble_eq_true rfl⟩) ?_
        refine lv_istore (lv' := [(6, .int (zI (relN b q y (k) (tE (bS b q y) (bN b q y) (k)) : Int))), (5, .int (zI ((tE (bS b q y) (bN b q y) (k) : Int) - (k : Int)))), (4, .int (zI (k : Int))), (0, .ref o), (3, .int (zI ((8 * (y : Int)) + (q : Int))))]) hx hb dX4_isReciprocal_106 hl (by decide) rfl (fun ls hl => ?_)
        refine x_iconst hx hb dX4_isReciprocal_108 ?_
        refine lv_istore (lv' := [(7, .int (zI 0)), (6, .int (zI (relN b q y (k) (tE (bS b q y) (bN b q y) (k)) : Int))), (5, .int (zI ((tE (bS b q y) (bN b q y) (k) : Int) - (k : Int)))), (4, .int (zI (k : Int))), (0, .ref o), (3, .int (zI ((8 * (y : Int)) + (q : Int))))]) hx hb dX4_isReciprocal_109 hl (by decide) rfl (fun ls hl => ?_)
        refine x_loopH1 (fun (j : Nat) (H : Heap) (locs : List Loc) => (j ≤ tE (bS b q y) (bN b q y) (k) + 1 - relN b q y (k) (tE (bS b q y) (bN b q y) (k)) - k) ∧ (MW G o b 0 (sum9 (rpT (tE (bS b q y) (bN b q y) (k)) (relN b q y (k) (tE (bS b q y) (bN b q y) (k)))) (k) j) 1 H) ∧ (va_S (mA o) s.heap H locs)) (fun (j : Nat) => tE (bS b q y) (bN b q y) (k) + 1 - relN b q y (k) (tE (bS b q y) (bN b q y) (k)) - k - j) (fun (j : Nat) => [(7, .int (zI (j : Int))), (6, .int (zI (relN b q y (k) (tE (bS b q y) (bN b q y) (k)) : Int))), (5, .int (zI ((tE (bS b q y) (bN b q y) (k) : Int) - (k : Int)))), (4, .int (zI (k : Int))), (0, .ref o)]) (0) (by exact ⟨(Nat.zero_le _), (hW), (hS)⟩) (show lv_has ls 8 [(7, .int (zI ((0) : Int))), (6, .int (zI (relN b q y (k) (tE (bS b q y) (bN b q y) (k)) : Int))), (5, .int (zI ((tE (bS b q y) (bN b q y) (k) : Int) - (k : Int)))), (4, .int (zI (k : Int))), (0, .ref o)] from (lv_cons (x_at (lv_at hl 0 rfl) (by omega)) (lv_cons (lv_at hl 1 rfl) (lv_cons (lv_at hl 2 rfl) (lv_cons (lv_at hl 3 rfl) (lv_cons (lv_at hl 4 rfl) (lv_nil hl))))))) (fun j H locs ls hI111 hl ih111 => ?_)
        obtain ⟨hj, hW, hS⟩ : (j ≤ tE (bS b q y) (bN b q y) (k) + 1 - relN b q y (k) (tE (bS b q y) (bN b q y) (k)) - k) ∧ (MW G o b 0 (sum9 (rpT (tE (bS b q y) (bN b q y) (k)) (relN b q y (k) (tE (bS b q y) (bN b q y) (k)))) (k) j) 1 H) ∧ (va_S (mA o) s.heap H locs) := hI111
        have hl : lv_has ls 8 [(7, .int (zI (j : Int))), (6, .int (zI (relN b q y (k) (tE (bS b q y) (bN b q y) (k)) : Int))), (5, .int (zI ((tE (bS b q y) (bN b q y) (k) : Int) - (k : Int)))), (4, .int (zI (k : Int))), (0, .ref o)] := hl
        refine lv_iload hx hb dX4_isReciprocal_111 (lv_at hl 0 rfl) ?_
        refine lv_iload hx hb dX4_isReciprocal_113 (lv_at hl 2 rfl) ?_
        refine lv_iload hx hb dX4_isReciprocal_115 (lv_at hl 1 rfl) ?_
        refine x_isub hx hb dX4_isReciprocal_117 ?_
        refine x_icmp_gt (tgt := 163) hx hb dX4_isReciprocal_118 (by decide) (by omega) (fun h9 => ?_) (fun h10 => ?_)
        · have hrp : (sum9 (rpT (tE (bS b q y) (bN b q y) (k)) (relN b q y (k) (tE (bS b q y) (bN b q y) (k)))) (k) j) = rpZ b q y := by rw [rpZ, if_pos hg9.1, hg9.2.1, hg9.2.2.1, hg9.2.2.2, rpS, show j = tE (bS b q y) (bN b q y) (k) + 1 - relN b q y (k) (tE (bS b q y) (bN b q y) (k)) - k from by omega]
          have hrw : subI (tE (bS b q y) (bN b q y) (k) - k - relN b q y (k) (tE (bS b q y) (bN b q y) (k))) (relN b q y (k) (tE (bS b q y) (bN b q y) (k))) * 232792560 = rwZ b q y := by rw [rwZ, if_pos hg9.1, hg9.2.1, hg9.2.2.1, hg9.2.2.2, Int.mul_comm]
          have hpb := rpZ_bd hi q y
          have hwb := rwZ_bd hi q y
          refine lv_aload_n hx hb dX4_isReciprocal_163 rfl (lv_at hl 4 rfl) ?_
          refine lv_iload hx hb dX4_isReciprocal_164 (lv_at hl 2 rfl) ?_
          refine lv_iload hx hb dX4_isReciprocal_166 (lv_at hl 1 rfl) ?_
          refine x_cL (va_runS (As := [.int (zI ((tE (bS b q y) (bN b q y) (k) : Int) - (k : Int))), .int (zI (relN b q y (k) (tE (bS b q y) (bN b q y) (k)) : Int))]) (rest := [.ref o]) ⟨hx, hb, hml, hown, hts⟩ (c_X4_ways l ((tE (bS b q y) (bN b q y) (k) : Int) - (k : Int)) (relN b q y (k) (tE (bS b q y) (bN b q y) (k)) : Int) (tE (bS b q y) (bN b q y) (k) - k - relN b q y (k) (tE (bS b q y) (bN b q y) (k))) (relN b q y (k) (tE (bS b q y) (bN b q y) (k))) (by omega) (by omega) (by omega)) (va_cwS 2 hts gX4_isReciprocal_X4_ways rfl rfl rfl (by decide +kernel) ⟨Nat.le_of_ble_eq_true rfl, Nat.le_of_ble_eq_true rfl⟩) x_preS rfl rfl hl.1 rfl (lv_room (Nat.le_of_ble_eq_true rfl)) dX4_isReciprocal_168 ⟨Nat.le_of_ble_eq_true rfl, Nat.le_of_ble_eq_true rfl⟩) ?_
          refine lv_ldc2 (v := lI 232792560) hx hb hown (by rw [show lI 232792560 = (232792560 : Int64) from by decide +kernel]; exact hts (.constantLong RX4 64 232792560) (by decide +kernel)) dX4_isReciprocal_171 ?_
          refine x_lmul hx hb dX4_isReciprocal_174 ?_
          refine x_put (ci := 4) (C := RX4) (T := TX4) (N := 10) (own := RX4) (index := 70) hx hb hts (by decide +kernel) tyX4 tyX4_ok nmX4 hown hK hW.ob hS ⟨by omega, by omega⟩ rfl 8 (by decide) (by decide +kernel) rfl rfl rfl rfl (Nat.le_of_ble_eq_true rfl) dX4_isReciprocal_175 (fun H1 locs1 h1 hz1 hn1 hS => ?_)
          have hW := hW.putO h1 hn1
          refine lv_aload_n hx hb dX4_isReciprocal_178 rfl (lv_at hl 4 rfl) ?_
          refine x_wV (va_runV (As := []) (rest := []) ⟨hx, hb, hml, hown, hts⟩ (c_X4_lowers l G o b 0 (sum9 (rpT (tE (bS b q y) (bN b q y) (k)) (relN b q y (k) (tE (bS b q y) (bN b q y) (k)))) (k) j) ((subI (tE (bS b q y) (bN b q y) (k) - k - relN b q y (k) (tE (bS b q y) (bN b q y) (k))) (relN b q y (k) (tE (bS b q y) (bN b q y) (k)))) * 232792560) ((rpZ b q y).toNat) ((rwZ b q y).toNat) (by omega) (by omega) (by omega) (by omega) (by omega)) (cwV 0 hts gX4_isReciprocal_X4_lowers rfl rfl rfl (by decide +kernel) ⟨Nat.le_of_ble_eq_true rfl, Nat.le_of_ble_eq_true rfl⟩) (x_preM hW hi hK) rfl rfl hl.1 rfl (lv_room (Nat.le_of_ble_eq_true rfl)) dX4_isReciprocal_179 ⟨Nat.le_of_ble_eq_true rfl, Nat.le_of_ble_eq_true rfl⟩) hS (fun q _ h => h) (fun q h => h) (fun H1 locs1 hW1 hz1 hk1 hS => ?_)
          have hW := hW1
          refine x_iconst hx hb dX4_isReciprocal_182 ?_
          have hW : ∃ ov2 un2, MW G o b (kR ((0 ≤ (y : Int) ∧ (y : Int) < 4) ∧ (0 ≤ (q : Int) ∧ (q : Int) < 8)) 0) ov2 un2 _ ∧ (((0 ≤ (y : Int) ∧ (y : Int) < 4) ∧ (0 ≤ (q : Int) ∧ (q : Int) < 8)) → ov2 = (redN ((rpZ b q y).toNat) ((rwZ b q y).toNat) : Int) ∧ un2 = (redN ((rwZ b q y).toNat) ((rpZ b q y).toNat) : Int)) := ⟨_, _, hW.th (kR_t (by omega) rfl).symm, fun _ => ⟨rfl, rfl⟩⟩
          exact W.zret hx hb hr (x_nar (by omega)) (fun t ht _ => ⟨⟨_, (), rfl, congrArg zI ((bI_t (by omega)).symm), _, ht, hW⟩, hS.F ht⟩) hS.2.2 dX4_isReciprocal_183
        · refine lv_aload_n hx hb dX4_isReciprocal_121 rfl (lv_at hl 4 rfl) ?_
          refine lv_dup hx hb dX4_isReciprocal_122 rfl ?_
          refine x_get (ci := 4) (C := RX4) (T := TX4) (N := 10) (own := RX4) (index := 66) (v := .long (lI (sum9 (rpT (tE (bS b q y) (bN b q y) (k)) (relN b q y (k) (tE (bS b q y) (bN b q y) (k)))) (k) j))) hx hb hts (by decide +kernel) hown hK hW.ob rfl 7 (by decide) (by decide +kernel) rfl rfl dX4_isReciprocal_123 ?_
          refine lv_iload hx hb dX4_isReciprocal_126 (lv_at hl 2 rfl) ?_
          refine lv_iload hx hb dX4_isReciprocal_128 (lv_at hl 0 rfl) ?_
          refine x_isub hx hb dX4_isReciprocal_130 ?_
          refine x_iconst hx hb dX4_isReciprocal_131 ?_
          refine x_isub hx hb dX4_isReciprocal_132 ?_
          refine lv_iload hx hb dX4_isReciprocal_133 (lv_at hl 1 rfl) ?_
          refine x_iconst hx hb dX4_isReciprocal_135 ?_
          refine x_isub hx hb dX4_isReciprocal_136 ?_
          refine x_cL (va_runS (As := [.int (zI ((((tE (bS b q y) (bN b q y) (k) : Int) - (k : Int)) - (j : Int)) - 1)), .int (zI ((relN b q y (k) (tE (bS b q y) (bN b q y) (k)) : Int) - 1))]) (rest := [.long (lI (sum9 (rpT (tE (bS b q y) (bN b q y) (k)) (relN b q y (k) (tE (bS b q y) (bN b q y) (k)))) (k) j)), .ref o]) ⟨hx, hb, hml, hown, hts⟩ (c_X4_ways l ((((tE (bS b q y) (bN b q y) (k) : Int) - (k : Int)) - (j : Int)) - 1) ((relN b q y (k) (tE (bS b q y) (bN b q y) (k)) : Int) - 1) (tE (bS b q y) (bN b q y) (k) - (k + j + 1) - (relN b q y (k) (tE (bS b q y) (bN b q y) (k)) - 1)) (relN b q y (k) (tE (bS b q y) (bN b q y) (k)) - 1) (by omega) (by omega) (by omega)) (va_cwS 2 hts gX4_isReciprocal_X4_ways rfl rfl rfl (by decide +kernel) ⟨Nat.le_of_ble_eq_true rfl, Nat.le_of_ble_eq_true rfl⟩) x_preS rfl rfl hl.1 rfl (lv_room (Nat.le_of_ble_eq_true rfl)) dX4_isReciprocal_137 ⟨Nat.le_of_ble_eq_true rfl, Nat.le_of_ble_eq_true rfl⟩) ?_
          refine lv_ldc2 (v := lI 232792560) hx hb hown (by rw [show lI 232792560 = (232792560 : Int64) from by decide +kernel]; exact hts (.constantLong RX4 64 232792560) (by decide +kernel)) dX4_isReciprocal_140 ?_
          refine lv_iload hx hb dX4_isReciprocal_143 (lv_at hl 3 rfl) ?_
          refine lv_iload hx hb dX4_isReciprocal_145 (lv_at hl 0 rfl) ?_
          refine x_iadd hx hb dX4_isReciprocal_147 ?_
          refine x_iconst hx hb dX4_isReciprocal_148 ?_
          refine x_iadd hx hb dX4_isReciprocal_149 ?_
          refine x_i2l hx hb (by omega) dX4_isReciprocal_150 ?_
          refine x_ldiv hx hb (by omega) (by omega) dX4_isReciprocal_151 ?_
          refine x_lmul hx hb dX4_isReciprocal_152 ?_
          refine x_ladd hx hb dX4_isReciprocal_153 ?_
          refine x_put (ci := 4) (C := RX4) (T := TX4) (N := 10) (own := RX4) (index := 66) hx hb hts (by decide +kernel) tyX4 tyX4_ok nmX4 hown hK hW.ob hS ⟨by omega, by omega⟩ rfl 7 (by decide) (by decide +kernel) rfl rfl rfl rfl (Nat.le_of_ble_eq_true rfl) dX4_isReciprocal_154 (fun H1 locs1 h1 hz1 hn1 hS => ?_)
          have hW := hW.putO h1 hn1
          refine x_iinc (lv' := [(7, .int (zI ((j : Int) + 1))), (6, .int (zI (relN b q y (k) (tE (bS b q y) (bN b q y) (k)) : Int))), (5, .int (zI ((tE (bS b q y) (bN b q y) (k) : Int) - (k : Int)))), (4, .int (zI (k : Int))), (0, .ref o)]) (k := 0) hx hb dX4_isReciprocal_157 hl rfl (by decide) rfl (fun ls hl => ?_)
          refine lv_goto (tgt := 111) hx hb dX4_isReciprocal_160 (by decide) ?_
          exact ih111 (j + 1) _ _ ls (by exact ⟨(by omega), (hW.ou (rp_step (tE (bS b q y) (bN b q y) (k)) (relN b q y (k) (tE (bS b q y) (bN b q y) (k))) k j) rfl), (hS)⟩) (show tE (bS b q y) (bN b q y) (k) + 1 - relN b q y (k) (tE (bS b q y) (bN b q y) (k)) - k - (j + 1) < tE (bS b q y) (bN b q y) (k) + 1 - relN b q y (k) (tE (bS b q y) (bN b q y) (k)) - k - j from (by omega)) (lv_cons (x_at (lv_at hl 0 rfl) (by omega)) (lv_cons (lv_at hl 1 rfl) (lv_cons (lv_at hl 2 rfl) (lv_cons (lv_at hl 3 rfl) (lv_cons (lv_at hl 4 rfl) (lv_nil hl))))))
    · have hte9 := tE_rng (bS b q y) (n := bN b q y) (i := k) (by omega)
      have hrl9 := relN_le b q y k (tE (bS b q y) (bN b q y) (k))
      refine lv_aload_n hx hb dX4_isReciprocal_32 rfl (lv_at hl 1 rfl) ?_
      refine lv_iload_n hx hb dX4_isReciprocal_33 rfl (lv_at hl 2 rfl) ?_
      refine lv_iload hx hb dX4_isReciprocal_34 (lv_at hl 0 rfl) ?_
      refine lv_aload_n hx hb dX4_isReciprocal_36 rfl (lv_at hl 1 rfl) ?_
      refine lv_iload_n hx hb dX4_isReciprocal_37 rfl (lv_at hl 2 rfl) ?_
      refine lv_iload hx hb dX4_isReciprocal_38 (lv_at hl 0 rfl) ?_
      refine x_cI (va_runV (As := [.int (zI ((8 * (y : Int)) + (q : Int))), .int (zI (k : Int))]) (rest := [.int (zI (k : Int)), .int (zI ((8 * (y : Int)) + (q : Int))), .ref o]) ⟨hx, hb, hml, hown, hts⟩ (c_X4_tieEnd l G o b 0 ov un q y (by omega) (by omega) ((8 * (y : Int)) + (q : Int)) (by omega) (k : Int) (k) (by omega) (by omega)) (cwV 2 hts gX4_isReciprocal_X4_tieEnd rfl rfl rfl (by decide +kernel) ⟨Nat.le_of_ble_eq_true rfl, Nat.le_of_ble_eq_true rfl⟩) (x_preM hW hi hK) rfl rfl hl.1 rfl (lv_room (Nat.le_of_ble_eq_true rfl)) dX4_isReciprocal_40 ⟨Nat.le_of_ble_eq_true rfl, Nat.le_of_ble_eq_true rfl⟩) ?_
      refine x_cI (va_runV (As := [.int (zI ((8 * (y : Int)) + (q : Int))), .int (zI (k : Int)), .int (zI (tE (bS b q y) (bN b q y) (k) : Int))]) (rest := []) ⟨hx, hb, hml, hown, hts⟩ (c_X4_relevantAmong l G o b 0 ov un q y (by omega) (by omega) ((8 * (y : Int)) + (q : Int)) (by omega) (k : Int) (tE (bS b q y) (bN b q y) (k) : Int) (k) (tE (bS b q y) (bN b q y) (k)) (by omega) (by omega) (by omega) (by omega)) (cwV 3 hts gX4_isReciprocal_X4_relevantAmong rfl rfl rfl (by decide +kernel) ⟨Nat.le_of_ble_eq_true rfl, Nat.le_of_ble_eq_true rfl⟩) (x_preM hW hi hK) rfl rfl hl.1 rfl (lv_room (Nat.le_of_ble_eq_true rfl)) dX4_isReciprocal_43 ⟨Nat.le_of_ble_eq_true rfl, Nat.le_of_ble_eq_true rfl⟩) ?_
      refine x_if_ne (tgt := 61) hx hb dX4_isReciprocal_46 (by decide) (by omega) (fun h11 => ?_) (fun h12 => ?_)
      · have hrl := h11
        refine lv_aload_n hx hb dX4_isReciprocal_61 rfl (lv_at hl 1 rfl) ?_
        refine lv_lconst (v := lI 0) hx hb dX4_isReciprocal_62 (by decide +kernel) ?_
        refine x_put (ci := 4) (C := RX4) (T := TX4) (N := 10) (own := RX4) (index := 66) hx hb hts (by decide +kernel) tyX4 tyX4_ok nmX4 hown hK hW.ob hS ⟨by omega, by omega⟩ rfl 7 (by decide) (by decide +kernel) rfl rfl rfl rfl (Nat.le_of_ble_eq_true rfl) dX4_isReciprocal_63 (fun H1 locs1 h1 hz1 hn1 hS => ?_)
        have hW := hW.putO h1 hn1
        refine lv_aload_n hx hb dX4_isReciprocal_66 rfl (lv_at hl 1 rfl) ?_
        refine lv_lconst (v := lI 1) hx hb dX4_isReciprocal_67 (by decide +kernel) ?_
        refine x_put (ci := 4) (C := RX4) (T := TX4) (N := 10) (own := RX4) (index := 70) hx hb hts (by decide +kernel) tyX4 tyX4_ok nmX4 hown hK hW.ob hS ⟨by omega, by omega⟩ rfl 8 (by decide) (by decide +kernel) rfl rfl rfl rfl (Nat.le_of_ble_eq_true rfl) dX4_isReciprocal_68 (fun H1 locs1 h1 hz1 hn1 hS => ?_)
        have hW := hW.putO h1 hn1
        refine lv_iload hx hb dX4_isReciprocal_71 (lv_at hl 0 rfl) ?_
        refine lv_aload_n hx hb dX4_isReciprocal_73 rfl (lv_at hl 1 rfl) ?_
        refine x_get (ci := 4) (C := RX4) (T := TX4) (N := 10) (own := RX4) (index := 7) (v := .ref (o + 1)) hx hb hts (by decide +kernel) hown hK hW.ob rfl 0 (by decide) (by decide +kernel) rfl rfl dX4_isReciprocal_74 ?_
        refine lv_iload_n hx hb dX4_isReciprocal_77 rfl (lv_at hl 2 rfl) ?_
        refine x_iald hx hb hK hW.le (8 * y + q) (by omega) (by omega) (by decide) dX4_isReciprocal_78 ?_
        have hv13 := mN_at b (q := q) (y := y) (by omega)
        refine x_icmp_ge (tgt := 182) hx hb dX4_isReciprocal_79 (by decide) (by omega) (fun h14 => ?_) (fun h15 => ?_)
        · refine x_iconst hx hb dX4_isReciprocal_182 ?_
          have hz9 := rp_no (rec_no (b := b) (q := q) (y := y) (fun j hj => hm j (by omega)))
          have hW : ∃ ov2 un2, MW G o b (kR ((0 ≤ (y : Int) ∧ (y : Int) < 4) ∧ (0 ≤ (q : Int) ∧ (q : Int) < 8)) 0) ov2 un2 _ ∧ (((0 ≤ (y : Int) ∧ (y : Int) < 4) ∧ (0 ≤ (q : Int) ∧ (q : Int) < 8)) → ov2 = (redN ((rpZ b q y).toNat) ((rwZ b q y).toNat) : Int) ∧ un2 = (redN ((rwZ b q y).toNat) ((rpZ b q y).toNat) : Int)) := ⟨_, _, hW.th (kR_t (by omega) rfl).symm, fun _ => by rw [hz9.1, hz9.2]; exact ⟨red01.1.symm, red01.2.symm⟩⟩
          exact W.zret hx hb hr (x_nar (by omega)) (fun t ht _ => ⟨⟨_, (), rfl, congrArg zI ((bI_t (by omega)).symm), _, ht, hW⟩, hS.F ht⟩) hS.2.2 dX4_isReciprocal_183
        · have hg9 := rec_grp (b := b) (q := q) (y := y) (k := k) (by omega) (hs.resolve_left (by omega)) hm (by omega)
          refine lv_aload_n hx hb dX4_isReciprocal_82 rfl (lv_at hl 1 rfl) ?_
          refine lv_iload_n hx hb dX4_isReciprocal_83 rfl (lv_at hl 2 rfl) ?_
          refine lv_iload hx hb dX4_isReciprocal_84 (lv_at hl 0 rfl) ?_
          refine x_cI (va_runV (As := [.int (zI ((8 * (y : Int)) + (q : Int))), .int (zI (k : Int))]) (rest := []) ⟨hx, hb, hml, hown, hts⟩ (c_X4_tieEnd l G o b 0 0 1 q y (by omega) (by omega) ((8 * (y : Int)) + (q : Int)) (by omega) (k : Int) (k) (by omega) (by omega)) (cwV 2 hts gX4_isReciprocal_X4_tieEnd rfl rfl rfl (by decide +kernel) ⟨Nat.le_of_ble_eq_true rfl, Nat.le_of_ble_eq_true rfl⟩) (x_preM hW hi hK) rfl rfl hl.1 rfl (lv_room (Nat.le_of_ble_eq_true rfl)) dX4_isReciprocal_86 ⟨Nat.le_of_ble_eq_true rfl, Nat.le_of_ble_eq_true rfl⟩) ?_
          refine lv_iload hx hb dX4_isReciprocal_89 (lv_at hl 0 rfl) ?_
          refine x_isub hx hb dX4_isReciprocal_91 ?_
          refine lv_istore (lv' := [(5, .int (zI ((tE (bS b q y) (bN b q y) (k) : Int) - (k : Int)))), (4, .int (zI (k : Int))), (0, .ref o), (3, .int (zI ((8 * (y : Int)) + (q : Int))))]) hx hb dX4_isReciprocal_92 hl (by decide) rfl (fun ls hl => ?_)
          refine lv_aload_n hx hb dX4_isReciprocal_94 rfl (lv_at hl 2 rfl) ?_
          refine lv_iload_n hx hb dX4_isReciprocal_95 rfl (lv_at hl 3 rfl) ?_
          refine lv_iload hx hb dX4_isReciprocal_96 (lv_at hl 1 rfl) ?_
          refine lv_iload hx hb dX4_isReciprocal_98 (lv_at hl 1 rfl) ?_
          refine lv_iload hx hb dX4_isReciprocal_100 (lv_at hl 0 rfl) ?_
          refine x_iadd hx hb dX4_isReciprocal_102 ?_
          refine x_cI (va_runV (As := [.int (zI ((8 * (y : Int)) + (q : Int))), .int (zI (k : Int)), .int (zI ((k : Int) + ((tE (bS b q y) (bN b q y) (k) : Int) - (k : Int))))]) (rest := []) ⟨hx, hb, hml, hown, hts⟩ (c_X4_relevantAmong l G o b 0 0 1 q y (by omega) (by omega) ((8 * (y : Int)) + (q : Int)) (by omega) (k : Int) ((k : Int) + ((tE (bS b q y) (bN b q y) (k) : Int) - (k : Int))) (k) (tE (bS b q y) (bN b q y) (k)) (by omega) (by omega) (by omega) (by omega)) (cwV 3 hts gX4_isReciprocal_X4_relevantAmong rfl rfl rfl (by decide +kernel) ⟨Nat.le_of_ble_eq_true rfl, Nat.le_of_ble_eq_true rfl⟩) (x_preM hW hi hK) rfl rfl hl.1 rfl (lv_room (Nat.le_of_ble_eq_true rfl)) dX4_isReciprocal_103 ⟨Nat.le_of_ble_eq_true rfl, Nat.le_of_ble_eq_true rfl⟩) ?_
          refine lv_istore (lv' := [(6, .int (zI (relN b q y (k) (tE (bS b q y) (bN b q y) (k)) : Int))), (5, .int (zI ((tE (bS b q y) (bN b q y) (k) : Int) - (k : Int)))), (4, .int (zI (k : Int))), (0, .ref o), (3, .int (zI ((8 * (y : Int)) + (q : Int))))]) hx hb dX4_isReciprocal_106 hl (by decide) rfl (fun ls hl => ?_)
          refine x_iconst hx hb dX4_isReciprocal_108 ?_
          refine lv_istore (lv' := [(7, .int (zI 0)), (6, .int (zI (relN b q y (k) (tE (bS b q y) (bN b q y) (k)) : Int))), (5, .int (zI ((tE (bS b q y) (bN b q y) (k) : Int) - (k : Int)))), (4, .int (zI (k : Int))), (0, .ref o), (3, .int (zI ((8 * (y : Int)) + (q : Int))))]) hx hb dX4_isReciprocal_109 hl (by decide) rfl (fun ls hl => ?_)
          refine x_loopH1 (fun (j : Nat) (H : Heap) (locs : List Loc) => (j ≤ tE (bS b q y) (bN b q y) (k) + 1 - relN b q y (k) (tE (bS b q y) (bN b q y) (k)) - k) ∧ (MW G o b 0 (sum9 (rpT (tE (bS b q y) (bN b q y) (k)) (relN b q y (k) (tE (bS b q y) (bN b q y) (k)))) (k) j) 1 H) ∧ (va_S (mA o) s.heap H locs)) (fun (j : Nat) => tE (bS b q y) (bN b q y) (k) + 1 - relN b q y (k) (tE (bS b q y) (bN b q y) (k)) - k - j) (fun (j : Nat) => [(7, .int (zI (j : Int))), (6, .int (zI (relN b q y (k) (tE (bS b q y) (bN b q y) (k)) : Int))), (5, .int (zI ((tE (bS b q y) (bN b q y) (k) : Int) - (k : Int)))), (4, .int (zI (k : Int))), (0, .ref o)]) (0) (by exact ⟨(Nat.zero_le _), (hW), (hS)⟩) (show lv_has ls 8 [(7, .int (zI ((0) : Int))), (6, .int (zI (relN b q y (k) (tE (bS b q y) (bN b q y) (k)) : Int))), (5, .int (zI ((tE (bS b q y) (bN b q y) (k) : Int) - (k : Int)))), (4, .int (zI (k : Int))), (0, .ref o)] from (lv_cons (x_at (lv_at hl 0 rfl) (by omega)) (lv_cons (lv_at hl 1 rfl) (lv_cons (lv_at hl 2 rfl) (lv_cons (lv_at hl 3 rfl) (lv_cons (lv_at hl 4 rfl) (lv_nil hl))))))) (fun j H locs ls hI111 hl ih111 => ?_)
          obtain ⟨hj, hW, hS⟩ : (j ≤ tE (bS b q y) (bN b q y) (k) + 1 - relN b q y (k) (tE (bS b q y) (bN b q y) (k)) - k) ∧ (MW G o b 0 (sum9 (rpT (tE (bS b q y) (bN b q y) (k)) (relN b q y (k) (tE (bS b q y) (bN b q y) (k)))) (k) j) 1 H) ∧ (va_S (mA o) s.heap H locs) := hI111
          have hl : lv_has ls 8 [(7, .int (zI (j : Int))), (6, .int (zI (relN b q y (k) (tE (bS b q y) (bN b q y) (k)) : Int))), (5, .int (zI ((tE (bS b q y) (bN b q y) (k) : Int) - (k : Int)))), (4, .int (zI (k : Int))), (0, .ref o)] := hl
          refine lv_iload hx hb dX4_isReciprocal_111 (lv_at hl 0 rfl) ?_
          refine lv_iload hx hb dX4_isReciprocal_113 (lv_at hl 2 rfl) ?_
          refine lv_iload hx hb dX4_isReciprocal_115 (lv_at hl 1 rfl) ?_
          refine x_isub hx hb dX4_isReciprocal_117 ?_
          refine x_icmp_gt (tgt := 163) hx hb dX4_isReciprocal_118 (by decide) (by omega) (fun h16 => ?_) (fun h17 => ?_)
          · have hrp : (sum9 (rpT (tE (bS b q y) (bN b q y) (k)) (relN b q y (k) (tE (bS b q y) (bN b q y) (k)))) (k) j) = rpZ b q y := by rw [rpZ, if_pos hg9.1, hg9.2.1, hg9.2.2.1, hg9.2.2.2, rpS, show j = tE (bS b q y) (bN b q y) (k) + 1 - relN b q y (k) (tE (bS b q y) (bN b q y) (k)) - k from by omega]
            have hrw : subI (tE (bS b q y) (bN b q y) (k) - k - relN b q y (k) (tE (bS b q y) (bN b q y) (k))) (relN b q y (k) (tE (bS b q y) (bN b q y) (k))) * 232792560 = rwZ b q y := by rw [rwZ, if_pos hg9.1, hg9.2.1, hg9.2.2.1, hg9.2.2.2, Int.mul_comm]
            have hpb := rpZ_bd hi q y
            have hwb := rwZ_bd hi q y
            refine lv_aload_n hx hb dX4_isReciprocal_163 rfl (lv_at hl 4 rfl) ?_
            refine lv_iload hx hb dX4_isReciprocal_164 (lv_at hl 2 rfl) ?_
            refine lv_iload hx hb dX4_isReciprocal_166 (lv_at hl 1 rfl) ?_
            refine x_cL (va_runS (As := [.int (zI ((tE (bS b q y) (bN b q y) (k) : Int) - (k : Int))), .int (zI (relN b q y (k) (tE (bS b q y) (bN b q y) (k)) : Int))]) (rest := [.ref o]) ⟨hx, hb, hml, hown, hts⟩ (c_X4_ways l ((tE (bS b q y) (bN b q y) (k) : Int) - (k : Int)) (relN b q y (k) (tE (bS b q y) (bN b q y) (k)) : Int) (tE (bS b q y) (bN b q y) (k) - k - relN b q y (k) (tE (bS b q y) (bN b q y) (k))) (relN b q y (k) (tE (bS b q y) (bN b q y) (k))) (by omega) (by omega) (by omega)) (va_cwS 2 hts gX4_isReciprocal_X4_ways rfl rfl rfl (by decide +kernel) ⟨Nat.le_of_ble_eq_true rfl, Nat.le_of_ble_eq_true rfl⟩) x_preS rfl rfl hl.1 rfl (lv_room (Nat.le_of_ble_eq_true rfl)) dX4_isReciprocal_168 ⟨Nat.le_of_ble_eq_true rfl, Nat.le_of_ble_eq_true rfl⟩) ?_
            refine lv_ldc2 (v := lI 232792560) hx hb hown (by rw [show lI 232792560 = (232792560 : Int64) from by decide +kernel]; exact hts (.constantLong RX4 64 232792560) (by decide +kernel)) dX4_isReciprocal_171 ?_
            refine x_lmul hx hb dX4_isReciprocal_174 ?_
            refine x_put (ci := 4) (C := RX4) (T := TX4) (N := 10) (own := RX4) (index := 70) hx hb hts (by decide +kernel) tyX4 tyX4_ok nmX4 hown hK hW.ob hS ⟨by omega, by omega⟩ rfl 8 (by decide) (by decide +kernel) rfl rfl rfl rfl (Nat.le_of_ble_eq_true rfl) dX4_isReciprocal_175 (fun H1 locs1 h1 hz1 hn1 hS => ?_)
            have hW := hW.putO h1 hn1
            refine lv_aload_n hx hb dX4_isReciprocal_178 rfl (lv_at hl 4 rfl) ?_
            refine x_wV (va_runV (As := []) (rest := []) ⟨hx, hb, hml, hown, hts⟩ (c_X4_lowers l G o b 0 (sum9 (rpT (tE (bS b q y) (bN b q y) (k)) (relN b q y (k) (tE (bS b q y) (bN b q y) (k)))) (k) j) ((subI (tE (bS b q y) (bN b q y) (k) - k - relN b q y (k) (tE (bS b q y) (bN b q y) (k))) (relN b q y (k) (tE (bS b q y) (bN b q y) (k)))) * 232792560) ((rpZ b q y).toNat) ((rwZ b q y).toNat) (by omega) (by omega) (by omega) (by omega) (by omega)) (cwV 0 hts gX4_isReciprocal_X4_lowers rfl rfl rfl (by decide +kernel) ⟨Nat.le_of_ble_eq_true rfl, Nat.le_of_ble_eq_true rfl⟩) (x_preM hW hi hK) rfl rfl hl.1 rfl (lv_room (Nat.le_of_ble_eq_true rfl)) dX4_isReciprocal_179 ⟨Nat.le_of_ble_eq_true rfl, Nat.le_of_ble_eq_true rfl⟩) hS (fun q _ h => h) (fun q h => h) (fun H1 locs1 hW1 hz1 hk1 hS => ?_)
            have hW := hW1
            refine x_iconst hx hb dX4_isReciprocal_182 ?_
            have hW : ∃ ov2 un2, MW G o b (kR ((0 ≤ (y : Int) ∧ (y : Int) < 4) ∧ (0 ≤ (q : Int) ∧ (q : Int) < 8)) 0) ov2 un2 _ ∧ (((0 ≤ (y : Int) ∧ (y : Int) < 4) ∧ (0 ≤ (q : Int) ∧ (q : Int) < 8)) → ov2 = (redN ((rpZ b q y).toNat) ((rwZ b q y).toNat) : Int) ∧ un2 = (redN ((rwZ b q y).toNat) ((rpZ b q y).toNat) : Int)) := ⟨_, _, hW.th (kR_t (by omega) rfl).symm, fun _ => ⟨rfl, rfl⟩⟩
            exact W.zret hx hb hr (x_nar (by omega)) (fun t ht _ => ⟨⟨_, (), rfl, congrArg zI ((bI_t (by omega)).symm), _, ht, hW⟩, hS.F ht⟩) hS.2.2 dX4_isReciprocal_183
          · refine lv_aload_n hx hb dX4_isReciprocal_121 rfl (lv_at hl 4 rfl) ?_
            refine lv_dup hx hb dX4_isReciprocal_122 rfl ?_
            refine x_get (ci := 4) (C := RX4) (T := TX4) (N := 10) (own := RX4) (index := 66) (v := .long (lI (sum9 (rpT (tE (bS b q y) (bN b q y) (k)) (relN b q y (k) (tE (bS b q y) (bN b q y) (k)))) (k) j))) hx hb hts (by decide +kernel) hown hK hW.ob rfl 7 (by decide) (by decide +kernel) rfl rfl dX4_isReciprocal_123 ?_
            refine lv_iload hx hb dX4_isReciprocal_126 (lv_at hl 2 rfl) ?_
            refine lv_iload hx hb dX4_isReciprocal_128 (lv_at hl 0 rfl) ?_
            refine x_isub hx hb dX4_isReciprocal_130 ?_
            refine x_iconst hx hb dX4_isReciprocal_131 ?_
            refine x_isub hx hb dX4_isReciprocal_132 ?_
            refine lv_iload hx hb dX4_isReciprocal_133 (lv_at hl 1 rfl) ?_
            refine x_iconst hx hb dX4_isReciprocal_135 ?_
            refine x_isub hx hb dX4_isReciprocal_136 ?_
            refine x_cL (va_runS (As := [.int (zI ((((tE (bS b q y) (bN b q y) (k) : Int) - (k : Int)) - (j : Int)) - 1)), .int (zI ((relN b q y (k) (tE (bS b q y) (bN b q y) (k)) : Int) - 1))]) (rest := [.long (lI (sum9 (rpT (tE (bS b q y) (bN b q y) (k)) (relN b q y (k) (tE (bS b q y) (bN b q y) (k)))) (k) j)), .ref o]) ⟨hx, hb, hml, hown, hts⟩ (c_X4_ways l ((((tE (bS b q y) (bN b q y) (k) : Int) - (k : Int)) - (j : Int)) - 1) ((relN b q y (k) (tE (bS b q y) (bN b q y) (k)) : Int) - 1) (tE (bS b q y) (bN b q y) (k) - (k + j + 1) - (relN b q y (k) (tE (bS b q y) (bN b q y) (k)) - 1)) (relN b q y (k) (tE (bS b q y) (bN b q y) (k)) - 1) (by omega) (by omega) (by omega)) (va_cwS 2 hts gX4_isReciprocal_X4_ways rfl rfl rfl (by decide +kernel) ⟨Nat.le_of_ble_eq_true rfl, Nat.le_of_ble_eq_true rfl⟩) x_preS rfl rfl hl.1 rfl (lv_room (Nat.le_of_ble_eq_true rfl)) dX4_isReciprocal_137 ⟨Nat.le_of_ble_eq_true rfl, Nat.le_of_ble_eq_true rfl⟩) ?_
            refine lv_ldc2 (v := lI 232792560) hx hb hown (by rw [show lI 232792560 = (232792560 : Int64) from by decide +kernel]; exact hts (.constantLong RX4 64 232792560) (by decide +kernel)) dX4_isReciprocal_140 ?_
            refine lv_iload hx hb dX4_isReciprocal_143 (lv_at hl 3 rfl) ?_
            refine lv_iload hx hb dX4_isReciprocal_145 (lv_at hl 0 rfl) ?_
            refine x_iadd hx hb dX4_isReciprocal_147 ?_
            refine x_iconst hx hb dX4_isReciprocal_148 ?_
            refine x_iadd hx hb dX4_isReciprocal_149 ?_
            refine x_i2l hx hb (by omega) dX4_isReciprocal_150 ?_
            refine x_ldiv hx hb (by omega) (by omega) dX4_isReciprocal_151 ?_
            refine x_lmul hx hb dX4_isReciprocal_152 ?_
            refine x_ladd hx hb dX4_isReciprocal_153 ?_
            refine x_put (ci := 4) (C := RX4) (T := TX4) (N := 10) (own := RX4) (index := 66) hx hb hts (by decide +kernel) tyX4 tyX4_ok nmX4 hown hK hW.ob hS ⟨by omega, by omega⟩ rfl 7 (by decide) (by decide +kernel) rfl rfl rfl rfl (Nat.le_of_ble_eq_true rfl) dX4_isReciprocal_154 (fun H1 locs1 h1 hz1 hn1 hS => ?_)
            have hW := hW.putO h1 hn1
            refine x_iinc (lv' := [(7, .int (zI ((j : Int) + 1))), (6, .int (zI (relN b q y (k) (tE (bS b q y) (bN b q y) (k)) : Int))), (5, .int (zI ((tE (bS b q y) (bN b q y) (k) : Int) - (k : Int)))), (4, .int (zI (k : Int))), (0, .ref o)]) (k := 0) hx hb dX4_isReciprocal_157 hl rfl (by decide) rfl (fun ls hl => ?_)
            refine lv_goto (tgt := 111) hx hb dX4_isReciprocal_160 (by decide) ?_
            exact ih111 (j + 1) _ _ ls (by exact ⟨(by omega), (hW.ou (rp_step (tE (bS b q y) (bN b q y) (k)) (relN b q y (k) (tE (bS b q y) (bN b q y) (k))) k j) rfl), (hS)⟩) (show tE (bS b q y) (bN b q y) (k) + 1 - relN b q y (k) (tE (bS b q y) (bN b q y) (k)) - k - (j + 1) < tE (bS b q y) (bN b q y) (k) + 1 - relN b q y (k) (tE (bS b q y) (bN b q y) (k)) - k - j from (by omega)) (lv_cons (x_at (lv_at hl 0 rfl) (by omega)) (lv_cons (lv_at hl 1 rfl) (lv_cons (lv_at hl 2 rfl) (lv_cons (lv_at hl 3 rfl) (lv_cons (lv_at hl 4 rfl) (lv_nil hl))))))
      · have hz0 := h12
        refine lv_aload_n hx hb dX4_isReciprocal_49 rfl (lv_at hl 1 rfl) ?_
        refine lv_iload_n hx hb dX4_isReciprocal_50 rfl (lv_at hl 2 rfl) ?_
        refine lv_iload hx hb dX4_isReciprocal_51 (lv_at hl 0 rfl) ?_
        refine x_cI (va_runV (As := [.int (zI ((8 * (y : Int)) + (q : Int))), .int (zI (k : Int))]) (rest := []) ⟨hx, hb, hml, hown, hts⟩ (c_X4_tieEnd l G o b 0 ov un q y (by omega) (by omega) ((8 * (y : Int)) + (q : Int)) (by omega) (k : Int) (k) (by omega) (by omega)) (cwV 2 hts gX4_isReciprocal_X4_tieEnd rfl rfl rfl (by decide +kernel) ⟨Nat.le_of_ble_eq_true rfl, Nat.le_of_ble_eq_true rfl⟩) (x_preM hW hi hK) rfl rfl hl.1 rfl (lv_room (Nat.le_of_ble_eq_true rfl)) dX4_isReciprocal_53 ⟨Nat.le_of_ble_eq_true rfl, Nat.le_of_ble_eq_true rfl⟩) ?_
        refine lv_istore (lv' := [(4, .int (zI (tE (bS b q y) (bN b q y) (k) : Int))), (0, .ref o), (3, .int (zI ((8 * (y : Int)) + (q : Int))))]) hx hb dX4_isReciprocal_56 hl (by decide) rfl (fun ls hl => ?_)
        refine lv_goto (tgt := 21) hx hb dX4_isReciprocal_58 (by decide) ?_
        exact ih21 (tE (bS b q y) (bN b q y) (k)) ls (show ((tE (bS b q y) (bN b q y) (k)) ≤ bN b q y) ∧ ((tE (bS b q y) (bN b q y) (k)) = bN b q y ∨ isSt (bS b q y) (tE (bS b q y) (bN b q y) (k))) ∧ (∀ j, j < (tE (bS b q y) (bN b q y) (k)) → relP b q y j = false) from ⟨(by omega), (tE_st (by omega)), (fun j hj => by rcases Nat.lt_or_ge j k with h | h; exact hm j h; exact bne9 (fun hp => absurd (cnt9_pos (P := relP b q y) (lo := k) (n := min (tE (bS b q y) (bN b q y) k) (bN b q y) - k) (k := j - k) (by omega) (by rw [show k + (j - k) = j from by omega]; exact hp)) (by unfold relN at hz0; omega)))⟩) (show bN b q y - (tE (bS b q y) (bN b q y) (k)) < bN b q y - k from (by omega)) (lv_cons (lv_at hl 0 rfl) (lv_cons (lv_at hl 1 rfl) (lv_cons (lv_at hl 2 rfl) (lv_nil hl))))
  · replace hW := hW.th (kR_f h2)
    refine x_iconst hx hb dX4_isReciprocal_9 ?_
    have hW : ∃ ov2 un2, MW G o b (kR ((0 ≤ zs ∧ zs < 4) ∧ (0 ≤ zq ∧ zq < 8)) 0) ov2 un2 _ ∧ (((0 ≤ zs ∧ zs < 4) ∧ (0 ≤ zq ∧ zq < 8)) → ov2 = (redN ((rpZ b zq.toNat zs.toNat).toNat) ((rwZ b zq.toNat zs.toNat).toNat) : Int) ∧ un2 = (redN ((rwZ b zq.toNat zs.toNat).toNat) ((rpZ b zq.toNat zs.toNat).toNat) : Int)) := ⟨_, _, hW.th (kR_f (by omega)).symm, fun h9 => absurd h9 (by omega)⟩
    exact W.zret hx hb hr (x_nar (by omega)) (fun t ht _ => ⟨⟨_, (), rfl, congrArg zI ((bI_f (by omega)).symm), _, ht, hW⟩, hS.F ht⟩) hS.2.2 dX4_isReciprocal_10
set_option maxHeartbeats 4000000 in
set_option maxRecDepth 100000 in
theorem c_X4_reciprocalNumerator (l : Launch) (G : XG) (o : Nat) (b : XB) (th ov un : Int) (zs : Int) (hzs : -2147483648 ≤ zs ∧ zs < 2147483648) (zq : Int) (hzq : -2147483648 ≤ zq ∧ zq < 2147483648) : MetQL l yX4_reciprocalNumerator wsX4_reciprocalNumerator (rmF 3 71) G o b th ov un [.ref o, .int (zI zs), .int (zI zq)] (kR ((0 ≤ zs ∧ zs < 4) ∧ (0 ≤ zq ∧ zq < 8)) 0) (redN ((rpZ b zq.toNat zs.toNat).toNat) ((rwZ b zq.toNat zs.toNat).toNat) : Int) b := by
  refine Met.ofW (cc := cX4_reciprocalNumerator) (maxL := 3) (ret := (some .long)) (by decide) rfl ?_
  intro p e s m args below meth c s₁ B hml hv
  obtain ⟨rfl, hW, hi, hK⟩ := hv
  have hx := B.exec
  have hb := B.bytes
  have hr := B.returns
  have hts := atoms_spec (ws := wsX4_reciprocalNumerator) B.pre
  have hown : s.vm.findClass RX4 = some m.cls := findClass_of_methodNamed B.named
  have hlocks := B.notSynchronized
  have hl := lv_entry ([.ref o, .int (zI zs), .int (zI zq)]) (n := 3) (Nat.le_of_ble_eq_true rfl)
  rw [lg_entry_eq]
  generalize (lg_sl ([.ref o, .int (zI zs), .int (zI zq)]) ++ List.replicate (3 - (lg_sl ([.ref o, .int (zI zs), .int (zI zq)])).length) Slot.unset).toArray = ls at hl ⊢
  have hl : lv_has ls 3 [(0, .ref o), (1, .int (zI zs)), (2, .int (zI zq))] := hl
  have hS : va_S (mA o) s.heap s.heap [] := va_S.rf
  refine lv_aload_n hx hb dX4_reciprocalNumerator_0 rfl (lv_at hl 0 rfl) ?_
  refine lv_iload_n hx hb dX4_reciprocalNumerator_1 rfl (lv_at hl 1 rfl) ?_
  refine lv_iload_n hx hb dX4_reciprocalNumerator_2 rfl (lv_at hl 2 rfl) ?_
  refine x_wI (va_runV (As := [.int (zI zs), .int (zI zq)]) (rest := []) ⟨hx, hb, hml, hown, hts⟩ (c_X4_isReciprocal l G o b th ov un zs (by omega) zq (by omega)) (cwV 2 hts gX4_reciprocalNumerator_X4_isReciprocal rfl rfl rfl (by decide +kernel) ⟨Nat.le_of_ble_eq_true rfl, Nat.le_of_ble_eq_true rfl⟩) (x_preM hW hi hK) rfl rfl hl.1 rfl (lv_room (Nat.le_of_ble_eq_true rfl)) dX4_reciprocalNumerator_3 ⟨Nat.le_of_ble_eq_true rfl, Nat.le_of_ble_eq_true rfl⟩) hS (fun q _ h => h) (fun q h => h) (fun H1 locs1 hW1 hz1 hk1 hS => ?_)
  obtain ⟨ov9, un9, hW, hou9⟩ := hW1
  refine x_ifB_eq (tgt := 16) hx hb dX4_reciprocalNumerator_6 (by decide) (fun h1 => ?_) (fun h2 => ?_)
  · replace hW := hW.th (kR_f h1)
    refine lv_lconst (v := lI 0) hx hb dX4_reciprocalNumerator_16 (by decide +kernel) ?_
    exact x_qL hx hb hr (kR_f (by omega)) (no1) hW (if0_1) hS dX4_reciprocalNumerator_17 hlocks
  · replace hW := hW.th (kR_t h2 rfl)
    refine lv_aload_n hx hb dX4_reciprocalNumerator_9 rfl (lv_at hl 0 rfl) ?_
    refine x_get (ci := 4) (C := RX4) (T := TX4) (N := 10) (own := RX4) (index := 66) (v := .long (lI ov9)) hx hb hts (by decide +kernel) hown hK hW.ob rfl 7 (by decide) (by decide +kernel) rfl rfl dX4_reciprocalNumerator_10 ?_
    refine lv_goto (tgt := 17) hx hb dX4_reciprocalNumerator_13 (by decide) ?_
    exact x_qL hx hb hr (kR_t (by omega) rfl) (fun _ => (hou9 (by omega)).1) hW (if0_t) hS dX4_reciprocalNumerator_17 hlocks
set_option maxHeartbeats 4000000 in
set_option maxRecDepth 100000 in
theorem c_X4_reciprocalDenominator (l : Launch) (G : XG) (o : Nat) (b : XB) (th ov un : Int) (zs : Int) (hzs : -2147483648 ≤ zs ∧ zs < 2147483648) (zq : Int) (hzq : -2147483648 ≤ zq ∧ zq < 2147483648) : MetQL l yX4_reciprocalDenominator wsX4_reciprocalDenominator (rmF 3 71) G o b th ov un [.ref o, .int (zI zs), .int (zI zq)] (kR ((0 ≤ zs ∧ zs < 4) ∧ (0 ≤ zq ∧ zq < 8)) 0) (redN ((rwZ b zq.toNat zs.toNat).toNat) ((rpZ b zq.toNat zs.toNat).toNat) : Int) b := by
  refine Met.ofW (cc := cX4_reciprocalDenominator) (maxL := 3) (ret := (some .long)) (by decide) rfl ?_
  intro p e s m args below meth c s₁ B hml hv
  obtain ⟨rfl, hW, hi, hK⟩ := hv
  have hx := B.exec
  have hb := B.bytes
  have hr := B.returns
  have hts := atoms_spec (ws := wsX4_reciprocalDenominator) B.pre
  have hown : s.vm.findClass RX4 = some m.cls := findClass_of_methodNamed B.named
  have hlocks := B.notSynchronized
  have hl := lv_entry ([.ref o, .int (zI zs), .int (zI zq)]) (n := 3) (Nat.le_of_ble_eq_true rfl)
  rw [lg_entry_eq]
  generalize (lg_sl ([.ref o, .int (zI zs), .int (zI zq)]) ++ List.replicate (3 - (lg_sl ([.ref o, .int (zI zs), .int (zI zq)])).length) Slot.unset).toArray = ls at hl ⊢
  have hl : lv_has ls 3 [(0, .ref o), (1, .int (zI zs)), (2, .int (zI zq))] := hl
  have hS : va_S (mA o) s.heap s.heap [] := va_S.rf
  refine lv_aload_n hx hb dX4_reciprocalDenominator_0 rfl (lv_at hl 0 rfl) ?_
  refine lv_iload_n hx hb dX4_reciprocalDenominator_1 rfl (lv_at hl 1 rfl) ?_
  refine lv_iload_n hx hb dX4_reciprocalDenominator_2 rfl (lv_at hl 2 rfl) ?_
  refine x_wI (va_runV (As := [.int (zI zs), .int (zI zq)]) (rest := []) ⟨hx, hb, hml, hown, hts⟩ (c_X4_isReciprocal l G o b th ov un zs (by omega) zq (by omega)) (cwV 2 hts gX4_reciprocalDenominator_X4_isReciprocal rfl rfl rfl (by decide +kernel) ⟨Nat.le_of_ble_eq_true rfl, Nat.le_of_ble_eq_true rfl⟩) (x_preM hW hi hK) rfl rfl hl.1 rfl (lv_room (Nat.le_of_ble_eq_true rfl)) dX4_reciprocalDenominator_3 ⟨Nat.le_of_ble_eq_true rfl, Nat.le_of_ble_eq_true rfl⟩) hS (fun q _ h => h) (fun q h => h) (fun H1 locs1 hW1 hz1 hk1 hS => ?_)
  obtain ⟨ov9, un9, hW, hou9⟩ := hW1
  refine x_ifB_eq (tgt := 16) hx hb dX4_reciprocalDenominator_6 (by decide) (fun h1 => ?_) (fun h2 => ?_)
  · replace hW := hW.th (kR_f h1)
    refine lv_lconst (v := lI 0) hx hb dX4_reciprocalDenominator_16 (by decide +kernel) ?_
    exact x_qL hx hb hr (kR_f (by omega)) (no1) hW (if0_1) hS dX4_reciprocalDenominator_17 hlocks
  · replace hW := hW.th (kR_t h2 rfl)
    refine lv_aload_n hx hb dX4_reciprocalDenominator_9 rfl (lv_at hl 0 rfl) ?_
    refine x_get (ci := 4) (C := RX4) (T := TX4) (N := 10) (own := RX4) (index := 70) (v := .long (lI un9)) hx hb hts (by decide +kernel) hown hK hW.ob rfl 8 (by decide) (by decide +kernel) rfl rfl dX4_reciprocalDenominator_10 ?_
    refine lv_goto (tgt := 17) hx hb dX4_reciprocalDenominator_13 (by decide) ?_
    exact x_qL hx hb hr (kR_t (by omega) rfl) (fun _ => (hou9 (by omega)).2) hW (if0_t) hS dX4_reciprocalDenominator_17 hlocks
def mx (n : Nat) : Int := if n = 0 then 1 else (n : Int)
theorem mx_pos (n : Nat) : 1 ≤ mx n := by unfold mx; split <;> omega
theorem fr_sh {b : XB} {y : Nat} {de : Int} (h : frN b y = 0) : shP b y de = 0 := by
  refine sum9_zero (fun i hi => ?_)
  have h0 : bN b i y = 0 := by
    rcases Nat.eq_zero_or_pos (bN b i y) with a | a
    · exact a
    · have := cnt9_pos (P := fun q => decide (0 < bN b q y)) (lo := 0) (n := 8) (k := i) hi (by rw [Nat.zero_add]; exact decide_eq_true a)
      unfold frN at h
      omega
  rw [Nat.zero_add]
  show sum9 _ 0 (bN b i y) = 0
  rw [h0]
  rfl
def bJv (b : XB) (de : Int) (t : Nat × Int × Int) : Prop := (t.2.1 = shP b t.1 de ∧ t.2.2 = (frN b t.1 : Int) ∧ 0 < t.2.1) ∨ (t.2.1 = 0 ∧ t.2.2 = 1 ∧ shP b t.1 de = 0)
theorem bst_one (b : XB) (de : Int) : (bstAt b de 1).1 = 0 := by
  show (if _ then _ else _ : Nat × Int × Int).1 = 0
  split <;> rfl
theorem bst_J {b : XB} (hi : bInv b) (de : Int) : ∀ k, bJv b de (bstAt b de (k + 1))
  | 0 => by
    have h := shP_bd hi 0 de
    unfold bstAt
    split
    · rename_i h1
      exact Or.inl ⟨rfl, rfl, by simp only [bstAt] at h1 ⊢; omega⟩
    · rename_i h1
      exact Or.inr ⟨rfl, rfl, by simp only [bstAt] at h1 ⊢; omega⟩
  | k + 1 => by
    have ih := bst_J hi de k
    have h := shP_bd hi (k + 1) de
    unfold bstAt
    split
    · rename_i h1
      refine Or.inl ⟨rfl, rfl, ?_⟩
      show 0 < shP b (k + 1) de
      rcases Int.lt_or_le 0 (shP b (k + 1) de) with a | a
      · exact a
      · exfalso
        have e : shP b (k + 1) de = 0 := by omega
        rw [e, Int.zero_mul] at h1
        have hb := bst_bd hi de (k + 1)
        have := Int.mul_nonneg hb.2.1.1 (show (0 : Int) ≤ (frN b (k + 1) : Int) from by omega)
        omega
    · exact ih
theorem bst_cmp {b : XB} (hi : bInv b) {de : Int} {k : Nat} (hk : 1 ≤ k) : shP b (bstAt b de k).1 de * mx (frN b k) < shP b k de * mx (frN b (bstAt b de k).1) ↔ (bstAt b de k).2.1 * (frN b k : Int) < shP b k de * (bstAt b de k).2.2 := by
  obtain ⟨j, rfl⟩ : ∃ j, k = j + 1 := ⟨k - 1, by omega⟩
  have hp := shP_bd hi (j + 1) de
  rcases bst_J hi de j with ⟨h1, h2, h3⟩ | ⟨h1, h2, h3⟩
  · have hf : ¬ frN b (bstAt b de (j + 1)).1 = 0 := fun z => by
      have := fr_sh (de := de) z
      omega
    have e1 : mx (frN b (bstAt b de (j + 1)).1) = (frN b (bstAt b de (j + 1)).1 : Int) := if_neg hf
    rw [h2, e1]
    by_cases hz : frN b (j + 1) = 0
    · have e2 : mx (frN b (j + 1)) = 1 := if_pos hz
      rw [fr_sh (de := de) hz, e2, hz, ← h1]
      simp only [Int.zero_mul, Int.mul_one]
      rw [show ((0 : Nat) : Int) = 0 from rfl, Int.mul_zero]
      omega
    · have e2 : mx (frN b (j + 1)) = (frN b (j + 1) : Int) := if_neg hz
      rw [e2, h1]
  · rw [h1, h2, h3, Int.zero_mul, Int.zero_mul, Int.mul_one]
    have hm := mx_pos (frN b (bstAt b de (j + 1)).1)
    constructor
    · intro h
      rcases Int.lt_or_le 0 (shP b (j + 1) de) with a | a
      · exact a
      · have e : shP b (j + 1) de = 0 := by omega
        rw [e, Int.zero_mul] at h
        omega
    · intro h
      exact Int.mul_pos h (by omega)
theorem bst_mt {b : XB} (hi : bInv b) {de : Int} {k : Nat} (hk : 1 ≤ k) {i9 o9 : Int} (h1 : i9 = shP b k de * mx (frN b (bstAt b de k).1)) (h2 : o9 = shP b (bstAt b de k).1 de * mx (frN b k)) (h : 0 < cmpZ i9 o9) : k = (bstAt b de (k + 1)).1 := by
  have hc := cmpZ_le i9 o9
  have := (bst_cmp hi (de := de) hk).mp (by rw [← h1, ← h2]; omega)
  rw [bstAt, if_pos this]
theorem bst_mf {b : XB} (hi : bInv b) {de : Int} {k : Nat} (hk : 1 ≤ k) {i9 o9 : Int} (h1 : i9 = shP b k de * mx (frN b (bstAt b de k).1)) (h2 : o9 = shP b (bstAt b de k).1 de * mx (frN b k)) (h : cmpZ i9 o9 ≤ 0) : (bstAt b de k).1 = (bstAt b de (k + 1)).1 := by
  have hc := cmpZ_le i9 o9
  rw [bstAt, if_neg (fun x => by
    have := (bst_cmp hi (de := de) hk).mpr x
    rw [← h1, ← h2] at this
    omega)]
set_option maxHeartbeats 4000000 in
set_option maxRecDepth 100000 in
theorem c_X4_best (l : Launch) (G : XG) (o : Nat) (b : XB) (th ov un : Int) (zr : Int) (hzr : -2147483648 ≤ zr ∧ zr < 2147483648) : MetQI l yX4_best wsX4_best (rmF 3 77) G o b th ov un [.ref o, .int (zI zr)] (kR (1 ≤ zr ∧ zr ≤ 20) 0) (bestN b zr : Int) b := by
  refine Met.ofW (cc := cX4_best) (maxL := 8) (ret := (some .int)) (by decide) rfl ?_
  intro p e s m args below meth c s₁ B hml hv
  obtain ⟨rfl, hW, hi, hK⟩ := hv
  have hx := B.exec
  have hb := B.bytes
  have hr := B.returns
  have hts := atoms_spec (ws := wsX4_best) B.pre
  have hown : s.vm.findClass RX4 = some m.cls := findClass_of_methodNamed B.named
  have hlocks := B.notSynchronized
  have hl := lv_entry ([.ref o, .int (zI zr)]) (n := 8) (Nat.le_of_ble_eq_true rfl)
  rw [lg_entry_eq]
  generalize (lg_sl ([.ref o, .int (zI zr)]) ++ List.replicate (8 - (lg_sl ([.ref o, .int (zI zr)])).length) Slot.unset).toArray = ls at hl ⊢
  have hl : lv_has ls 8 [(0, .ref o), (1, .int (zI zr))] := hl
  have hS : va_S (mA o) s.heap s.heap [] := va_S.rf
  refine lv_aload_n hx hb dX4_best_0 rfl (lv_at hl 0 rfl) ?_
  refine lv_iload_n hx hb dX4_best_1 rfl (lv_at hl 1 rfl) ?_
  refine x_iconst hx hb dX4_best_2 ?_
  refine lv_bipush (v := zI 20) hx hb dX4_best_3 (by decide +kernel) ?_
  refine x_cI (va_runS (As := [.int (zI zr), .int (zI 1), .int (zI 20)]) (rest := [.ref o]) ⟨hx, hb, hml, hown, hts⟩ (c_X4_in l zr (by omega) 1 (by omega) 20 (by omega)) (va_cwS 3 hts gX4_best_X4_in rfl rfl rfl (by decide +kernel) ⟨Nat.le_of_ble_eq_true rfl, Nat.le_of_ble_eq_true rfl⟩) x_preS rfl rfl hl.1 rfl (lv_room (Nat.le_of_ble_eq_true rfl)) dX4_best_5 ⟨Nat.le_of_ble_eq_true rfl, Nat.le_of_ble_eq_true rfl⟩) ?_
  refine x_ifB_eq (tgt := 15) hx hb dX4_best_8 (by decide) (fun h1 => ?_) (fun h2 => ?_)
  · refine x_iconst hx hb dX4_best_15 ?_
    refine x_put (ci := 4) (C := RX4) (T := TX4) (N := 10) (own := RX4) (index := 28) hx hb hts (by decide +kernel) tyX4 tyX4_ok nmX4 hown hK hW.ob hS ⟨by omega, by omega⟩ rfl 9 (by decide) (by decide +kernel) rfl rfl rfl rfl (Nat.le_of_ble_eq_true rfl) dX4_best_16 (fun H1 locs1 h1 hz1 hn1 hS => ?_)
    have hW := hW.putO h1 hn1
    refine x_iconst hx hb dX4_best_19 ?_
    refine lv_istore_n (lv' := [(2, .int (zI 0)), (0, .ref o), (1, .int (zI zr))]) hx hb dX4_best_20 rfl hl (by decide) rfl (fun ls hl => ?_)
    refine x_iconst hx hb dX4_best_21 ?_
    refine lv_istore_n (lv' := [(3, .int (zI 1)), (2, .int (zI 0)), (0, .ref o), (1, .int (zI zr))]) hx hb dX4_best_22 rfl hl (by decide) rfl (fun ls hl => ?_)
    refine x_loop1 (fun (k : Nat) => (k ≤ 4) ∧ (1 ≤ k)) (fun (k : Nat) => 4 - k) (fun (k : Nat) => [(3, .int (zI (k : Int))), (2, .int (zI ((bstAt b zr k).1 : Int))), (0, .ref o), (1, .int (zI zr))]) (1) (show ((1) ≤ 4) ∧ (1 ≤ (1)) from ⟨(by omega), (Nat.le_refl _)⟩) (show lv_has ls 8 [(3, .int (zI ((1) : Int))), (2, .int (zI ((bstAt b zr (1)).1 : Int))), (0, .ref o), (1, .int (zI zr))] from (lv_cons (x_at (lv_at hl 0 rfl) (by omega)) (lv_cons (x_at (lv_at hl 1 rfl) (congrArg Nat.cast (bst_one b zr).symm)) (lv_cons (lv_at hl 2 rfl) (lv_cons (lv_at hl 3 rfl) (lv_nil hl)))))) (fun k ls hI23 hl ih23 => ?_)
    obtain ⟨hk, hk1⟩ : (k ≤ 4) ∧ (1 ≤ k) := hI23
    have hl : lv_has ls 8 [(3, .int (zI (k : Int))), (2, .int (zI ((bstAt b zr k).1 : Int))), (0, .ref o), (1, .int (zI zr))] := hl
    have hbb := bst_bd hi zr k
    have hf1 := frN_le b k
    have hf2 := frN_le b (bstAt b zr k).1
    have hs1 := shP_bd hi k zr
    have hs2 := shP_bd hi (bstAt b zr k).1 zr
    have hp1 := mul_rng hs1 (y := (frN b (bstAt b zr k).1 : Int)) (by omega)
    have hp2 := mul_rng hs2 (y := (frN b k : Int)) (by omega)
    refine lv_iload_n hx hb dX4_best_23 rfl (lv_at hl 0 rfl) ?_
    refine x_iconst hx hb dX4_best_24 ?_
    refine x_icmp_ge (tgt := 109) hx hb dX4_best_25 (by decide) (by omega) (fun h3 => ?_) (fun h4 => ?_)
    · refine lv_aload_n hx hb dX4_best_109 rfl (lv_at hl 2 rfl) ?_
      refine x_get (ci := 4) (C := RX4) (T := TX4) (N := 10) (own := RX4) (index := 28) (v := .int (zI 1)) hx hb hts (by decide +kernel) hown hK hW.ob rfl 9 (by decide) (by decide +kernel) rfl rfl dX4_best_110 ?_
      refine x_if_ne (tgt := 120) hx hb dX4_best_113 (by decide) (by omega) (fun h5 => ?_) (fun h6 => ?_)
      · refine x_iconst hx hb dX4_best_120 ?_
        exact x_qI hx hb hr (kR_f (by omega)) (no1) hW (if0_1) hS dX4_best_121 hlocks
      · exact absurd h6 (by omega)
    · refine lv_aload_n hx hb dX4_best_28 rfl (lv_at hl 2 rfl) ?_
      refine x_get (ci := 4) (C := RX4) (T := TX4) (N := 10) (own := RX4) (index := 28) (v := .int (zI 1)) hx hb hts (by decide +kernel) hown hK hW.ob rfl 9 (by decide) (by decide +kernel) rfl rfl dX4_best_29 ?_
      refine x_if_ne (tgt := 109) hx hb dX4_best_32 (by decide) (by omega) (fun h7 => ?_) (fun h8 => ?_)
      · refine lv_aload_n hx hb dX4_best_109 rfl (lv_at hl 2 rfl) ?_
        refine x_get (ci := 4) (C := RX4) (T := TX4) (N := 10) (own := RX4) (index := 28) (v := .int (zI 1)) hx hb hts (by decide +kernel) hown hK hW.ob rfl 9 (by decide) (by decide +kernel) rfl rfl dX4_best_110 ?_
        refine x_if_ne (tgt := 120) hx hb dX4_best_113 (by decide) (by omega) (fun h9 => ?_) (fun h10 => ?_)
        · refine x_iconst hx hb dX4_best_120 ?_
          exact x_qI hx hb hr (kR_f (by omega)) (no1) hW (if0_1) hS dX4_best_121 hlocks
        · exact absurd h10 (by omega)
      · exact absurd h8 (by omega)
  · refine x_iconst hx hb dX4_best_11 ?_
    refine lv_goto (tgt := 16) hx hb dX4_best_12 (by decide) ?_
    refine x_put (ci := 4) (C := RX4) (T := TX4) (N := 10) (own := RX4) (index := 28) hx hb hts (by decide +kernel) tyX4 tyX4_ok nmX4 hown hK hW.ob hS ⟨by omega, by omega⟩ rfl 9 (by decide) (by decide +kernel) rfl rfl rfl rfl (Nat.le_of_ble_eq_true rfl) dX4_best_16 (fun H1 locs1 h1 hz1 hn1 hS => ?_)
    have hW := hW.putO h1 hn1
    refine x_iconst hx hb dX4_best_19 ?_
    refine lv_istore_n (lv' := [(2, .int (zI 0)), (0, .ref o), (1, .int (zI zr))]) hx hb dX4_best_20 rfl hl (by decide) rfl (fun ls hl => ?_)
    refine x_iconst hx hb dX4_best_21 ?_
    refine lv_istore_n (lv' := [(3, .int (zI 1)), (2, .int (zI 0)), (0, .ref o), (1, .int (zI zr))]) hx hb dX4_best_22 rfl hl (by decide) rfl (fun ls hl => ?_)
    refine x_loop1 (fun (k : Nat) => (k ≤ 4) ∧ (1 ≤ k)) (fun (k : Nat) => 4 - k) (fun (k : Nat) => [(3, .int (zI (k : Int))), (2, .int (zI ((bstAt b zr k).1 : Int))), (0, .ref o), (1, .int (zI zr))]) (1) (show ((1) ≤ 4) ∧ (1 ≤ (1)) from ⟨(by omega), (Nat.le_refl _)⟩) (show lv_has ls 8 [(3, .int (zI ((1) : Int))), (2, .int (zI ((bstAt b zr (1)).1 : Int))), (0, .ref o), (1, .int (zI zr))] from (lv_cons (x_at (lv_at hl 0 rfl) (by omega)) (lv_cons (x_at (lv_at hl 1 rfl) (congrArg Nat.cast (bst_one b zr).symm)) (lv_cons (lv_at hl 2 rfl) (lv_cons (lv_at hl 3 rfl) (lv_nil hl)))))) (fun k ls hI23 hl ih23 => ?_)
    obtain ⟨hk, hk1⟩ : (k ≤ 4) ∧ (1 ≤ k) := hI23
    have hl : lv_has ls 8 [(3, .int (zI (k : Int))), (2, .int (zI ((bstAt b zr k).1 : Int))), (0, .ref o), (1, .int (zI zr))] := hl
    have hbb := bst_bd hi zr k
    have hf1 := frN_le b k
    have hf2 := frN_le b (bstAt b zr k).1
    have hs1 := shP_bd hi k zr
    have hs2 := shP_bd hi (bstAt b zr k).1 zr
    have hp1 := mul_rng hs1 (y := (frN b (bstAt b zr k).1 : Int)) (by omega)
    have hp2 := mul_rng hs2 (y := (frN b k : Int)) (by omega)
    refine lv_iload_n hx hb dX4_best_23 rfl (lv_at hl 0 rfl) ?_
    refine x_iconst hx hb dX4_best_24 ?_
    refine x_icmp_ge (tgt := 109) hx hb dX4_best_25 (by decide) (by omega) (fun h11 => ?_) (fun h12 => ?_)
    · refine lv_aload_n hx hb dX4_best_109 rfl (lv_at hl 2 rfl) ?_
      refine x_get (ci := 4) (C := RX4) (T := TX4) (N := 10) (own := RX4) (index := 28) (v := .int (zI 0)) hx hb hts (by decide +kernel) hown hK hW.ob rfl 9 (by decide) (by decide +kernel) rfl rfl dX4_best_110 ?_
      refine x_if_ne (tgt := 120) hx hb dX4_best_113 (by decide) (by omega) (fun h13 => ?_) (fun h14 => ?_)
      · exact absurd h13 (by omega)
      · refine lv_iload_n hx hb dX4_best_116 rfl (lv_at hl 1 rfl) ?_
        refine lv_goto (tgt := 121) hx hb dX4_best_117 (by decide) ?_
        exact x_qI hx hb hr (kR_t (by omega) rfl) (fun _ => by obtain rfl : k = 4 := (by omega); rfl) hW (if0_t) hS dX4_best_121 hlocks
    · refine lv_aload_n hx hb dX4_best_28 rfl (lv_at hl 2 rfl) ?_
      refine x_get (ci := 4) (C := RX4) (T := TX4) (N := 10) (own := RX4) (index := 28) (v := .int (zI 0)) hx hb hts (by decide +kernel) hown hK hW.ob rfl 9 (by decide) (by decide +kernel) rfl rfl dX4_best_29 ?_
      refine x_if_ne (tgt := 109) hx hb dX4_best_32 (by decide) (by omega) (fun h15 => ?_) (fun h16 => ?_)
      · exact absurd h15 (by omega)
      · refine lv_aload_n hx hb dX4_best_35 rfl (lv_at hl 2 rfl) ?_
        refine lv_iload_n hx hb dX4_best_36 rfl (lv_at hl 0 rfl) ?_
        refine lv_iload_n hx hb dX4_best_37 rfl (lv_at hl 3 rfl) ?_
        refine x_cL (va_runV (As := [.int (zI (k : Int)), .int (zI zr)]) (rest := []) ⟨hx, hb, hml, hown, hts⟩ (c_X4_allHits l G o b 0 ov un (k) (by omega) (k : Int) zr (by omega) (by omega)) (cwV 2 hts gX4_best_X4_allHits rfl rfl rfl (by decide +kernel) ⟨Nat.le_of_ble_eq_true rfl, Nat.le_of_ble_eq_true rfl⟩) (x_preM hW hi hK) rfl rfl hl.1 rfl (lv_room (Nat.le_of_ble_eq_true rfl)) dX4_best_38 ⟨Nat.le_of_ble_eq_true rfl, Nat.le_of_ble_eq_true rfl⟩) ?_
        refine lv_aload_n hx hb dX4_best_41 rfl (lv_at hl 2 rfl) ?_
        refine lv_iload_n hx hb dX4_best_42 rfl (lv_at hl 1 rfl) ?_
        refine x_cI (va_runV (As := [.int (zI ((bstAt b zr k).1 : Int))]) (rest := [.long (lI (shP b (k) zr))]) ⟨hx, hb, hml, hown, hts⟩ (c_X4_runsOf l G o b 0 ov un ((bstAt b zr k).1) (by omega) ((bstAt b zr k).1 : Int) (by omega)) (cwV 1 hts gX4_best_X4_runsOf rfl rfl rfl (by decide +kernel) ⟨Nat.le_of_ble_eq_true rfl, Nat.le_of_ble_eq_true rfl⟩) (x_preM hW hi hK) rfl rfl hl.1 rfl (lv_room (Nat.le_of_ble_eq_true rfl)) dX4_best_43 ⟨Nat.le_of_ble_eq_true rfl, Nat.le_of_ble_eq_true rfl⟩) ?_
        refine x_if_ne (tgt := 53) hx hb dX4_best_46 (by decide) (by omega) (fun h17 => ?_) (fun h18 => ?_)
        · refine lv_aload_n hx hb dX4_best_53 rfl (lv_at hl 2 rfl) ?_
          refine lv_iload_n hx hb dX4_best_54 rfl (lv_at hl 1 rfl) ?_
          refine x_cI (va_runV (As := [.int (zI ((bstAt b zr k).1 : Int))]) (rest := [.long (lI (shP b (k) zr))]) ⟨hx, hb, hml, hown, hts⟩ (c_X4_runsOf l G o b 0 ov un ((bstAt b zr k).1) (by omega) ((bstAt b zr k).1 : Int) (by omega)) (cwV 1 hts gX4_best_X4_runsOf rfl rfl rfl (by decide +kernel) ⟨Nat.le_of_ble_eq_true rfl, Nat.le_of_ble_eq_true rfl⟩) (x_preM hW hi hK) rfl rfl hl.1 rfl (lv_room (Nat.le_of_ble_eq_true rfl)) dX4_best_55 ⟨Nat.le_of_ble_eq_true rfl, Nat.le_of_ble_eq_true rfl⟩) ?_
          refine x_i2l hx hb (by omega) dX4_best_58 ?_
          refine x_lmul hx hb dX4_best_59 ?_
          refine lv_lstore (lv' := [(4, .long (lI ((shP b (k) zr) * (frN b ((bstAt b zr k).1) : Int)))), (3, .int (zI (k : Int))), (2, .int (zI ((bstAt b zr k).1 : Int))), (0, .ref o), (1, .int (zI zr))]) hx hb dX4_best_60 hl (by decide) rfl (fun ls hl => ?_)
          refine lv_aload_n hx hb dX4_best_62 rfl (lv_at hl 3 rfl) ?_
          refine lv_iload_n hx hb dX4_best_63 rfl (lv_at hl 2 rfl) ?_
          refine lv_iload_n hx hb dX4_best_64 rfl (lv_at hl 4 rfl) ?_
          refine x_cL (va_runV (As := [.int (zI ((bstAt b zr k).1 : Int)), .int (zI zr)]) (rest := []) ⟨hx, hb, hml, hown, hts⟩ (c_X4_allHits l G o b 0 ov un ((bstAt b zr k).1) (by omega) ((bstAt b zr k).1 : Int) zr (by omega) (by omega)) (cwV 2 hts gX4_best_X4_allHits rfl rfl rfl (by decide +kernel) ⟨Nat.le_of_ble_eq_true rfl, Nat.le_of_ble_eq_true rfl⟩) (x_preM hW hi hK) rfl rfl hl.1 rfl (lv_room (Nat.le_of_ble_eq_true rfl)) dX4_best_65 ⟨Nat.le_of_ble_eq_true rfl, Nat.le_of_ble_eq_true rfl⟩) ?_
          refine lv_aload_n hx hb dX4_best_68 rfl (lv_at hl 3 rfl) ?_
          refine lv_iload_n hx hb dX4_best_69 rfl (lv_at hl 1 rfl) ?_
          refine x_cI (va_runV (As := [.int (zI (k : Int))]) (rest := [.long (lI (shP b ((bstAt b zr k).1) zr))]) ⟨hx, hb, hml, hown, hts⟩ (c_X4_runsOf l G o b 0 ov un (k) (by omega) (k : Int) (by omega)) (cwV 1 hts gX4_best_X4_runsOf rfl rfl rfl (by decide +kernel) ⟨Nat.le_of_ble_eq_true rfl, Nat.le_of_ble_eq_true rfl⟩) (x_preM hW hi hK) rfl rfl hl.1 rfl (lv_room (Nat.le_of_ble_eq_true rfl)) dX4_best_70 ⟨Nat.le_of_ble_eq_true rfl, Nat.le_of_ble_eq_true rfl⟩) ?_
          refine x_if_ne (tgt := 80) hx hb dX4_best_73 (by decide) (by omega) (fun h19 => ?_) (fun h20 => ?_)
          · refine lv_aload_n hx hb dX4_best_80 rfl (lv_at hl 3 rfl) ?_
            refine lv_iload_n hx hb dX4_best_81 rfl (lv_at hl 1 rfl) ?_
            refine x_cI (va_runV (As := [.int (zI (k : Int))]) (rest := [.long (lI (shP b ((bstAt b zr k).1) zr))]) ⟨hx, hb, hml, hown, hts⟩ (c_X4_runsOf l G o b 0 ov un (k) (by omega) (k : Int) (by omega)) (cwV 1 hts gX4_best_X4_runsOf rfl rfl rfl (by decide +kernel) ⟨Nat.le_of_ble_eq_true rfl, Nat.le_of_ble_eq_true rfl⟩) (x_preM hW hi hK) rfl rfl hl.1 rfl (lv_room (Nat.le_of_ble_eq_true rfl)) dX4_best_82 ⟨Nat.le_of_ble_eq_true rfl, Nat.le_of_ble_eq_true rfl⟩) ?_
            refine x_i2l hx hb (by omega) dX4_best_85 ?_
            refine x_lmul hx hb dX4_best_86 ?_
            refine lv_lstore (lv' := [(6, .long (lI ((shP b ((bstAt b zr k).1) zr) * (frN b (k) : Int)))), (4, .long (lI ((shP b (k) zr) * (frN b ((bstAt b zr k).1) : Int)))), (3, .int (zI (k : Int))), (2, .int (zI ((bstAt b zr k).1 : Int))), (0, .ref o), (1, .int (zI zr))]) hx hb dX4_best_87 hl (by decide) rfl (fun ls hl => ?_)
            refine lv_lload hx hb dX4_best_89 (lv_at hl 1 rfl) ?_
            refine lv_lload hx hb dX4_best_91 (lv_at hl 0 rfl) ?_
            refine x_lcmp hx hb (by omega) dX4_best_93 ?_
            refine x_if_le (tgt := 101) hx hb dX4_best_94 (by decide) (x_cw _ _) (fun h21 => ?_) (fun h22 => ?_)
            · have HF := h21
              refine lv_iload_n hx hb dX4_best_101 rfl (lv_at hl 3 rfl) ?_
              refine lv_istore_n (lv' := [(2, .int (zI ((bstAt b zr k).1 : Int))), (6, .long (lI ((shP b ((bstAt b zr k).1) zr) * (frN b (k) : Int)))), (4, .long (lI ((shP b (k) zr) * (frN b ((bstAt b zr k).1) : Int)))), (3, .int (zI (k : Int))), (0, .ref o), (1, .int (zI zr))]) hx hb dX4_best_102 rfl hl (by decide) rfl (fun ls hl => ?_)
              refine x_iinc (lv' := [(3, .int (zI ((k : Int) + 1))), (2, .int (zI ((bstAt b zr k).1 : Int))), (6, .long (lI ((shP b ((bstAt b zr k).1) zr) * (frN b (k) : Int)))), (4, .long (lI ((shP b (k) zr) * (frN b ((bstAt b zr k).1) : Int)))), (0, .ref o), (1, .int (zI zr))]) (k := 3) hx hb dX4_best_103 hl rfl (by decide) rfl (fun ls hl => ?_)
              refine lv_goto (tgt := 23) hx hb dX4_best_106 (by decide) ?_
              exact ih23 (k + 1) ls (show ((k + 1) ≤ 4) ∧ (1 ≤ (k + 1)) from ⟨(by omega), (by omega)⟩) (show 4 - (k + 1) < 4 - k from (by omega)) (lv_cons (x_at (lv_at hl 0 rfl) (by omega)) (lv_cons (x_at (lv_at hl 1 rfl) (congrArg Nat.cast (bst_mf hi hk1 (by first | rw [mx, if_pos (by omega)] | rw [mx, if_neg (by omega)]) (by first | rw [mx, if_pos (by omega)] | rw [mx, if_neg (by omega)]) HF))) (lv_cons (lv_at hl 4 rfl) (lv_cons (lv_at hl 5 rfl) (lv_nil hl)))))
            · have HT := h22
              refine lv_iload_n hx hb dX4_best_97 rfl (lv_at hl 2 rfl) ?_
              refine lv_goto (tgt := 102) hx hb dX4_best_98 (by decide) ?_
              refine lv_istore_n (lv' := [(2, .int (zI (k : Int))), (6, .long (lI ((shP b ((bstAt b zr k).1) zr) * (frN b (k) : Int)))), (4, .long (lI ((shP b (k) zr) * (frN b ((bstAt b zr k).1) : Int)))), (3, .int (zI (k : Int))), (0, .ref o), (1, .int (zI zr))]) hx hb dX4_best_102 rfl hl (by decide) rfl (fun ls hl => ?_)
              refine x_iinc (lv' := [(3, .int (zI ((k : Int) + 1))), (2, .int (zI (k : Int))), (6, .long (lI ((shP b ((bstAt b zr k).1) zr) * (frN b (k) : Int)))), (4, .long (lI ((shP b (k) zr) * (frN b ((bstAt b zr k).1) : Int)))), (0, .ref o), (1, .int (zI zr))]) (k := 3) hx hb dX4_best_103 hl rfl (by decide) rfl (fun ls hl => ?_)
              refine lv_goto (tgt := 23) hx hb dX4_best_106 (by decide) ?_
              exact ih23 (k + 1) ls (show ((k + 1) ≤ 4) ∧ (1 ≤ (k + 1)) from ⟨(by omega), (by omega)⟩) (show 4 - (k + 1) < 4 - k from (by omega)) (lv_cons (x_at (lv_at hl 0 rfl) (by omega)) (lv_cons (x_at (lv_at hl 1 rfl) (congrArg Nat.cast (bst_mt hi hk1 (by first | rw [mx, if_pos (by omega)] | rw [mx, if_neg (by omega)]) (by first | rw [mx, if_pos (by omega)] | rw [mx, if_neg (by omega)]) HT))) (lv_cons (lv_at hl 4 rfl) (lv_cons (lv_at hl 5 rfl) (lv_nil hl)))))
          · refine x_iconst hx hb dX4_best_76 ?_
            refine lv_goto (tgt := 85) hx hb dX4_best_77 (by decide) ?_
            refine x_i2l hx hb (by omega) dX4_best_85 ?_
            refine x_lmul hx hb dX4_best_86 ?_
            refine lv_lstore (lv' := [(6, .long (lI ((shP b ((bstAt b zr k).1) zr) * 1))), (4, .long (lI ((shP b (k) zr) * (frN b ((bstAt b zr k).1) : Int)))), (3, .int (zI (k : Int))), (2, .int (zI ((bstAt b zr k).1 : Int))), (0, .ref o), (1, .int (zI zr))]) hx hb dX4_best_87 hl (by decide) rfl (fun ls hl => ?_)
            refine lv_lload hx hb dX4_best_89 (lv_at hl 1 rfl) ?_
            refine lv_lload hx hb dX4_best_91 (lv_at hl 0 rfl) ?_
            refine x_lcmp hx hb (by omega) dX4_best_93 ?_
            refine x_if_le (tgt := 101) hx hb dX4_best_94 (by decide) (x_cw _ _) (fun h23 => ?_) (fun h24 => ?_)
            · have HF := h23
              refine lv_iload_n hx hb dX4_best_101 rfl (lv_at hl 3 rfl) ?_
              refine lv_istore_n (lv' := [(2, .int (zI ((bstAt b zr k).1 : Int))), (6, .long (lI ((shP b ((bstAt b zr k).1) zr) * 1))), (4, .long (lI ((shP b (k) zr) * (frN b ((bstAt b zr k).1) : Int)))), (3, .int (zI (k : Int))), (0, .ref o), (1, .int (zI zr))]) hx hb dX4_best_102 rfl hl (by decide) rfl (fun ls hl => ?_)
              refine x_iinc (lv' := [(3, .int (zI ((k : Int) + 1))), (2, .int (zI ((bstAt b zr k).1 : Int))), (6, .long (lI ((shP b ((bstAt b zr k).1) zr) * 1))), (4, .long (lI ((shP b (k) zr) * (frN b ((bstAt b zr k).1) : Int)))), (0, .ref o), (1, .int (zI zr))]) (k := 3) hx hb dX4_best_103 hl rfl (by decide) rfl (fun ls hl => ?_)
              refine lv_goto (tgt := 23) hx hb dX4_best_106 (by decide) ?_
              exact ih23 (k + 1) ls (show ((k + 1) ≤ 4) ∧ (1 ≤ (k + 1)) from ⟨(by omega), (by omega)⟩) (show 4 - (k + 1) < 4 - k from (by omega)) (lv_cons (x_at (lv_at hl 0 rfl) (by omega)) (lv_cons (x_at (lv_at hl 1 rfl) (congrArg Nat.cast (bst_mf hi hk1 (by first | rw [mx, if_pos (by omega)] | rw [mx, if_neg (by omega)]) (by first | rw [mx, if_pos (by omega)] | rw [mx, if_neg (by omega)]) HF))) (lv_cons (lv_at hl 4 rfl) (lv_cons (lv_at hl 5 rfl) (lv_nil hl)))))
            · have HT := h24
              refine lv_iload_n hx hb dX4_best_97 rfl (lv_at hl 2 rfl) ?_
              refine lv_goto (tgt := 102) hx hb dX4_best_98 (by decide) ?_
              refine lv_istore_n (lv' := [(2, .int (zI (k : Int))), (6, .long (lI ((shP b ((bstAt b zr k).1) zr) * 1))), (4, .long (lI ((shP b (k) zr) * (frN b ((bstAt b zr k).1) : Int)))), (3, .int (zI (k : Int))), (0, .ref o), (1, .int (zI zr))]) hx hb dX4_best_102 rfl hl (by decide) rfl (fun ls hl => ?_)
              refine x_iinc (lv' := [(3, .int (zI ((k : Int) + 1))), (2, .int (zI (k : Int))), (6, .long (lI ((shP b ((bstAt b zr k).1) zr) * 1))), (4, .long (lI ((shP b (k) zr) * (frN b ((bstAt b zr k).1) : Int)))), (0, .ref o), (1, .int (zI zr))]) (k := 3) hx hb dX4_best_103 hl rfl (by decide) rfl (fun ls hl => ?_)
              refine lv_goto (tgt := 23) hx hb dX4_best_106 (by decide) ?_
              exact ih23 (k + 1) ls (show ((k + 1) ≤ 4) ∧ (1 ≤ (k + 1)) from ⟨(by omega), (by omega)⟩) (show 4 - (k + 1) < 4 - k from (by omega)) (lv_cons (x_at (lv_at hl 0 rfl) (by omega)) (lv_cons (x_at (lv_at hl 1 rfl) (congrArg Nat.cast (bst_mt hi hk1 (by first | rw [mx, if_pos (by omega)] | rw [mx, if_neg (by omega)]) (by first | rw [mx, if_pos (by omega)] | rw [mx, if_neg (by omega)]) HT))) (lv_cons (lv_at hl 4 rfl) (lv_cons (lv_at hl 5 rfl) (lv_nil hl)))))
        · refine x_iconst hx hb dX4_best_49 ?_
          refine lv_goto (tgt := 58) hx hb dX4_best_50 (by decide) ?_
          refine x_i2l hx hb (by omega) dX4_best_58 ?_
          refine x_lmul hx hb dX4_best_59 ?_
          refine lv_lstore (lv' := [(4, .long (lI ((shP b (k) zr) * 1))), (3, .int (zI (k : Int))), (2, .int (zI ((bstAt b zr k).1 : Int))), (0, .ref o), (1, .int (zI zr))]) hx hb dX4_best_60 hl (by decide) rfl (fun ls hl => ?_)
          refine lv_aload_n hx hb dX4_best_62 rfl (lv_at hl 3 rfl) ?_
          refine lv_iload_n hx hb dX4_best_63 rfl (lv_at hl 2 rfl) ?_
          refine lv_iload_n hx hb dX4_best_64 rfl (lv_at hl 4 rfl) ?_
          refine x_cL (va_runV (As := [.int (zI ((bstAt b zr k).1 : Int)), .int (zI zr)]) (rest := []) ⟨hx, hb, hml, hown, hts⟩ (c_X4_allHits l G o b 0 ov un ((bstAt b zr k).1) (by omega) ((bstAt b zr k).1 : Int) zr (by omega) (by omega)) (cwV 2 hts gX4_best_X4_allHits rfl rfl rfl (by decide +kernel) ⟨Nat.le_of_ble_eq_true rfl, Nat.le_of_ble_eq_true rfl⟩) (x_preM hW hi hK) rfl rfl hl.1 rfl (lv_room (Nat.le_of_ble_eq_true rfl)) dX4_best_65 ⟨Nat.le_of_ble_eq_true rfl, Nat.le_of_ble_eq_true rfl⟩) ?_
          refine lv_aload_n hx hb dX4_best_68 rfl (lv_at hl 3 rfl) ?_
          refine lv_iload_n hx hb dX4_best_69 rfl (lv_at hl 1 rfl) ?_
          refine x_cI (va_runV (As := [.int (zI (k : Int))]) (rest := [.long (lI (shP b ((bstAt b zr k).1) zr))]) ⟨hx, hb, hml, hown, hts⟩ (c_X4_runsOf l G o b 0 ov un (k) (by omega) (k : Int) (by omega)) (cwV 1 hts gX4_best_X4_runsOf rfl rfl rfl (by decide +kernel) ⟨Nat.le_of_ble_eq_true rfl, Nat.le_of_ble_eq_true rfl⟩) (x_preM hW hi hK) rfl rfl hl.1 rfl (lv_room (Nat.le_of_ble_eq_true rfl)) dX4_best_70 ⟨Nat.le_of_ble_eq_true rfl, Nat.le_of_ble_eq_true rfl⟩) ?_
          refine x_if_ne (tgt := 80) hx hb dX4_best_73 (by decide) (by omega) (fun h25 => ?_) (fun h26 => ?_)
          · refine lv_aload_n hx hb dX4_best_80 rfl (lv_at hl 3 rfl) ?_
            refine lv_iload_n hx hb dX4_best_81 rfl (lv_at hl 1 rfl) ?_
            refine x_cI (va_runV (As := [.int (zI (k : Int))]) (rest := [.long (lI (shP b ((bstAt b zr k).1) zr))]) ⟨hx, hb, hml, hown, hts⟩ (c_X4_runsOf l G o b 0 ov un (k) (by omega) (k : Int) (by omega)) (cwV 1 hts gX4_best_X4_runsOf rfl rfl rfl (by decide +kernel) ⟨Nat.le_of_ble_eq_true rfl, Nat.le_of_ble_eq_true rfl⟩) (x_preM hW hi hK) rfl rfl hl.1 rfl (lv_room (Nat.le_of_ble_eq_true rfl)) dX4_best_82 ⟨Nat.le_of_ble_eq_true rfl, Nat.le_of_ble_eq_true rfl⟩) ?_
            refine x_i2l hx hb (by omega) dX4_best_85 ?_
            refine x_lmul hx hb dX4_best_86 ?_
            refine lv_lstore (lv' := [(6, .long (lI ((shP b ((bstAt b zr k).1) zr) * (frN b (k) : Int)))), (4, .long (lI ((shP b (k) zr) * 1))), (3, .int (zI (k : Int))), (2, .int (zI ((bstAt b zr k).1 : Int))), (0, .ref o), (1, .int (zI zr))]) hx hb dX4_best_87 hl (by decide) rfl (fun ls hl => ?_)
            refine lv_lload hx hb dX4_best_89 (lv_at hl 1 rfl) ?_
            refine lv_lload hx hb dX4_best_91 (lv_at hl 0 rfl) ?_
            refine x_lcmp hx hb (by omega) dX4_best_93 ?_
            refine x_if_le (tgt := 101) hx hb dX4_best_94 (by decide) (x_cw _ _) (fun h27 => ?_) (fun h28 => ?_)
            · have HF := h27
              refine lv_iload_n hx hb dX4_best_101 rfl (lv_at hl 3 rfl) ?_
              refine lv_istore_n (lv' := [(2, .int (zI ((bstAt b zr k).1 : Int))), (6, .long (lI ((shP b ((bstAt b zr k).1) zr) * (frN b (k) : Int)))), (4, .long (lI ((shP b (k) zr) * 1))), (3, .int (zI (k : Int))), (0, .ref o), (1, .int (zI zr))]) hx hb dX4_best_102 rfl hl (by decide) rfl (fun ls hl => ?_)
              refine x_iinc (lv' := [(3, .int (zI ((k : Int) + 1))), (2, .int (zI ((bstAt b zr k).1 : Int))), (6, .long (lI ((shP b ((bstAt b zr k).1) zr) * (frN b (k) : Int)))), (4, .long (lI ((shP b (k) zr) * 1))), (0, .ref o), (1, .int (zI zr))]) (k := 3) hx hb dX4_best_103 hl rfl (by decide) rfl (fun ls hl => ?_)
              refine lv_goto (tgt := 23) hx hb dX4_best_106 (by decide) ?_
              exact ih23 (k + 1) ls (show ((k + 1) ≤ 4) ∧ (1 ≤ (k + 1)) from ⟨(by omega), (by omega)⟩) (show 4 - (k + 1) < 4 - k from (by omega)) (lv_cons (x_at (lv_at hl 0 rfl) (by omega)) (lv_cons (x_at (lv_at hl 1 rfl) (congrArg Nat.cast (bst_mf hi hk1 (by first | rw [mx, if_pos (by omega)] | rw [mx, if_neg (by omega)]) (by first | rw [mx, if_pos (by omega)] | rw [mx, if_neg (by omega)]) HF))) (lv_cons (lv_at hl 4 rfl) (lv_cons (lv_at hl 5 rfl) (lv_nil hl)))))
            · have HT := h28
              refine lv_iload_n hx hb dX4_best_97 rfl (lv_at hl 2 rfl) ?_
              refine lv_goto (tgt := 102) hx hb dX4_best_98 (by decide) ?_
              refine lv_istore_n (lv' := [(2, .int (zI (k : Int))), (6, .long (lI ((shP b ((bstAt b zr k).1) zr) * (frN b (k) : Int)))), (4, .long (lI ((shP b (k) zr) * 1))), (3, .int (zI (k : Int))), (0, .ref o), (1, .int (zI zr))]) hx hb dX4_best_102 rfl hl (by decide) rfl (fun ls hl => ?_)
              refine x_iinc (lv' := [(3, .int (zI ((k : Int) + 1))), (2, .int (zI (k : Int))), (6, .long (lI ((shP b ((bstAt b zr k).1) zr) * (frN b (k) : Int)))), (4, .long (lI ((shP b (k) zr) * 1))), (0, .ref o), (1, .int (zI zr))]) (k := 3) hx hb dX4_best_103 hl rfl (by decide) rfl (fun ls hl => ?_)
              refine lv_goto (tgt := 23) hx hb dX4_best_106 (by decide) ?_
              exact ih23 (k + 1) ls (show ((k + 1) ≤ 4) ∧ (1 ≤ (k + 1)) from ⟨(by omega), (by omega)⟩) (show 4 - (k + 1) < 4 - k from (by omega)) (lv_cons (x_at (lv_at hl 0 rfl) (by omega)) (lv_cons (x_at (lv_at hl 1 rfl) (congrArg Nat.cast (bst_mt hi hk1 (by first | rw [mx, if_pos (by omega)] | rw [mx, if_neg (by omega)]) (by first | rw [mx, if_pos (by omega)] | rw [mx, if_neg (by omega)]) HT))) (lv_cons (lv_at hl 4 rfl) (lv_cons (lv_at hl 5 rfl) (lv_nil hl)))))
          · refine x_iconst hx hb dX4_best_76 ?_
            refine lv_goto (tgt := 85) hx hb dX4_best_77 (by decide) ?_
            refine x_i2l hx hb (by omega) dX4_best_85 ?_
            refine x_lmul hx hb dX4_best_86 ?_
            refine lv_lstore (lv' := [(6, .long (lI ((shP b ((bstAt b zr k).1) zr) * 1))), (4, .long (lI ((shP b (k) zr) * 1))), (3, .int (zI (k : Int))), (2, .int (zI ((bstAt b zr k).1 : Int))), (0, .ref o), (1, .int (zI zr))]) hx hb dX4_best_87 hl (by decide) rfl (fun ls hl => ?_)
            refine lv_lload hx hb dX4_best_89 (lv_at hl 1 rfl) ?_
            refine lv_lload hx hb dX4_best_91 (lv_at hl 0 rfl) ?_
            refine x_lcmp hx hb (by omega) dX4_best_93 ?_
            refine x_if_le (tgt := 101) hx hb dX4_best_94 (by decide) (x_cw _ _) (fun h29 => ?_) (fun h30 => ?_)
            · have HF := h29
              refine lv_iload_n hx hb dX4_best_101 rfl (lv_at hl 3 rfl) ?_
              refine lv_istore_n (lv' := [(2, .int (zI ((bstAt b zr k).1 : Int))), (6, .long (lI ((shP b ((bstAt b zr k).1) zr) * 1))), (4, .long (lI ((shP b (k) zr) * 1))), (3, .int (zI (k : Int))), (0, .ref o), (1, .int (zI zr))]) hx hb dX4_best_102 rfl hl (by decide) rfl (fun ls hl => ?_)
              refine x_iinc (lv' := [(3, .int (zI ((k : Int) + 1))), (2, .int (zI ((bstAt b zr k).1 : Int))), (6, .long (lI ((shP b ((bstAt b zr k).1) zr) * 1))), (4, .long (lI ((shP b (k) zr) * 1))), (0, .ref o), (1, .int (zI zr))]) (k := 3) hx hb dX4_best_103 hl rfl (by decide) rfl (fun ls hl => ?_)
              refine lv_goto (tgt := 23) hx hb dX4_best_106 (by decide) ?_
              exact ih23 (k + 1) ls (show ((k + 1) ≤ 4) ∧ (1 ≤ (k + 1)) from ⟨(by omega), (by omega)⟩) (show 4 - (k + 1) < 4 - k from (by omega)) (lv_cons (x_at (lv_at hl 0 rfl) (by omega)) (lv_cons (x_at (lv_at hl 1 rfl) (congrArg Nat.cast (bst_mf hi hk1 (by first | rw [mx, if_pos (by omega)] | rw [mx, if_neg (by omega)]) (by first | rw [mx, if_pos (by omega)] | rw [mx, if_neg (by omega)]) HF))) (lv_cons (lv_at hl 4 rfl) (lv_cons (lv_at hl 5 rfl) (lv_nil hl)))))
            · have HT := h30
              refine lv_iload_n hx hb dX4_best_97 rfl (lv_at hl 2 rfl) ?_
              refine lv_goto (tgt := 102) hx hb dX4_best_98 (by decide) ?_
              refine lv_istore_n (lv' := [(2, .int (zI (k : Int))), (6, .long (lI ((shP b ((bstAt b zr k).1) zr) * 1))), (4, .long (lI ((shP b (k) zr) * 1))), (3, .int (zI (k : Int))), (0, .ref o), (1, .int (zI zr))]) hx hb dX4_best_102 rfl hl (by decide) rfl (fun ls hl => ?_)
              refine x_iinc (lv' := [(3, .int (zI ((k : Int) + 1))), (2, .int (zI (k : Int))), (6, .long (lI ((shP b ((bstAt b zr k).1) zr) * 1))), (4, .long (lI ((shP b (k) zr) * 1))), (0, .ref o), (1, .int (zI zr))]) (k := 3) hx hb dX4_best_103 hl rfl (by decide) rfl (fun ls hl => ?_)
              refine lv_goto (tgt := 23) hx hb dX4_best_106 (by decide) ?_
              exact ih23 (k + 1) ls (show ((k + 1) ≤ 4) ∧ (1 ≤ (k + 1)) from ⟨(by omega), (by omega)⟩) (show 4 - (k + 1) < 4 - k from (by omega)) (lv_cons (x_at (lv_at hl 0 rfl) (by omega)) (lv_cons (x_at (lv_at hl 1 rfl) (congrArg Nat.cast (bst_mt hi hk1 (by first | rw [mx, if_pos (by omega)] | rw [mx, if_neg (by omega)]) (by first | rw [mx, if_pos (by omega)] | rw [mx, if_neg (by omega)]) HT))) (lv_cons (lv_at hl 4 rfl) (lv_cons (lv_at hl 5 rfl) (lv_nil hl)))))
