def pdT (b : XB) (q : Nat) (d de : Int) (t : Nat) : Bool := (List.range t).any (fun y => decide (¬ rk b q y d = -1 ∧ rk b q y d ≤ de))
theorem pd_s (b : XB) (q : Nat) (d de : Int) (t : Nat) : pdT b q d de (t + 1) = (pdT b q d de t || decide (¬ rk b q t d = -1 ∧ rk b q t d ≤ de)) := by
  unfold pdT
  rw [List.range_succ, List.any_append]
  simp only [List.any_cons, List.any_nil, Bool.or_false]
theorem pd_t1 {b : XB} {q : Nat} {d de : Int} {t : Nat} (h : pdT b q d de t = true) : pdT b q d de (t + 1) = true := by rw [pd_s, h]; rfl
theorem pd_t2 {b : XB} {q : Nat} {d de : Int} {t : Nat} (h : ¬ rk b q t d = -1 ∧ rk b q t d ≤ de) : pdT b q d de (t + 1) = true := by rw [pd_s, decide_eq_true h, Bool.or_true]
theorem pd_f {b : XB} {q : Nat} {d de : Int} {t : Nat} (h1 : ¬ pdT b q d de t = true) (h : ¬ (¬ rk b q t d = -1 ∧ rk b q t d ≤ de)) : ¬ pdT b q d de (t + 1) = true := by rw [pd_s, decide_eq_false h, Bool.or_false]; exact h1
set_option maxHeartbeats 4000000 in
set_option maxRecDepth 100000 in
theorem c_X4_isPooled (l : Launch) (G : XG) (o : Nat) (b : XB) (th ov un : Int) (q : Nat) (hq : q < 8) (zq : Int) (hzq : zq = (q : Int)) (zd : Int) (hzd : -2147483648 ≤ zd ∧ zd < 2147483648) (zr : Int) (hzr : -2147483648 ≤ zr ∧ zr < 2147483648) : MetI l yX4_isPooled wsX4_isPooled (rmF 1 23) (MPc G o b th ov un [.ref o, .int (zI zq), .int (zI zd), .int (zI zr)]) (bI (pldB b q zd zr = true)) := by
  refine Met.ofW (cc := cX4_isPooled) (maxL := 8) (ret := (some .boolean)) (by decide) rfl ?_
  intro p e s m args below meth c s₁ B hml hv
  obtain ⟨rfl, hW, hi, hK⟩ := hv
  have hx := B.exec
  have hb := B.bytes
  have hr := B.returns
  have hts := atoms_spec (ws := wsX4_isPooled) B.pre
  have hown : s.vm.findClass RX4 = some m.cls := findClass_of_methodNamed B.named
  have hlocks := B.notSynchronized
  have hl := lv_entry ([.ref o, .int (zI zq), .int (zI zd), .int (zI zr)]) (n := 8) (Nat.le_of_ble_eq_true rfl)
  rw [lg_entry_eq]
  generalize (lg_sl ([.ref o, .int (zI zq), .int (zI zd), .int (zI zr)]) ++ List.replicate (8 - (lg_sl ([.ref o, .int (zI zq), .int (zI zd), .int (zI zr)])).length) Slot.unset).toArray = ls at hl ⊢
  have hl : lv_has ls 8 [(0, .ref o), (1, .int (zI zq)), (2, .int (zI zd)), (3, .int (zI zr))] := hl
  refine x_iconst hx hb dX4_isPooled_0 ?_
  refine lv_istore (lv' := [(4, .int (zI 0)), (0, .ref o), (1, .int (zI zq)), (2, .int (zI zd)), (3, .int (zI zr))]) hx hb dX4_isPooled_1 hl (by decide) rfl (fun ls hl => ?_)
  refine x_iconst hx hb dX4_isPooled_3 ?_
  refine lv_istore (lv' := [(5, .int (zI 0)), (4, .int (zI 0)), (0, .ref o), (1, .int (zI zq)), (2, .int (zI zd)), (3, .int (zI zr))]) hx hb dX4_isPooled_4 hl (by decide) rfl (fun ls hl => ?_)
  refine x_loop1 (fun (t : Nat) => (t ≤ 4)) (fun (t : Nat) => 4 - t) (fun (t : Nat) => [(5, .int (zI (t : Int))), (4, .int (zI (bI (pdT b q zd zr t = true)))), (0, .ref o), (1, .int (zI zq)), (2, .int (zI zd)), (3, .int (zI zr))]) (0) (show ((0) ≤ 4) from (Nat.zero_le _)) (show lv_has ls 8 [(5, .int (zI ((0) : Int))), (4, .int (zI (bI (pdT b q zd zr (0) = true)))), (0, .ref o), (1, .int (zI zq)), (2, .int (zI zd)), (3, .int (zI zr))] from (lv_cons (x_at (lv_at hl 0 rfl) (by omega)) (lv_cons (x_at (lv_at hl 1 rfl) ((bI_f (fun h => by cases h)).symm)) (lv_cons (lv_at hl 2 rfl) (lv_cons (lv_at hl 3 rfl) (lv_cons (lv_at hl 4 rfl) (lv_cons (lv_at hl 5 rfl) (lv_nil hl)))))))) (fun t ls hI6 hl ih6 => ?_)
  have ht : t ≤ 4 := hI6
  have hl : lv_has ls 8 [(5, .int (zI (t : Int))), (4, .int (zI (bI (pdT b q zd zr t = true)))), (0, .ref o), (1, .int (zI zq)), (2, .int (zI zd)), (3, .int (zI zr))] := hl
  refine lv_iload hx hb dX4_isPooled_6 (lv_at hl 0 rfl) ?_
  refine x_iconst hx hb dX4_isPooled_8 ?_
  refine x_icmp_ge (tgt := 66) hx hb dX4_isPooled_9 (by decide) (by omega) (fun h1 => ?_) (fun h2 => ?_)
  · refine lv_iload hx hb dX4_isPooled_66 (lv_at hl 1 rfl) ?_
    exact x_retB hx hb hr (by obtain rfl : t = 4 := (by omega); exact ⟨rfl, bI_rng _⟩) dX4_isPooled_68 hlocks
  · refine lv_bipush (v := zI 8) hx hb dX4_isPooled_12 (by decide +kernel) ?_
    refine lv_iload hx hb dX4_isPooled_14 (lv_at hl 0 rfl) ?_
    refine x_imul hx hb dX4_isPooled_16 ?_
    refine lv_iload_n hx hb dX4_isPooled_17 rfl (lv_at hl 3 rfl) ?_
    refine x_iadd hx hb dX4_isPooled_18 ?_
    refine lv_istore (lv' := [(6, .int (zI ((8 * (t : Int)) + zq))), (5, .int (zI (t : Int))), (4, .int (zI (bI (pdT b q zd zr t = true)))), (0, .ref o), (1, .int (zI zq)), (2, .int (zI zd)), (3, .int (zI zr))]) hx hb dX4_isPooled_19 hl (by decide) rfl (fun ls hl => ?_)
    refine lv_aload_n hx hb dX4_isPooled_21 rfl (lv_at hl 3 rfl) ?_
    refine lv_iload hx hb dX4_isPooled_22 (lv_at hl 0 rfl) ?_
    refine lv_iload_n hx hb dX4_isPooled_24 rfl (lv_at hl 5 rfl) ?_
    refine x_cI (va_runV (As := [.int (zI ((8 * (t : Int)) + zq)), .int (zI zd)]) (rest := []) ⟨hx, hb, hml, hown, hts⟩ (c_X4_placeOf l G o b th ov un q t (by omega) (by omega) ((8 * (t : Int)) + zq) (by omega) zd (by omega)) (cwV 2 hts gX4_isPooled_X4_placeOf rfl rfl rfl (by decide +kernel) ⟨Nat.le_of_ble_eq_true rfl, Nat.le_of_ble_eq_true rfl⟩) (x_preM hW hi hK) rfl rfl hl.1 rfl (lv_room (Nat.le_of_ble_eq_true rfl)) dX4_isPooled_25 ⟨Nat.le_of_ble_eq_true rfl, Nat.le_of_ble_eq_true rfl⟩) ?_
    have hpl := pl_rk b q t zd
    have hnt := hi.n q t
    refine lv_istore (lv' := [(7, .int (zI (plN b q t zd : Int))), (6, .int (zI ((8 * (t : Int)) + zq))), (5, .int (zI (t : Int))), (4, .int (zI (bI (pdT b q zd zr t = true)))), (0, .ref o), (1, .int (zI zq)), (2, .int (zI zd)), (3, .int (zI zr))]) hx hb dX4_isPooled_28 hl (by decide) rfl (fun ls hl => ?_)
    refine lv_iload hx hb dX4_isPooled_30 (lv_at hl 3 rfl) ?_
    refine x_ifB_ne (tgt := 53) hx hb dX4_isPooled_32 (by decide) (fun h3 => ?_) (fun h4 => ?_)
    · have hyp := h3
      refine x_iconst hx hb dX4_isPooled_53 ?_
      refine lv_goto (tgt := 58) hx hb dX4_isPooled_54 (by decide) ?_
      refine lv_istore (lv' := [(4, .int (zI 1)), (7, .int (zI (plN b q t zd : Int))), (6, .int (zI ((8 * (t : Int)) + zq))), (5, .int (zI (t : Int))), (0, .ref o), (1, .int (zI zq)), (2, .int (zI zd)), (3, .int (zI zr))]) hx hb dX4_isPooled_58 hl (by decide) rfl (fun ls hl => ?_)
      refine x_iinc (lv' := [(5, .int (zI ((t : Int) + 1))), (4, .int (zI 1)), (7, .int (zI (plN b q t zd : Int))), (6, .int (zI ((8 * (t : Int)) + zq))), (0, .ref o), (1, .int (zI zq)), (2, .int (zI zd)), (3, .int (zI zr))]) (k := 3) hx hb dX4_isPooled_60 hl rfl (by decide) rfl (fun ls hl => ?_)
      refine lv_goto (tgt := 6) hx hb dX4_isPooled_63 (by decide) ?_
      exact ih6 (t + 1) ls (show ((t + 1) ≤ 4) from (by omega)) (show 4 - (t + 1) < 4 - t from (by omega)) (lv_cons (x_at (lv_at hl 0 rfl) (by omega)) (lv_cons (x_at (lv_at hl 1 rfl) (by first | exact (bI_t (pd_t1 (by assumption))).symm | exact (bI_t (pd_t2 (by omega))).symm)) (lv_cons (lv_at hl 4 rfl) (lv_cons (lv_at hl 5 rfl) (lv_cons (lv_at hl 6 rfl) (lv_cons (lv_at hl 7 rfl) (lv_nil hl)))))))
    · have hnp := h4
      refine lv_iload hx hb dX4_isPooled_35 (lv_at hl 0 rfl) ?_
      refine lv_aload_n hx hb dX4_isPooled_37 rfl (lv_at hl 4 rfl) ?_
      refine x_get (ci := 4) (C := RX4) (T := TX4) (N := 10) (own := RX4) (index := 7) (v := .ref (o + 1)) hx hb hts (by decide +kernel) hown hK hW.ob rfl 0 (by decide) (by decide +kernel) rfl rfl dX4_isPooled_38 ?_
      refine lv_iload hx hb dX4_isPooled_41 (lv_at hl 1 rfl) ?_
      refine x_iald hx hb hK hW.le (8 * t + q) (by omega) (by omega) (by decide) dX4_isPooled_43 ?_
      have hv5 := mN_at b (q := q) (y := t) (by omega)
      refine x_icmp_ge (tgt := 57) hx hb dX4_isPooled_44 (by decide) (by omega) (fun h6 => ?_) (fun h7 => ?_)
      · refine x_iconst hx hb dX4_isPooled_57 ?_
        refine lv_istore (lv' := [(4, .int (zI 0)), (7, .int (zI (plN b q t zd : Int))), (6, .int (zI ((8 * (t : Int)) + zq))), (5, .int (zI (t : Int))), (0, .ref o), (1, .int (zI zq)), (2, .int (zI zd)), (3, .int (zI zr))]) hx hb dX4_isPooled_58 hl (by decide) rfl (fun ls hl => ?_)
        refine x_iinc (lv' := [(5, .int (zI ((t : Int) + 1))), (4, .int (zI 0)), (7, .int (zI (plN b q t zd : Int))), (6, .int (zI ((8 * (t : Int)) + zq))), (0, .ref o), (1, .int (zI zq)), (2, .int (zI zd)), (3, .int (zI zr))]) (k := 3) hx hb dX4_isPooled_60 hl rfl (by decide) rfl (fun ls hl => ?_)
        refine lv_goto (tgt := 6) hx hb dX4_isPooled_63 (by decide) ?_
        exact ih6 (t + 1) ls (show ((t + 1) ≤ 4) from (by omega)) (show 4 - (t + 1) < 4 - t from (by omega)) (lv_cons (x_at (lv_at hl 0 rfl) (by omega)) (lv_cons (x_at (lv_at hl 1 rfl) ((bI_f (pd_f hnp (by omega))).symm)) (lv_cons (lv_at hl 4 rfl) (lv_cons (lv_at hl 5 rfl) (lv_cons (lv_at hl 6 rfl) (lv_cons (lv_at hl 7 rfl) (lv_nil hl)))))))
      · refine lv_iload hx hb dX4_isPooled_47 (lv_at hl 0 rfl) ?_
        refine lv_iload_n hx hb dX4_isPooled_49 rfl (lv_at hl 7 rfl) ?_
        refine x_icmp_ge (tgt := 57) hx hb dX4_isPooled_50 (by decide) (by omega) (fun h8 => ?_) (fun h9 => ?_)
        · refine x_iconst hx hb dX4_isPooled_57 ?_
          refine lv_istore (lv' := [(4, .int (zI 0)), (7, .int (zI (plN b q t zd : Int))), (6, .int (zI ((8 * (t : Int)) + zq))), (5, .int (zI (t : Int))), (0, .ref o), (1, .int (zI zq)), (2, .int (zI zd)), (3, .int (zI zr))]) hx hb dX4_isPooled_58 hl (by decide) rfl (fun ls hl => ?_)
          refine x_iinc (lv' := [(5, .int (zI ((t : Int) + 1))), (4, .int (zI 0)), (7, .int (zI (plN b q t zd : Int))), (6, .int (zI ((8 * (t : Int)) + zq))), (0, .ref o), (1, .int (zI zq)), (2, .int (zI zd)), (3, .int (zI zr))]) (k := 3) hx hb dX4_isPooled_60 hl rfl (by decide) rfl (fun ls hl => ?_)
          refine lv_goto (tgt := 6) hx hb dX4_isPooled_63 (by decide) ?_
          exact ih6 (t + 1) ls (show ((t + 1) ≤ 4) from (by omega)) (show 4 - (t + 1) < 4 - t from (by omega)) (lv_cons (x_at (lv_at hl 0 rfl) (by omega)) (lv_cons (x_at (lv_at hl 1 rfl) ((bI_f (pd_f hnp (by omega))).symm)) (lv_cons (lv_at hl 4 rfl) (lv_cons (lv_at hl 5 rfl) (lv_cons (lv_at hl 6 rfl) (lv_cons (lv_at hl 7 rfl) (lv_nil hl)))))))
        · refine x_iconst hx hb dX4_isPooled_53 ?_
          refine lv_goto (tgt := 58) hx hb dX4_isPooled_54 (by decide) ?_
          refine lv_istore (lv' := [(4, .int (zI 1)), (7, .int (zI (plN b q t zd : Int))), (6, .int (zI ((8 * (t : Int)) + zq))), (5, .int (zI (t : Int))), (0, .ref o), (1, .int (zI zq)), (2, .int (zI zd)), (3, .int (zI zr))]) hx hb dX4_isPooled_58 hl (by decide) rfl (fun ls hl => ?_)
          refine x_iinc (lv' := [(5, .int (zI ((t : Int) + 1))), (4, .int (zI 1)), (7, .int (zI (plN b q t zd : Int))), (6, .int (zI ((8 * (t : Int)) + zq))), (0, .ref o), (1, .int (zI zq)), (2, .int (zI zd)), (3, .int (zI zr))]) (k := 3) hx hb dX4_isPooled_60 hl rfl (by decide) rfl (fun ls hl => ?_)
          refine lv_goto (tgt := 6) hx hb dX4_isPooled_63 (by decide) ?_
          exact ih6 (t + 1) ls (show ((t + 1) ≤ 4) from (by omega)) (show 4 - (t + 1) < 4 - t from (by omega)) (lv_cons (x_at (lv_at hl 0 rfl) (by omega)) (lv_cons (x_at (lv_at hl 1 rfl) (by first | exact (bI_t (pd_t1 (by assumption))).symm | exact (bI_t (pd_t2 (by omega))).symm)) (lv_cons (lv_at hl 4 rfl) (lv_cons (lv_at hl 5 rfl) (lv_cons (lv_at hl 6 rfl) (lv_cons (lv_at hl 7 rfl) (lv_nil hl)))))))
set_option maxHeartbeats 4000000 in
set_option maxRecDepth 100000 in
theorem c_X4_pool (l : Launch) (G : XG) (o : Nat) (b : XB) (th ov un : Int) (zq : Int) (hzq : -2147483648 ≤ zq ∧ zq < 2147483648) (zr : Int) (hzr : -2147483648 ≤ zr ∧ zr < 2147483648) : MetQI l yX4_pool wsX4_pool (rmF 2 50) G o b th ov un [.ref o, .int (zI zq), .int (zI zr)] (kR ((0 ≤ zq ∧ zq < 8) ∧ (1 ≤ zr ∧ zr ≤ 20)) 0) (poolN b zq.toNat zr : Int) b := by
  refine Met.ofW (cc := cX4_pool) (maxL := 5) (ret := (some .int)) (by decide) rfl ?_
  intro p e s m args below meth c s₁ B hml hv
  obtain ⟨rfl, hW, hi, hK⟩ := hv
  have hx := B.exec
  have hb := B.bytes
  have hr := B.returns
  have hts := atoms_spec (ws := wsX4_pool) B.pre
  have hown : s.vm.findClass RX4 = some m.cls := findClass_of_methodNamed B.named
  have hlocks := B.notSynchronized
  have hl := lv_entry ([.ref o, .int (zI zq), .int (zI zr)]) (n := 5) (Nat.le_of_ble_eq_true rfl)
  rw [lg_entry_eq]
  generalize (lg_sl ([.ref o, .int (zI zq), .int (zI zr)]) ++ List.replicate (5 - (lg_sl ([.ref o, .int (zI zq), .int (zI zr)])).length) Slot.unset).toArray = ls at hl ⊢
  have hl : lv_has ls 5 [(0, .ref o), (1, .int (zI zq)), (2, .int (zI zr))] := hl
  have hS : va_S (mA o) s.heap s.heap [] := va_S.rf
  refine x_iconst hx hb dX4_pool_0 ?_
  refine lv_istore_n (lv' := [(3, .int (zI 0)), (0, .ref o), (1, .int (zI zq)), (2, .int (zI zr))]) hx hb dX4_pool_1 rfl hl (by decide) rfl (fun ls hl => ?_)
  refine x_iconst hx hb dX4_pool_2 ?_
  refine lv_istore (lv' := [(4, .int (zI 0)), (3, .int (zI 0)), (0, .ref o), (1, .int (zI zq)), (2, .int (zI zr))]) hx hb dX4_pool_3 hl (by decide) rfl (fun ls hl => ?_)
  refine x_loopH2 (fun (k : Nat) (t9 : Int) (H : Heap) (locs : List Loc) => (k ≤ 40) ∧ (cnt9 (fun j => pldB b zq.toNat (j : Int) zr) 0 k ≤ k) ∧ (MW G o b t9 ov un H) ∧ (va_S (mA o) s.heap H locs)) (fun (k : Nat) (t9 : Int) => 40 - k) (fun (k : Nat) (t9 : Int) => [(4, .int (zI (k : Int))), (3, .int (zI (cnt9 (fun j => pldB b zq.toNat (j : Int) zr) 0 k : Int))), (0, .ref o), (1, .int (zI zq)), (2, .int (zI zr))]) (0) (th) (by exact ⟨(Nat.zero_le _), (cnt9_le _ _ _), (hW), (hS)⟩) (show lv_has ls 5 [(4, .int (zI ((0) : Int))), (3, .int (zI (cnt9 (fun j => pldB b zq.toNat (j : Int) zr) 0 (0) : Int))), (0, .ref o), (1, .int (zI zq)), (2, .int (zI zr))] from (lv_cons (x_at (lv_at hl 0 rfl) (by omega)) (lv_cons (x_at (lv_at hl 1 rfl) (rfl)) (lv_cons (lv_at hl 2 rfl) (lv_cons (lv_at hl 3 rfl) (lv_cons (lv_at hl 4 rfl) (lv_nil hl))))))) (fun k t9 H locs ls hI5 hl ih5 => ?_)
  obtain ⟨hk, hc, hW, hS⟩ : (k ≤ 40) ∧ (cnt9 (fun j => pldB b zq.toNat (j : Int) zr) 0 k ≤ k) ∧ (MW G o b t9 ov un H) ∧ (va_S (mA o) s.heap H locs) := hI5
  have hl : lv_has ls 5 [(4, .int (zI (k : Int))), (3, .int (zI (cnt9 (fun j => pldB b zq.toNat (j : Int) zr) 0 k : Int))), (0, .ref o), (1, .int (zI zq)), (2, .int (zI zr))] := hl
  refine lv_aload_n hx hb dX4_pool_5 rfl (lv_at hl 2 rfl) ?_
  refine lv_iload_n hx hb dX4_pool_6 rfl (lv_at hl 3 rfl) ?_
  refine lv_iload_n hx hb dX4_pool_7 rfl (lv_at hl 4 rfl) ?_
  refine x_wI (va_runV (As := [.int (zI zq), .int (zI zr)]) (rest := []) ⟨hx, hb, hml, hown, hts⟩ (c_X4_isPool l G o b t9 ov un zq (by omega) zr (by omega)) (cwV 2 hts gX4_pool_X4_isPool rfl rfl rfl (by decide +kernel) ⟨Nat.le_of_ble_eq_true rfl, Nat.le_of_ble_eq_true rfl⟩) (x_preM hW hi hK) rfl rfl hl.1 rfl (lv_room (Nat.le_of_ble_eq_true rfl)) dX4_pool_8 ⟨Nat.le_of_ble_eq_true rfl, Nat.le_of_ble_eq_true rfl⟩) hS (fun q _ h => h) (fun q h => h) (fun H1 locs1 hW1 hz1 hk1 hS => ?_)
  have hW := hW1
  refine x_ifB_eq (tgt := 46) hx hb dX4_pool_11 (by decide) (fun h1 => ?_) (fun h2 => ?_)
  · replace hW := hW.th (kR_f h1)
    refine lv_iload_n hx hb dX4_pool_46 rfl (lv_at hl 1 rfl) ?_
    exact x_qI hx hb hr (kR_f (by omega)) (no1) hW (if0_1) hS dX4_pool_47 hlocks
  · replace hW := hW.th (kR_t h2 rfl)
    refine lv_iload hx hb dX4_pool_14 (lv_at hl 0 rfl) ?_
    refine lv_bipush (v := zI 40) hx hb dX4_pool_16 (by decide +kernel) ?_
    refine x_icmp_ge (tgt := 46) hx hb dX4_pool_18 (by decide) (by omega) (fun h3 => ?_) (fun h4 => ?_)
    · refine lv_iload_n hx hb dX4_pool_46 rfl (lv_at hl 1 rfl) ?_
      exact x_qI hx hb hr (kR_t (by omega) rfl) (fun _ => by obtain rfl : k = 40 := (by omega); rfl) hW (if0_t) hS dX4_pool_47 hlocks
    · refine lv_iload_n hx hb dX4_pool_21 rfl (lv_at hl 1 rfl) ?_
      refine lv_aload_n hx hb dX4_pool_22 rfl (lv_at hl 2 rfl) ?_
      refine lv_iload_n hx hb dX4_pool_23 rfl (lv_at hl 3 rfl) ?_
      refine lv_iload hx hb dX4_pool_24 (lv_at hl 0 rfl) ?_
      refine lv_iload_n hx hb dX4_pool_26 rfl (lv_at hl 4 rfl) ?_
      refine x_cI (va_runV (As := [.int (zI zq), .int (zI (k : Int)), .int (zI zr)]) (rest := [.int (zI (cnt9 (fun j => pldB b zq.toNat (j : Int) zr) 0 k : Int))]) ⟨hx, hb, hml, hown, hts⟩ (c_X4_isPooled l G o b 0 ov un zq.toNat (by omega) zq (by omega) (k : Int) (by omega) zr (by omega)) (cwV 3 hts gX4_pool_X4_isPooled rfl rfl rfl (by decide +kernel) ⟨Nat.le_of_ble_eq_true rfl, Nat.le_of_ble_eq_true rfl⟩) (x_preM hW hi hK) rfl rfl hl.1 rfl (lv_room (Nat.le_of_ble_eq_true rfl)) dX4_pool_27 ⟨Nat.le_of_ble_eq_true rfl, Nat.le_of_ble_eq_true rfl⟩) ?_
      refine x_ifB_eq (tgt := 37) hx hb dX4_pool_30 (by decide) (fun h5 => ?_) (fun h6 => ?_)
      · have hno := h5
        refine x_iconst hx hb dX4_pool_37 ?_
        refine x_iadd hx hb dX4_pool_38 ?_
        refine lv_istore_n (lv' := [(3, .int (zI ((cnt9 (fun j => pldB b zq.toNat (j : Int) zr) 0 k : Int) + 0))), (4, .int (zI (k : Int))), (0, .ref o), (1, .int (zI zq)), (2, .int (zI zr))]) hx hb dX4_pool_39 rfl hl (by decide) rfl (fun ls hl => ?_)
        refine x_iinc (lv' := [(4, .int (zI ((k : Int) + 1))), (3, .int (zI ((cnt9 (fun j => pldB b zq.toNat (j : Int) zr) 0 k : Int) + 0))), (0, .ref o), (1, .int (zI zq)), (2, .int (zI zr))]) (k := 1) hx hb dX4_pool_40 hl rfl (by decide) rfl (fun ls hl => ?_)
        refine lv_goto (tgt := 5) hx hb dX4_pool_43 (by decide) ?_
        exact ih5 (k + 1) (0) _ _ ls (by exact ⟨(by omega), (cnt9_le _ _ _), (hW), (hS)⟩) (show 40 - (k + 1) < 40 - k from (by omega)) (lv_cons (x_at (lv_at hl 0 rfl) (by omega)) (lv_cons (x_at (lv_at hl 1 rfl) (by rw [cnt9_f (by rw [Nat.zero_add]; exact hno)]; exact Int.add_zero _)) (lv_cons (lv_at hl 2 rfl) (lv_cons (lv_at hl 3 rfl) (lv_cons (lv_at hl 4 rfl) (lv_nil hl))))))
      · have hyes := h6
        refine x_iconst hx hb dX4_pool_33 ?_
        refine lv_goto (tgt := 38) hx hb dX4_pool_34 (by decide) ?_
        refine x_iadd hx hb dX4_pool_38 ?_
        refine lv_istore_n (lv' := [(3, .int (zI ((cnt9 (fun j => pldB b zq.toNat (j : Int) zr) 0 k : Int) + 1))), (4, .int (zI (k : Int))), (0, .ref o), (1, .int (zI zq)), (2, .int (zI zr))]) hx hb dX4_pool_39 rfl hl (by decide) rfl (fun ls hl => ?_)
        refine x_iinc (lv' := [(4, .int (zI ((k : Int) + 1))), (3, .int (zI ((cnt9 (fun j => pldB b zq.toNat (j : Int) zr) 0 k : Int) + 1))), (0, .ref o), (1, .int (zI zq)), (2, .int (zI zr))]) (k := 1) hx hb dX4_pool_40 hl rfl (by decide) rfl (fun ls hl => ?_)
        refine lv_goto (tgt := 5) hx hb dX4_pool_43 (by decide) ?_
        exact ih5 (k + 1) (0) _ _ ls (by exact ⟨(by omega), (cnt9_le _ _ _), (hW), (hS)⟩) (show 40 - (k + 1) < 40 - k from (by omega)) (lv_cons (x_at (lv_at hl 0 rfl) (by omega)) (lv_cons (x_at (lv_at hl 1 rfl) (by rw [cnt9_t (by rw [Nat.zero_add]; exact hyes)]; rfl)) (lv_cons (lv_at hl 2 rfl) (lv_cons (lv_at hl 3 rfl) (lv_cons (lv_at hl 4 rfl) (lv_nil hl))))))
set_option maxHeartbeats 4000000 in
set_option maxRecDepth 100000 in
theorem c_X4_toJudge (l : Launch) (G : XG) (o : Nat) (b : XB) (th ov un : Int) (zq : Int) (hzq : -2147483648 ≤ zq ∧ zq < 2147483648) (zr : Int) (hzr : -2147483648 ≤ zr ∧ zr < 2147483648) : MetQI l yX4_toJudge wsX4_toJudge (rmF 2 50) G o b th ov un [.ref o, .int (zI zq), .int (zI zr)] (kR ((0 ≤ zq ∧ zq < 8) ∧ (1 ≤ zr ∧ zr ≤ 20)) 0) (fuZ b zq.toNat zr) b := by
  refine Met.ofW (cc := cX4_toJudge) (maxL := 4) (ret := (some .int)) (by decide) rfl ?_
  intro p e s m args below meth c s₁ B hml hv
  obtain ⟨rfl, hW, hi, hK⟩ := hv
  have hx := B.exec
  have hb := B.bytes
  have hr := B.returns
  have hts := atoms_spec (ws := wsX4_toJudge) B.pre
  have hown : s.vm.findClass RX4 = some m.cls := findClass_of_methodNamed B.named
  have hlocks := B.notSynchronized
  have hl := lv_entry ([.ref o, .int (zI zq), .int (zI zr)]) (n := 4) (Nat.le_of_ble_eq_true rfl)
  rw [lg_entry_eq]
  generalize (lg_sl ([.ref o, .int (zI zq), .int (zI zr)]) ++ List.replicate (4 - (lg_sl ([.ref o, .int (zI zq), .int (zI zr)])).length) Slot.unset).toArray = ls at hl ⊢
  have hl : lv_has ls 4 [(0, .ref o), (1, .int (zI zq)), (2, .int (zI zr))] := hl
  have hS : va_S (mA o) s.heap s.heap [] := va_S.rf
  refine lv_aload_n hx hb dX4_toJudge_0 rfl (lv_at hl 0 rfl) ?_
  refine lv_iload_n hx hb dX4_toJudge_1 rfl (lv_at hl 1 rfl) ?_
  refine lv_iload_n hx hb dX4_toJudge_2 rfl (lv_at hl 2 rfl) ?_
  refine x_wI (va_runV (As := [.int (zI zq), .int (zI zr)]) (rest := []) ⟨hx, hb, hml, hown, hts⟩ (c_X4_isPool l G o b th ov un zq (by omega) zr (by omega)) (cwV 2 hts gX4_toJudge_X4_isPool rfl rfl rfl (by decide +kernel) ⟨Nat.le_of_ble_eq_true rfl, Nat.le_of_ble_eq_true rfl⟩) (x_preM hW hi hK) rfl rfl hl.1 rfl (lv_room (Nat.le_of_ble_eq_true rfl)) dX4_toJudge_3 ⟨Nat.le_of_ble_eq_true rfl, Nat.le_of_ble_eq_true rfl⟩) hS (fun q _ h => h) (fun q h => h) (fun H1 locs1 hW1 hz1 hk1 hS => ?_)
  have hW := hW1
  refine x_ifB_ne (tgt := 11) hx hb dX4_toJudge_6 (by decide) (fun h1 => ?_) (fun h2 => ?_)
  · replace hW := hW.th (kR_t h1 rfl)
    obtain ⟨q, rfl⟩ : ∃ q : Nat, zq = (q : Int) := ⟨zq.toNat, by omega⟩
    refine x_iconst hx hb dX4_toJudge_11 ?_
    refine lv_istore_n (lv' := [(3, .int (zI 0)), (0, .ref o), (1, .int (zI (q : Int))), (2, .int (zI zr))]) hx hb dX4_toJudge_12 rfl hl (by decide) rfl (fun ls hl => ?_)
    refine x_loop1 (fun (k : Nat) => (k ≤ 40) ∧ (∀ j, j < k → fuP b q zr j = false)) (fun (k : Nat) => 40 - k) (fun (k : Nat) => [(3, .int (zI (k : Int))), (0, .ref o), (1, .int (zI (q : Int))), (2, .int (zI zr))]) (0) (show ((0) ≤ 40) ∧ (∀ j, j < (0) → fuP b q zr j = false) from ⟨(Nat.zero_le _), (fun j hj => absurd hj (Nat.not_lt_zero _))⟩) (show lv_has ls 4 [(3, .int (zI ((0) : Int))), (0, .ref o), (1, .int (zI (q : Int))), (2, .int (zI zr))] from (lv_cons (x_at (lv_at hl 0 rfl) (by omega)) (lv_cons (lv_at hl 1 rfl) (lv_cons (lv_at hl 2 rfl) (lv_cons (lv_at hl 3 rfl) (lv_nil hl)))))) (fun k ls hI13 hl ih13 => ?_)
    obtain ⟨hk, hm⟩ : (k ≤ 40) ∧ (∀ j, j < k → fuP b q zr j = false) := hI13
    have hl : lv_has ls 4 [(3, .int (zI (k : Int))), (0, .ref o), (1, .int (zI (q : Int))), (2, .int (zI zr))] := hl
    refine lv_iload_n hx hb dX4_toJudge_13 rfl (lv_at hl 0 rfl) ?_
    refine lv_bipush (v := zI 40) hx hb dX4_toJudge_14 (by decide +kernel) ?_
    refine x_icmp_ge (tgt := 49) hx hb dX4_toJudge_16 (by decide) (by omega) (fun h3 => ?_) (fun h4 => ?_)
    · refine lv_iload_n hx hb dX4_toJudge_49 rfl (lv_at hl 0 rfl) ?_
      refine lv_bipush (v := zI 40) hx hb dX4_toJudge_50 (by decide +kernel) ?_
      refine x_icmp_ge (tgt := 59) hx hb dX4_toJudge_52 (by decide) (by omega) (fun h5 => ?_) (fun h6 => ?_)
      · refine x_iconst hx hb dX4_toJudge_59 ?_
        exact x_qI hx hb hr (kR_t (by omega) rfl) (fun _ => (show (-1 : Int) = fuZ b q zr from (fu_no (fun j hj => hm j (by omega))).symm)) hW (if0_t) hS dX4_toJudge_60 hlocks
      · refine lv_iload_n hx hb dX4_toJudge_55 rfl (lv_at hl 0 rfl) ?_
        refine lv_goto (tgt := 60) hx hb dX4_toJudge_56 (by decide) ?_
        exact x_qI hx hb hr (kR_t (by omega) rfl) (fun _ => (show (k : Int) = fuZ b q zr from by first | (exfalso; omega) | exact (fu_at (by omega) hm (fuP_t (by omega) (by assumption))).symm)) hW (if0_t) hS dX4_toJudge_60 hlocks
    · refine lv_aload_n hx hb dX4_toJudge_19 rfl (lv_at hl 1 rfl) ?_
      refine lv_iload_n hx hb dX4_toJudge_20 rfl (lv_at hl 2 rfl) ?_
      refine lv_iload_n hx hb dX4_toJudge_21 rfl (lv_at hl 0 rfl) ?_
      refine lv_iload_n hx hb dX4_toJudge_22 rfl (lv_at hl 3 rfl) ?_
      refine x_cI (va_runV (As := [.int (zI (q : Int)), .int (zI (k : Int)), .int (zI zr)]) (rest := []) ⟨hx, hb, hml, hown, hts⟩ (c_X4_isPooled l G o b 0 ov un q (by omega) (q : Int) (by omega) (k : Int) (by omega) zr (by omega)) (cwV 3 hts gX4_toJudge_X4_isPooled rfl rfl rfl (by decide +kernel) ⟨Nat.le_of_ble_eq_true rfl, Nat.le_of_ble_eq_true rfl⟩) (x_preM hW hi hK) rfl rfl hl.1 rfl (lv_room (Nat.le_of_ble_eq_true rfl)) dX4_toJudge_23 ⟨Nat.le_of_ble_eq_true rfl, Nat.le_of_ble_eq_true rfl⟩) ?_
      refine x_ifB_eq (tgt := 43) hx hb dX4_toJudge_26 (by decide) (fun h7 => ?_) (fun h8 => ?_)
      · refine x_iinc (lv' := [(3, .int (zI ((k : Int) + 1))), (0, .ref o), (1, .int (zI (q : Int))), (2, .int (zI zr))]) (k := 0) hx hb dX4_toJudge_43 hl rfl (by decide) rfl (fun ls hl => ?_)
        refine lv_goto (tgt := 13) hx hb dX4_toJudge_46 (by decide) ?_
        exact ih13 (k + 1) ls (show ((k + 1) ≤ 40) ∧ (∀ j, j < (k + 1) → fuP b q zr j = false) from ⟨(by omega), (lt_s hm (by first | exact fuP_p (by assumption) | exact fuP_j (by omega)))⟩) (show 40 - (k + 1) < 40 - k from (by omega)) (lv_cons (x_at (lv_at hl 0 rfl) (by omega)) (lv_cons (lv_at hl 1 rfl) (lv_cons (lv_at hl 2 rfl) (lv_cons (lv_at hl 3 rfl) (lv_nil hl)))))
      · have hyes := h8
        refine lv_aload_n hx hb dX4_toJudge_29 rfl (lv_at hl 1 rfl) ?_
        refine x_get (ci := 4) (C := RX4) (T := TX4) (N := 10) (own := RX4) (index := 16) (v := .ref (o + 3)) hx hb hts (by decide +kernel) hown hK hW.ob rfl 2 (by decide) (by decide +kernel) rfl rfl dX4_toJudge_30 ?_
        refine lv_bipush (v := zI 40) hx hb dX4_toJudge_33 (by decide +kernel) ?_
        refine lv_iload_n hx hb dX4_toJudge_35 rfl (lv_at hl 2 rfl) ?_
        refine x_imul hx hb dX4_toJudge_36 ?_
        refine lv_iload_n hx hb dX4_toJudge_37 rfl (lv_at hl 0 rfl) ?_
        refine x_iadd hx hb dX4_toJudge_38 ?_
        refine x_iald hx hb hK hW.ju (40 * q + k) (by omega) (by omega) (by decide) dX4_toJudge_39 ?_
        have hv9 := mJ_at hi (b := b) (q := q) (d := k) (by omega)
        refine x_if_eq (tgt := 49) hx hb dX4_toJudge_40 (by decide) (by omega) (fun h10 => ?_) (fun h11 => ?_)
        · refine lv_iload_n hx hb dX4_toJudge_49 rfl (lv_at hl 0 rfl) ?_
          refine lv_bipush (v := zI 40) hx hb dX4_toJudge_50 (by decide +kernel) ?_
          refine x_icmp_ge (tgt := 59) hx hb dX4_toJudge_52 (by decide) (by omega) (fun h12 => ?_) (fun h13 => ?_)
          · refine x_iconst hx hb dX4_toJudge_59 ?_
            exact x_qI hx hb hr (kR_t (by omega) rfl) (fun _ => (show (-1 : Int) = fuZ b q zr from (fu_no (fun j hj => hm j (by omega))).symm)) hW (if0_t) hS dX4_toJudge_60 hlocks
          · refine lv_iload_n hx hb dX4_toJudge_55 rfl (lv_at hl 0 rfl) ?_
            refine lv_goto (tgt := 60) hx hb dX4_toJudge_56 (by decide) ?_
            exact x_qI hx hb hr (kR_t (by omega) rfl) (fun _ => (show (k : Int) = fuZ b q zr from by first | (exfalso; omega) | exact (fu_at (by omega) hm (fuP_t (by omega) (by assumption))).symm)) hW (if0_t) hS dX4_toJudge_60 hlocks
        · refine x_iinc (lv' := [(3, .int (zI ((k : Int) + 1))), (0, .ref o), (1, .int (zI (q : Int))), (2, .int (zI zr))]) (k := 0) hx hb dX4_toJudge_43 hl rfl (by decide) rfl (fun ls hl => ?_)
          refine lv_goto (tgt := 13) hx hb dX4_toJudge_46 (by decide) ?_
          exact ih13 (k + 1) ls (show ((k + 1) ≤ 40) ∧ (∀ j, j < (k + 1) → fuP b q zr j = false) from ⟨(by omega), (lt_s hm (by first | exact fuP_p (by assumption) | exact fuP_j (by omega)))⟩) (show 40 - (k + 1) < 40 - k from (by omega)) (lv_cons (x_at (lv_at hl 0 rfl) (by omega)) (lv_cons (lv_at hl 1 rfl) (lv_cons (lv_at hl 2 rfl) (lv_cons (lv_at hl 3 rfl) (lv_nil hl)))))
  · replace hW := hW.th (kR_f h2)
    refine x_iconst hx hb dX4_toJudge_9 ?_
    exact x_qI hx hb hr (kR_f (by omega)) (no1) hW (if0_1) hS dX4_toJudge_10 hlocks
theorem rel_t {b : XB} {q y k : Nat} (h : bJ b q (bD b q y k) = 2) : relP b q y k = true := decide_eq_true h
theorem rel_f {b : XB} {q y k : Nat} (h : ¬ bJ b q (bD b q y k) = 2) : ¬ relP b q y k = true := by unfold relP; rw [decide_eq_true_eq]; exact h
set_option maxHeartbeats 4000000 in
set_option maxRecDepth 100000 in
theorem c_X4_relevantAmong (l : Launch) (G : XG) (o : Nat) (b : XB) (th ov un : Int) (q y : Nat) (hq : q < 8) (hy : y < 4) (zr : Int) (hzr : zr = 8 * (y : Int) + (q : Int)) (zf zt : Int) (lo h : Nat) (hzf : zf = (lo : Int)) (hzt : zt = (h : Int)) (hlo : lo ≤ 20) (hh : h ≤ 20) : MetI l yX4_relevantAmong wsX4_relevantAmong (rmF 0 0) (MPc G o b th ov un [.ref o, .int (zI zr), .int (zI zf), .int (zI zt)]) (relN b q y lo h : Int) := by
  refine Met.ofW (cc := cX4_relevantAmong) (maxL := 6) (ret := (some .int)) (by decide) rfl ?_
  intro p e s m args below meth c s₁ B hml hv
  obtain ⟨rfl, hW, hi, hK⟩ := hv
  have hx := B.exec
  have hb := B.bytes
  have hr := B.returns
  have hts := atoms_spec (ws := wsX4_relevantAmong) B.pre
  have hown : s.vm.findClass RX4 = some m.cls := findClass_of_methodNamed B.named
  have hlocks := B.notSynchronized
  have hl := lv_entry ([.ref o, .int (zI zr), .int (zI zf), .int (zI zt)]) (n := 6) (Nat.le_of_ble_eq_true rfl)
  rw [lg_entry_eq]
  generalize (lg_sl ([.ref o, .int (zI zr), .int (zI zf), .int (zI zt)]) ++ List.replicate (6 - (lg_sl ([.ref o, .int (zI zr), .int (zI zf), .int (zI zt)])).length) Slot.unset).toArray = ls at hl ⊢
  have hl : lv_has ls 6 [(0, .ref o), (1, .int (zI zr)), (2, .int (zI zf)), (3, .int (zI zt))] := hl
  have hn20 := hi.n q y
  refine x_iconst hx hb dX4_relevantAmong_0 ?_
  refine lv_istore (lv' := [(4, .int (zI 0)), (0, .ref o), (1, .int (zI zr)), (2, .int (zI zf)), (3, .int (zI zt))]) hx hb dX4_relevantAmong_1 hl (by decide) rfl (fun ls hl => ?_)
  refine lv_iload_n hx hb dX4_relevantAmong_3 rfl (lv_at hl 3 rfl) ?_
  refine lv_istore (lv' := [(5, .int (zI zf)), (4, .int (zI 0)), (0, .ref o), (1, .int (zI zr)), (2, .int (zI zf)), (3, .int (zI zt))]) hx hb dX4_relevantAmong_4 hl (by decide) rfl (fun ls hl => ?_)
  refine x_loop1 (fun (k : Nat) => (k ≤ min h (bN b q y) - lo)) (fun (k : Nat) => min h (bN b q y) - lo - k) (fun (k : Nat) => [(5, .int (zI (lo + k : Int))), (4, .int (zI (cnt9 (relP b q y) lo (k) : Int))), (0, .ref o), (1, .int (zI zr)), (3, .int (zI zt))]) (0) (show ((0) ≤ min h (bN b q y) - lo) from (Nat.zero_le _)) (show lv_has ls 6 [(5, .int (zI (lo + (0) : Int))), (4, .int (zI (cnt9 (relP b q y) lo ((0)) : Int))), (0, .ref o), (1, .int (zI zr)), (3, .int (zI zt))] from (lv_cons (x_at (lv_at hl 0 rfl) (by omega)) (lv_cons (x_at (lv_at hl 1 rfl) (rfl)) (lv_cons (lv_at hl 2 rfl) (lv_cons (lv_at hl 3 rfl) (lv_cons (lv_at hl 5 rfl) (lv_nil hl))))))) (fun k ls hI6 hl ih6 => ?_)
  have hk : k ≤ min h (bN b q y) - lo := hI6
  have hl : lv_has ls 6 [(5, .int (zI (lo + k : Int))), (4, .int (zI (cnt9 (relP b q y) lo (k) : Int))), (0, .ref o), (1, .int (zI zr)), (3, .int (zI zt))] := hl
  refine lv_iload hx hb dX4_relevantAmong_6 (lv_at hl 0 rfl) ?_
  refine lv_iload_n hx hb dX4_relevantAmong_8 rfl (lv_at hl 4 rfl) ?_
  refine x_icmp_ge (tgt := 71) hx hb dX4_relevantAmong_9 (by decide) (by omega) (fun h1 => ?_) (fun h2 => ?_)
  · refine lv_iload hx hb dX4_relevantAmong_71 (lv_at hl 1 rfl) ?_
    exact x_retI hx hb hr (by rw [show k = min h (bN b q y) - lo from by omega]; rfl) dX4_relevantAmong_73 hlocks
  · refine lv_iload hx hb dX4_relevantAmong_12 (lv_at hl 0 rfl) ?_
    refine lv_aload_n hx hb dX4_relevantAmong_14 rfl (lv_at hl 2 rfl) ?_
    refine x_get (ci := 4) (C := RX4) (T := TX4) (N := 10) (own := RX4) (index := 7) (v := .ref (o + 1)) hx hb hts (by decide +kernel) hown hK hW.ob rfl 0 (by decide) (by decide +kernel) rfl rfl dX4_relevantAmong_15 ?_
    refine lv_iload_n hx hb dX4_relevantAmong_18 rfl (lv_at hl 3 rfl) ?_
    refine x_iald hx hb hK hW.le (8 * y + q) (by omega) (by omega) (by decide) dX4_relevantAmong_19 ?_
    have hv3 := mN_at b (q := q) (y := y) (by omega)
    refine x_icmp_ge (tgt := 71) hx hb dX4_relevantAmong_20 (by decide) (by omega) (fun h4 => ?_) (fun h5 => ?_)
    · refine lv_iload hx hb dX4_relevantAmong_71 (lv_at hl 1 rfl) ?_
      exact x_retI hx hb hr (by rw [show k = min h (bN b q y) - lo from by omega]; rfl) dX4_relevantAmong_73 hlocks
    · refine lv_iload hx hb dX4_relevantAmong_23 (lv_at hl 1 rfl) ?_
      refine lv_aload_n hx hb dX4_relevantAmong_25 rfl (lv_at hl 2 rfl) ?_
      refine x_get (ci := 4) (C := RX4) (T := TX4) (N := 10) (own := RX4) (index := 16) (v := .ref (o + 3)) hx hb hts (by decide +kernel) hown hK hW.ob rfl 2 (by decide) (by decide +kernel) rfl rfl dX4_relevantAmong_26 ?_
      refine lv_bipush (v := zI 40) hx hb dX4_relevantAmong_29 (by decide +kernel) ?_
      refine lv_iload_n hx hb dX4_relevantAmong_31 rfl (lv_at hl 3 rfl) ?_
      refine lv_bipush (v := zI 8) hx hb dX4_relevantAmong_32 (by decide +kernel) ?_
      refine x_irem hx hb (by omega) (by omega) dX4_relevantAmong_34 ?_
      refine x_imul hx hb dX4_relevantAmong_35 ?_
      refine lv_aload_n hx hb dX4_relevantAmong_36 rfl (lv_at hl 2 rfl) ?_
      refine x_get (ci := 4) (C := RX4) (T := TX4) (N := 10) (own := RX4) (index := 13) (v := .ref (o + 2)) hx hb hts (by decide +kernel) hown hK hW.ob rfl 1 (by decide) (by decide +kernel) rfl rfl dX4_relevantAmong_37 ?_
      refine lv_bipush (v := zI 20) hx hb dX4_relevantAmong_40 (by decide +kernel) ?_
      refine lv_iload_n hx hb dX4_relevantAmong_42 rfl (lv_at hl 3 rfl) ?_
      refine x_imul hx hb dX4_relevantAmong_43 ?_
      refine lv_iload hx hb dX4_relevantAmong_44 (lv_at hl 0 rfl) ?_
      refine x_iadd hx hb dX4_relevantAmong_46 ?_
      refine x_iald hx hb hK hW.ro (20 * (8 * y + q) + (lo + k)) (by omega) (by omega) (by decide) dX4_relevantAmong_47 ?_
      have hv6 := mR_at hi (b := b) (q := q) (y := y) (k := (lo + k)) (by omega) (by omega)
      refine lv_bipush (v := zI 64) hx hb dX4_relevantAmong_48 (by decide +kernel) ?_
      refine x_irem hx hb (by omega) (by omega) dX4_relevantAmong_50 ?_
      refine x_iadd hx hb dX4_relevantAmong_51 ?_
      refine x_iald hx hb hK hW.ju (40 * q + bD b q y (lo + k)) (by omega) (by omega) (by decide) dX4_relevantAmong_52 ?_
      have hv7 := mJ_at hi (b := b) (q := q) (d := bD b q y (lo + k)) (by omega)
      refine x_iconst hx hb dX4_relevantAmong_53 ?_
      refine x_icmp_ne (tgt := 61) hx hb dX4_relevantAmong_54 (by decide) (by omega) (fun h8 => ?_) (fun h9 => ?_)
      · refine x_iconst hx hb dX4_relevantAmong_61 ?_
        refine x_iadd hx hb dX4_relevantAmong_62 ?_
        refine lv_istore (lv' := [(4, .int (zI ((cnt9 (relP b q y) lo (k) : Int) + 0))), (5, .int (zI (lo + k : Int))), (0, .ref o), (1, .int (zI zr)), (3, .int (zI zt))]) hx hb dX4_relevantAmong_63 hl (by decide) rfl (fun ls hl => ?_)
        refine x_iinc (lv' := [(5, .int (zI ((lo + k : Int) + 1))), (4, .int (zI ((cnt9 (relP b q y) lo (k) : Int) + 0))), (0, .ref o), (1, .int (zI zr)), (3, .int (zI zt))]) (k := 1) hx hb dX4_relevantAmong_65 hl rfl (by decide) rfl (fun ls hl => ?_)
        refine lv_goto (tgt := 6) hx hb dX4_relevantAmong_68 (by decide) ?_
        exact ih6 (k + 1) ls (show ((k + 1) ≤ min h (bN b q y) - lo) from (by omega)) (show min h (bN b q y) - lo - (k + 1) < min h (bN b q y) - lo - k from (by omega)) (lv_cons (x_at (lv_at hl 0 rfl) (by omega)) (lv_cons (x_at (lv_at hl 1 rfl) (by rw [cnt9_f (rel_f (by omega))]; exact Int.add_zero _)) (lv_cons (lv_at hl 2 rfl) (lv_cons (lv_at hl 3 rfl) (lv_cons (lv_at hl 4 rfl) (lv_nil hl))))))
      · refine x_iconst hx hb dX4_relevantAmong_57 ?_
        refine lv_goto (tgt := 62) hx hb dX4_relevantAmong_58 (by decide) ?_
        refine x_iadd hx hb dX4_relevantAmong_62 ?_
        refine lv_istore (lv' := [(4, .int (zI ((cnt9 (relP b q y) lo (k) : Int) + 1))), (5, .int (zI (lo + k : Int))), (0, .ref o), (1, .int (zI zr)), (3, .int (zI zt))]) hx hb dX4_relevantAmong_63 hl (by decide) rfl (fun ls hl => ?_)
        refine x_iinc (lv' := [(5, .int (zI ((lo + k : Int) + 1))), (4, .int (zI ((cnt9 (relP b q y) lo (k) : Int) + 1))), (0, .ref o), (1, .int (zI zr)), (3, .int (zI zt))]) (k := 1) hx hb dX4_relevantAmong_65 hl rfl (by decide) rfl (fun ls hl => ?_)
        refine lv_goto (tgt := 6) hx hb dX4_relevantAmong_68 (by decide) ?_
        exact ih6 (k + 1) ls (show ((k + 1) ≤ min h (bN b q y) - lo) from (by omega)) (show min h (bN b q y) - lo - (k + 1) < min h (bN b q y) - lo - k from (by omega)) (lv_cons (x_at (lv_at hl 0 rfl) (by omega)) (lv_cons (x_at (lv_at hl 1 rfl) (by rw [cnt9_t (rel_t (by omega))]; rfl)) (lv_cons (lv_at hl 2 rfl) (lv_cons (lv_at hl 3 rfl) (lv_cons (lv_at hl 4 rfl) (lv_nil hl))))))
theorem tE_all {sc : Nat → Nat} {n i e : Nat} (hi : i < n) (h1 : i ≤ e) (h2 : e ≤ n) (h : ∀ j, i ≤ j → j < e → sc j = sc i) (he : e = n ∨ ¬ sc e = sc i) : tE sc n i = e := by
  have hie : i < e := by
    rcases Nat.lt_or_ge i e with a | a
    · exact a
    · obtain rfl : e = i := by omega
      rcases he with he | he
      · omega
      · exact absurd rfl he
  refine tE_at hie h2 (fun j a c => ?_) ?_
  · rw [h j (by omega) c, h (j - 1) (by omega) (by omega)]
  · rcases he with he | he
    · exact Or.inl he
    · exact Or.inr (by rw [h (e - 1) (by omega) (by omega)]; exact he)
set_option maxHeartbeats 4000000 in
set_option maxRecDepth 100000 in
theorem c_X4_tieEnd (l : Launch) (G : XG) (o : Nat) (b : XB) (th ov un : Int) (q y : Nat) (hq : q < 8) (hy : y < 4) (zr : Int) (hzr : zr = 8 * (y : Int) + (q : Int)) (zi : Int) (i0 : Nat) (hzi : zi = (i0 : Int)) (hi0 : i0 < bN b q y) : MetI l yX4_tieEnd wsX4_tieEnd (rmF 0 0) (MPc G o b th ov un [.ref o, .int (zI zr), .int (zI zi)]) (tE (bS b q y) (bN b q y) i0 : Int) := by
  refine Met.ofW (cc := cX4_tieEnd) (maxL := 4) (ret := (some .int)) (by decide) rfl ?_
  intro p e s m args below meth c s₁ B hml hv
  obtain ⟨rfl, hW, hi, hK⟩ := hv
  have hx := B.exec
  have hb := B.bytes
  have hr := B.returns
  have hts := atoms_spec (ws := wsX4_tieEnd) B.pre
  have hown : s.vm.findClass RX4 = some m.cls := findClass_of_methodNamed B.named
  have hlocks := B.notSynchronized
  have hl := lv_entry ([.ref o, .int (zI zr), .int (zI zi)]) (n := 4) (Nat.le_of_ble_eq_true rfl)
  rw [lg_entry_eq]
  generalize (lg_sl ([.ref o, .int (zI zr), .int (zI zi)]) ++ List.replicate (4 - (lg_sl ([.ref o, .int (zI zr), .int (zI zi)])).length) Slot.unset).toArray = ls at hl ⊢
  have hl : lv_has ls 4 [(0, .ref o), (1, .int (zI zr)), (2, .int (zI zi))] := hl
  have hn20 := hi.n q y
  refine lv_iload_n hx hb dX4_tieEnd_0 rfl (lv_at hl 2 rfl) ?_
  refine lv_istore_n (lv' := [(3, .int (zI zi)), (0, .ref o), (1, .int (zI zr)), (2, .int (zI zi))]) hx hb dX4_tieEnd_1 rfl hl (by decide) rfl (fun ls hl => ?_)
  refine x_loop1 (fun (e0 : Nat) => (i0 ≤ e0) ∧ (e0 ≤ bN b q y) ∧ (∀ j, i0 ≤ j → j < e0 → bS b q y j = bS b q y i0)) (fun (e0 : Nat) => bN b q y - e0) (fun (e0 : Nat) => [(3, .int (zI (e0 : Int))), (0, .ref o), (1, .int (zI zr)), (2, .int (zI zi))]) (i0) (show (i0 ≤ (i0)) ∧ ((i0) ≤ bN b q y) ∧ (∀ j, i0 ≤ j → j < (i0) → bS b q y j = bS b q y i0) from ⟨(Nat.le_refl _), (by omega), (fun j h1 h2 => absurd h2 (by omega))⟩) (show lv_has ls 4 [(3, .int (zI ((i0) : Int))), (0, .ref o), (1, .int (zI zr)), (2, .int (zI zi))] from (lv_cons (x_at (lv_at hl 0 rfl) (by omega)) (lv_cons (lv_at hl 1 rfl) (lv_cons (lv_at hl 2 rfl) (lv_cons (lv_at hl 3 rfl) (lv_nil hl)))))) (fun e0 ls hI2 hl ih2 => ?_)
  obtain ⟨h1e, h2e, he⟩ : (i0 ≤ e0) ∧ (e0 ≤ bN b q y) ∧ (∀ j, i0 ≤ j → j < e0 → bS b q y j = bS b q y i0) := hI2
  have hl : lv_has ls 4 [(3, .int (zI (e0 : Int))), (0, .ref o), (1, .int (zI zr)), (2, .int (zI zi))] := hl
  refine lv_iload_n hx hb dX4_tieEnd_2 rfl (lv_at hl 0 rfl) ?_
  refine lv_aload_n hx hb dX4_tieEnd_3 rfl (lv_at hl 1 rfl) ?_
  refine x_get (ci := 4) (C := RX4) (T := TX4) (N := 10) (own := RX4) (index := 7) (v := .ref (o + 1)) hx hb hts (by decide +kernel) hown hK hW.ob rfl 0 (by decide) (by decide +kernel) rfl rfl dX4_tieEnd_4 ?_
  refine lv_iload_n hx hb dX4_tieEnd_7 rfl (lv_at hl 2 rfl) ?_
  refine x_iald hx hb hK hW.le (8 * y + q) (by omega) (by omega) (by decide) dX4_tieEnd_8 ?_
  have hv1 := mN_at b (q := q) (y := y) (by omega)
  refine x_icmp_ge (tgt := 49) hx hb dX4_tieEnd_9 (by decide) (by omega) (fun h2 => ?_) (fun h3 => ?_)
  · refine lv_iload_n hx hb dX4_tieEnd_49 rfl (lv_at hl 0 rfl) ?_
    exact x_retI hx hb hr (by rw [tE_all hi0 h1e h2e he (by omega)]) dX4_tieEnd_50 hlocks
  · refine lv_aload_n hx hb dX4_tieEnd_12 rfl (lv_at hl 1 rfl) ?_
    refine x_get (ci := 4) (C := RX4) (T := TX4) (N := 10) (own := RX4) (index := 13) (v := .ref (o + 2)) hx hb hts (by decide +kernel) hown hK hW.ob rfl 1 (by decide) (by decide +kernel) rfl rfl dX4_tieEnd_13 ?_
    refine lv_bipush (v := zI 20) hx hb dX4_tieEnd_16 (by decide +kernel) ?_
    refine lv_iload_n hx hb dX4_tieEnd_18 rfl (lv_at hl 2 rfl) ?_
    refine x_imul hx hb dX4_tieEnd_19 ?_
    refine lv_iload_n hx hb dX4_tieEnd_20 rfl (lv_at hl 0 rfl) ?_
    refine x_iadd hx hb dX4_tieEnd_21 ?_
    refine x_iald hx hb hK hW.ro (20 * (8 * y + q) + e0) (by omega) (by omega) (by decide) dX4_tieEnd_22 ?_
    have hv4 := mR_at hi (b := b) (q := q) (y := y) (k := e0) (by omega) (by omega)
    refine lv_bipush (v := zI 64) hx hb dX4_tieEnd_23 (by decide +kernel) ?_
    refine x_idiv hx hb (by omega) (by omega) dX4_tieEnd_25 ?_
    refine lv_aload_n hx hb dX4_tieEnd_26 rfl (lv_at hl 1 rfl) ?_
    refine x_get (ci := 4) (C := RX4) (T := TX4) (N := 10) (own := RX4) (index := 13) (v := .ref (o + 2)) hx hb hts (by decide +kernel) hown hK hW.ob rfl 1 (by decide) (by decide +kernel) rfl rfl dX4_tieEnd_27 ?_
    refine lv_bipush (v := zI 20) hx hb dX4_tieEnd_30 (by decide +kernel) ?_
    refine lv_iload_n hx hb dX4_tieEnd_32 rfl (lv_at hl 2 rfl) ?_
    refine x_imul hx hb dX4_tieEnd_33 ?_
    refine lv_iload_n hx hb dX4_tieEnd_34 rfl (lv_at hl 3 rfl) ?_
    refine x_iadd hx hb dX4_tieEnd_35 ?_
    refine x_iald hx hb hK hW.ro (20 * (8 * y + q) + i0) (by omega) (by omega) (by decide) dX4_tieEnd_36 ?_
    have hv5 := mR_at hi (b := b) (q := q) (y := y) (k := i0) (by omega) (by omega)
    refine lv_bipush (v := zI 64) hx hb dX4_tieEnd_37 (by decide +kernel) ?_
    refine x_idiv hx hb (by omega) (by omega) dX4_tieEnd_39 ?_
    refine x_icmp_ne (tgt := 49) hx hb dX4_tieEnd_40 (by decide) (by omega) (fun h6 => ?_) (fun h7 => ?_)
    · refine lv_iload_n hx hb dX4_tieEnd_49 rfl (lv_at hl 0 rfl) ?_
      exact x_retI hx hb hr (by rw [tE_all hi0 h1e h2e he (by omega)]) dX4_tieEnd_50 hlocks
    · refine x_iinc (lv' := [(3, .int (zI ((e0 : Int) + 1))), (0, .ref o), (1, .int (zI zr)), (2, .int (zI zi))]) (k := 0) hx hb dX4_tieEnd_43 hl rfl (by decide) rfl (fun ls hl => ?_)
      refine lv_goto (tgt := 2) hx hb dX4_tieEnd_46 (by decide) ?_
      exact ih2 (e0 + 1) ls (show (i0 ≤ (e0 + 1)) ∧ ((e0 + 1) ≤ bN b q y) ∧ (∀ j, i0 ≤ j → j < (e0 + 1) → bS b q y j = bS b q y i0) from ⟨(by omega), (by omega), (fun j h1 h2 => by rcases Nat.lt_or_ge j e0 with h | h; exact he j h1 h; rw [show j = e0 from by omega]; omega)⟩) (show bN b q y - (e0 + 1) < bN b q y - e0 from (by omega)) (lv_cons (x_at (lv_at hl 0 rfl) (by omega)) (lv_cons (lv_at hl 1 rfl) (lv_cons (lv_at hl 2 rfl) (lv_cons (lv_at hl 3 rfl) (lv_nil hl)))))
set_option maxHeartbeats 4000000 in
set_option maxRecDepth 100000 in
theorem c_X4_ways (l : Launch) (zs zm : Int) (d k0 : Nat) (hzs : zs = (d : Int) + (k0 : Int)) (hzm : zm = (k0 : Int)) (hd : d + k0 ≤ 20) : MetL l yX4_ways wsX4_ways (rmF 0 0) (SPc [.int (zI zs), .int (zI zm)]) (subI d k0) := by
  refine Met.ofW (cc := cX4_ways) (maxL := 5) (ret := (some .long)) (by decide) rfl ?_
  intro p e s m args below meth c s₁ B hml hv
  obtain ⟨rfl, -⟩ := hv
  have hx := B.exec
  have hb := B.bytes
  have hr := B.returns
  have hts := atoms_spec (ws := wsX4_ways) B.pre
  have hown : s.vm.findClass RX4 = some m.cls := findClass_of_methodNamed B.named
  have hlocks := B.notSynchronized
  have hl := lv_entry ([.int (zI zs), .int (zI zm)]) (n := 5) (Nat.le_of_ble_eq_true rfl)
  rw [lg_entry_eq]
  generalize (lg_sl ([.int (zI zs), .int (zI zm)]) ++ List.replicate (5 - (lg_sl ([.int (zI zs), .int (zI zm)])).length) Slot.unset).toArray = ls at hl ⊢
  have hl : lv_has ls 5 [(0, .int (zI zs)), (1, .int (zI zm))] := hl
  refine lv_iload_n hx hb dX4_ways_0 rfl (lv_at hl 1 rfl) ?_
  refine x_if_lt (tgt := 9) hx hb dX4_ways_1 (by decide) (by omega) (fun h1 => ?_) (fun h2 => ?_)
  · exact absurd h1 (by omega)
  · refine lv_iload_n hx hb dX4_ways_4 rfl (lv_at hl 1 rfl) ?_
    refine lv_iload_n hx hb dX4_ways_5 rfl (lv_at hl 0 rfl) ?_
    refine x_icmp_le (tgt := 11) hx hb dX4_ways_6 (by decide) (by omega) (fun h3 => ?_) (fun h4 => ?_)
    · refine lv_lconst (v := lI 1) hx hb dX4_ways_11 (by decide +kernel) ?_
      refine lv_lstore_n (lv' := [(2, .long (lI 1)), (0, .int (zI zs)), (1, .int (zI zm))]) hx hb dX4_ways_12 rfl hl (by decide) rfl (fun ls hl => ?_)
      refine x_iconst hx hb dX4_ways_13 ?_
      refine lv_istore (lv' := [(4, .int (zI 1)), (2, .long (lI 1)), (0, .int (zI zs)), (1, .int (zI zm))]) hx hb dX4_ways_14 hl (by decide) rfl (fun ls hl => ?_)
      refine x_loop1 (fun (k : Nat) => (k ≤ k0)) (fun (k : Nat) => k0 - k) (fun (k : Nat) => [(4, .int (zI ((k : Int) + 1))), (2, .long (lI (subI d k))), (0, .int (zI zs)), (1, .int (zI zm))]) (0) (show ((0) ≤ k0) from (Nat.zero_le _)) (show lv_has ls 5 [(4, .int (zI (((0) : Int) + 1))), (2, .long (lI (subI d (0)))), (0, .int (zI zs)), (1, .int (zI zm))] from (lv_cons (x_at (lv_at hl 0 rfl) (by omega)) (lv_cons (x_atL (lv_at hl 1 rfl) (rfl)) (lv_cons (lv_at hl 2 rfl) (lv_cons (lv_at hl 3 rfl) (lv_nil hl)))))) (fun k ls hI16 hl ih16 => ?_)
      have hk : k ≤ k0 := hI16
      have hl : lv_has ls 5 [(4, .int (zI ((k : Int) + 1))), (2, .long (lI (subI d k))), (0, .int (zI zs)), (1, .int (zI zm))] := hl
      have hbd := subI_bd (d := d) (k := k) (by omega)
      refine lv_iload hx hb dX4_ways_16 (lv_at hl 0 rfl) ?_
      refine lv_iload_n hx hb dX4_ways_18 rfl (lv_at hl 3 rfl) ?_
      refine x_icmp_gt (tgt := 42) hx hb dX4_ways_19 (by decide) (by omega) (fun h5 => ?_) (fun h6 => ?_)
      · refine lv_lload_n hx hb dX4_ways_42 rfl (lv_at hl 1 rfl) ?_
        exact x_retL hx hb hr (by rw [show k = k0 from by omega]) dX4_ways_43 hlocks
      · refine lv_lload_n hx hb dX4_ways_22 rfl (lv_at hl 1 rfl) ?_
        refine lv_iload_n hx hb dX4_ways_23 rfl (lv_at hl 2 rfl) ?_
        refine lv_iload_n hx hb dX4_ways_24 rfl (lv_at hl 3 rfl) ?_
        refine x_isub hx hb dX4_ways_25 ?_
        refine lv_iload hx hb dX4_ways_26 (lv_at hl 0 rfl) ?_
        refine x_iadd hx hb dX4_ways_28 ?_
        refine x_i2l hx hb (by omega) dX4_ways_29 ?_
        refine x_lmul hx hb dX4_ways_30 ?_
        refine lv_iload hx hb dX4_ways_31 (lv_at hl 0 rfl) ?_
        have hm9 : 0 ≤ subI d k * ((zs - zm) + ((k : Int) + 1)) ∧ subI d k * ((zs - zm) + ((k : Int) + 1)) ≤ 184756 * 20 := by rw [show zs - zm = (d : Int) from by omega]; exact subI_mul (by omega)
        refine x_i2l hx hb (by omega) dX4_ways_33 ?_
        refine x_ldiv hx hb (by omega) (by omega) dX4_ways_34 ?_
        refine lv_lstore_n (lv' := [(2, .long (lI (((subI d k) * ((zs - zm) + ((k : Int) + 1))) / ((k : Int) + 1)))), (4, .int (zI ((k : Int) + 1))), (0, .int (zI zs)), (1, .int (zI zm))]) hx hb dX4_ways_35 rfl hl (by decide) rfl (fun ls hl => ?_)
        refine x_iinc (lv' := [(4, .int (zI (((k : Int) + 1) + 1))), (2, .long (lI (((subI d k) * ((zs - zm) + ((k : Int) + 1))) / ((k : Int) + 1)))), (0, .int (zI zs)), (1, .int (zI zm))]) (k := 1) hx hb dX4_ways_36 hl rfl (by decide) rfl (fun ls hl => ?_)
        refine lv_goto (tgt := 16) hx hb dX4_ways_39 (by decide) ?_
        exact ih16 (k + 1) ls (show ((k + 1) ≤ k0) from (by omega)) (show k0 - (k + 1) < k0 - k from (by omega)) (lv_cons (x_at (lv_at hl 0 rfl) (by omega)) (lv_cons (x_atL (lv_at hl 1 rfl) (by rw [subI, show zs - zm = (d : Int) from by omega])) (lv_cons (lv_at hl 2 rfl) (lv_cons (lv_at hl 3 rfl) (lv_nil hl)))))
    · exact absurd h4 (by omega)
set_option maxHeartbeats 4000000 in
set_option maxRecDepth 100000 in
theorem c_X4_runsOf (l : Launch) (G : XG) (o : Nat) (b : XB) (th ov un : Int) (y : Nat) (hy : y < 4) (zy : Int) (hzy : zy = (y : Int)) : MetI l yX4_runsOf wsX4_runsOf (rmF 0 0) (MPc G o b th ov un [.ref o, .int (zI zy)]) (frN b y : Int) := by
  refine Met.ofW (cc := cX4_runsOf) (maxL := 4) (ret := (some .int)) (by decide) rfl ?_
  intro p e s m args below meth c s₁ B hml hv
  obtain ⟨rfl, hW, hi, hK⟩ := hv
  have hx := B.exec
  have hb := B.bytes
  have hr := B.returns
  have hts := atoms_spec (ws := wsX4_runsOf) B.pre
  have hown : s.vm.findClass RX4 = some m.cls := findClass_of_methodNamed B.named
  have hlocks := B.notSynchronized
  have hl := lv_entry ([.ref o, .int (zI zy)]) (n := 4) (Nat.le_of_ble_eq_true rfl)
  rw [lg_entry_eq]
  generalize (lg_sl ([.ref o, .int (zI zy)]) ++ List.replicate (4 - (lg_sl ([.ref o, .int (zI zy)])).length) Slot.unset).toArray = ls at hl ⊢
  have hl : lv_has ls 4 [(0, .ref o), (1, .int (zI zy))] := hl
  refine x_iconst hx hb dX4_runsOf_0 ?_
  refine lv_istore_n (lv' := [(2, .int (zI 0)), (0, .ref o), (1, .int (zI zy))]) hx hb dX4_runsOf_1 rfl hl (by decide) rfl (fun ls hl => ?_)
  refine x_iconst hx hb dX4_runsOf_2 ?_
  refine lv_istore_n (lv' := [(3, .int (zI 0)), (2, .int (zI 0)), (0, .ref o), (1, .int (zI zy))]) hx hb dX4_runsOf_3 rfl hl (by decide) rfl (fun ls hl => ?_)
  refine x_loop1 (fun (k : Nat) => (k ≤ 8)) (fun (k : Nat) => 8 - k) (fun (k : Nat) => [(3, .int (zI (k : Int))), (2, .int (zI (cnt9 (fun j => decide (0 < bN b j y)) 0 k : Int))), (0, .ref o), (1, .int (zI zy))]) (0) (show ((0) ≤ 8) from (Nat.zero_le _)) (show lv_has ls 4 [(3, .int (zI ((0) : Int))), (2, .int (zI (cnt9 (fun j => decide (0 < bN b j y)) 0 (0) : Int))), (0, .ref o), (1, .int (zI zy))] from (lv_cons (x_at (lv_at hl 0 rfl) (by omega)) (lv_cons (x_at (lv_at hl 1 rfl) (rfl)) (lv_cons (lv_at hl 2 rfl) (lv_cons (lv_at hl 3 rfl) (lv_nil hl)))))) (fun k ls hI4 hl ih4 => ?_)
  have hk : k ≤ 8 := hI4
  have hl : lv_has ls 4 [(3, .int (zI (k : Int))), (2, .int (zI (cnt9 (fun j => decide (0 < bN b j y)) 0 k : Int))), (0, .ref o), (1, .int (zI zy))] := hl
  have hn9 := hi.n k y
  refine lv_iload_n hx hb dX4_runsOf_4 rfl (lv_at hl 0 rfl) ?_
  refine lv_bipush (v := zI 8) hx hb dX4_runsOf_5 (by decide +kernel) ?_
  refine x_icmp_ge (tgt := 38) hx hb dX4_runsOf_7 (by decide) (by omega) (fun h1 => ?_) (fun h2 => ?_)
  · refine lv_iload_n hx hb dX4_runsOf_38 rfl (lv_at hl 1 rfl) ?_
    exact x_retI hx hb hr (by rw [show k = 8 from by omega]; rfl) dX4_runsOf_39 hlocks
  · refine lv_iload_n hx hb dX4_runsOf_10 rfl (lv_at hl 1 rfl) ?_
    refine lv_aload_n hx hb dX4_runsOf_11 rfl (lv_at hl 2 rfl) ?_
    refine x_get (ci := 4) (C := RX4) (T := TX4) (N := 10) (own := RX4) (index := 7) (v := .ref (o + 1)) hx hb hts (by decide +kernel) hown hK hW.ob rfl 0 (by decide) (by decide +kernel) rfl rfl dX4_runsOf_12 ?_
    refine lv_bipush (v := zI 8) hx hb dX4_runsOf_15 (by decide +kernel) ?_
    refine lv_iload_n hx hb dX4_runsOf_17 rfl (lv_at hl 3 rfl) ?_
    refine x_imul hx hb dX4_runsOf_18 ?_
    refine lv_iload_n hx hb dX4_runsOf_19 rfl (lv_at hl 0 rfl) ?_
    refine x_iadd hx hb dX4_runsOf_20 ?_
    refine x_iald hx hb hK hW.le (8 * y + k) (by omega) (by omega) (by decide) dX4_runsOf_21 ?_
    have hv3 := mN_at b (q := k) (y := y) (by omega)
    refine x_if_le (tgt := 29) hx hb dX4_runsOf_22 (by decide) (by omega) (fun h4 => ?_) (fun h5 => ?_)
    · refine x_iconst hx hb dX4_runsOf_29 ?_
      refine x_iadd hx hb dX4_runsOf_30 ?_
      refine lv_istore_n (lv' := [(2, .int (zI ((cnt9 (fun j => decide (0 < bN b j y)) 0 k : Int) + 0))), (3, .int (zI (k : Int))), (0, .ref o), (1, .int (zI zy))]) hx hb dX4_runsOf_31 rfl hl (by decide) rfl (fun ls hl => ?_)
      refine x_iinc (lv' := [(3, .int (zI ((k : Int) + 1))), (2, .int (zI ((cnt9 (fun j => decide (0 < bN b j y)) 0 k : Int) + 0))), (0, .ref o), (1, .int (zI zy))]) (k := 1) hx hb dX4_runsOf_32 hl rfl (by decide) rfl (fun ls hl => ?_)
      refine lv_goto (tgt := 4) hx hb dX4_runsOf_35 (by decide) ?_
      exact ih4 (k + 1) ls (show ((k + 1) ≤ 8) from (by omega)) (show 8 - (k + 1) < 8 - k from (by omega)) (lv_cons (x_at (lv_at hl 0 rfl) (by omega)) (lv_cons (x_at (lv_at hl 1 rfl) (by rw [cnt9_f (by rw [Nat.zero_add, decide_eq_true_eq]; omega)]; exact Int.add_zero _)) (lv_cons (lv_at hl 2 rfl) (lv_cons (lv_at hl 3 rfl) (lv_nil hl)))))
    · refine x_iconst hx hb dX4_runsOf_25 ?_
      refine lv_goto (tgt := 30) hx hb dX4_runsOf_26 (by decide) ?_
      refine x_iadd hx hb dX4_runsOf_30 ?_
      refine lv_istore_n (lv' := [(2, .int (zI ((cnt9 (fun j => decide (0 < bN b j y)) 0 k : Int) + 1))), (3, .int (zI (k : Int))), (0, .ref o), (1, .int (zI zy))]) hx hb dX4_runsOf_31 rfl hl (by decide) rfl (fun ls hl => ?_)
      refine x_iinc (lv' := [(3, .int (zI ((k : Int) + 1))), (2, .int (zI ((cnt9 (fun j => decide (0 < bN b j y)) 0 k : Int) + 1))), (0, .ref o), (1, .int (zI zy))]) (k := 1) hx hb dX4_runsOf_32 hl rfl (by decide) rfl (fun ls hl => ?_)
      refine lv_goto (tgt := 4) hx hb dX4_runsOf_35 (by decide) ?_
      exact ih4 (k + 1) ls (show ((k + 1) ≤ 8) from (by omega)) (show 8 - (k + 1) < 8 - k from (by omega)) (lv_cons (x_at (lv_at hl 0 rfl) (by omega)) (lv_cons (x_at (lv_at hl 1 rfl) (by rw [cnt9_t (by rw [Nat.zero_add]; exact decide_eq_true (by omega))]; rfl)) (lv_cons (lv_at hl 2 rfl) (lv_cons (lv_at hl 3 rfl) (lv_nil hl)))))
