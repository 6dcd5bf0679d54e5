/-! ===== the law's checks: pool, best ===== -/
set_option maxHeartbeats 4000000 in
set_option maxRecDepth 100000 in
theorem c_L_pool (l : Launch) (hfl : l.stackTraces = false) (G : XG) (o lo : Nat) (hlo : lo ≤ o) (b : XB) (q : Nat) (hq : q < 8) (d : Nat) (hd : 1 ≤ d ∧ d ≤ 20) (zq : Int) (zd : Int) (eq : zq = (q : Int)) (ed : zd = (d : Int)) : MetLI l yL_pool wsL_pool 8 124 80 480 G o lo b [.ref o, .int (zI zq), .int (zI zd)] 1 b := by
  subst eq
  subst ed
  refine Met.ofW (cc := cL_pool) (maxL := 6) (ret := (some .boolean)) (by decide) rfl ?_
  intro p e s m args below meth c s₁ B hml hv
  obtain ⟨rfl, hX, hi, hK, hT⟩ := hv
  have hx := B.exec
  have hb := B.bytes
  have hr := B.returns
  have hts := atoms_spec (ws := wsL_pool) B.pre
  have hown : s.vm.findClass RL = some m.cls := findClass_of_methodNamed B.named
  have hlocks := B.notSynchronized
  have hl := lv_entry ([.ref o, .int (zI (q : Int)), .int (zI (d : Int))]) (n := 6) (Nat.le_of_ble_eq_true rfl)
  rw [lg_entry_eq]
  generalize (lg_sl ([.ref o, .int (zI (q : Int)), .int (zI (d : Int))]) ++ List.replicate (6 - (lg_sl ([.ref o, .int (zI (q : Int)), .int (zI (d : Int))])).length) Slot.unset).toArray = ls at hl ⊢
  have hl : lv_has ls 6 [(0, .ref o), (1, .int (zI (q : Int))), (2, .int (zI (d : Int)))] := hl
  have hS : va_S (xA o) s.heap s.heap [] := va_S.rf
  have hAl : ∀ q, xA o q → lo ≤ q := fun q h => Nat.le_trans hlo h.1
  have hfr := fu_rng b q (d : Int)
  have hfp := fu_pos (b := b) (q := q) (de := (d : Int))
  have hpl := pool_le b q d
  have hpi := pool_iff hi (q := q) hd.1
  refine lv_aload_n hx hb dL_pool_0 rfl (lv_at hl 0 rfl) ?_
  refine lv_iload_n hx hb dL_pool_1 rfl (lv_at hl 1 rfl) ?_
  refine lv_iload_n hx hb dL_pool_2 rfl (lv_at hl 2 rfl) ?_
  refine x_wI (va_runV (As := [.int (zI (q : Int)), .int (zI (d : Int))]) (rest := []) ⟨hx, hb, hml, hown, hts⟩ (r_toJudge l hfl G o lo hlo b q (by omega) d (by omega) ((q : Int)) ((d : Int)) (by omega) (by omega)) (cwV 2 hts gL_pool_X3_toJudge rfl rfl rfl (by decide +kernel) ⟨Nat.le_of_ble_eq_true rfl, Nat.le_of_ble_eq_true rfl⟩) (x_preLV hX hi hK hT hS hAl) rfl rfl hl.1 rfl (lv_room (Nat.le_of_ble_eq_true rfl)) dL_pool_3 (show 0 + 8 ≤ 80 ∧ 0 + 48 ≤ 480 from ⟨by omega, by omega⟩)) hS (fun q _ h => h) (fun q h => h) (fun H1 locs1 hX hz9 hk9 hS => ?_)
  refine lv_istore_n (lv' := [(3, .int (zI (fuZ b q (d : Int)))), (0, .ref o), (1, .int (zI (q : Int))), (2, .int (zI (d : Int)))]) hx hb dL_pool_6 rfl hl (by decide) rfl (fun ls hl => ?_)
  refine x_iconst hx hb dL_pool_7 ?_
  refine lv_istore (lv' := [(4, .int (zI 0)), (3, .int (zI (fuZ b q (d : Int)))), (0, .ref o), (1, .int (zI (q : Int))), (2, .int (zI (d : Int)))]) hx hb dL_pool_8 hl (by decide) rfl (fun ls hl => ?_)
  refine x_iconst hx hb dL_pool_10 ?_
  refine lv_istore (lv' := [(5, .int (zI 0)), (4, .int (zI 0)), (3, .int (zI (fuZ b q (d : Int)))), (0, .ref o), (1, .int (zI (q : Int))), (2, .int (zI (d : Int)))]) hx hb dL_pool_11 hl (by decide) rfl (fun ls hl => ?_)
  refine x_loopC (N := 4) (dc := 16) (ds := 96) (fun _ H locs => BX G o b H ∧ va_S (xA o) s.heap H locs) (fun (k : Nat) => [(5, .int (zI (k : Int))), (4, .int (zI (plS b q d k : Int))), (3, .int (zI (fuZ b q (d : Int)))), (2, .int (zI (d : Int))), (1, .int (zI (q : Int))), (0, .ref o)]) ⟨hX, hS⟩ (lv_cons (lv_at hl 0 rfl) (lv_cons (lv_at hl 1 rfl) (lv_cons (lv_at hl 2 rfl) (lv_cons (lv_at hl 5 rfl) (lv_cons (lv_at hl 4 rfl) (lv_cons (lv_at hl 3 rfl) (lv_nil hl))))))) (fun k H locs ls hk13 hI13 hl ih13 => ?_) (fun H locs ls hI13 hl => ?_)
  · obtain ⟨hX, hS⟩ := hI13
    have hl : lv_has ls 6 [(5, .int (zI (k : Int))), (4, .int (zI (plS b q d k : Int))), (3, .int (zI (fuZ b q (d : Int)))), (2, .int (zI (d : Int))), (1, .int (zI (q : Int))), (0, .ref o)] := hl
    have hn20 := hi.n q k
    have hps := plS_le b q hd.2 k
    have hpe : plS b q d (k + 1) = plS b q d k + min (bN b q k) d := rfl
    refine lv_iload hx hb dL_pool_13 (lv_at hl 0 rfl) ?_
    refine x_iconst hx hb dL_pool_15 ?_
    refine x_icmp_ge (tgt := 52) hx hb dL_pool_16 (by decide) (by omega) (fun h1 => ?_) (fun h2 => ?_)
    · exact absurd h1 (by omega)
    · refine lv_iload hx hb dL_pool_19 (lv_at hl 1 rfl) ?_
      refine lv_aload_n hx hb dL_pool_21 rfl (lv_at hl 5 rfl) ?_
      refine lv_iload hx hb dL_pool_22 (lv_at hl 0 rfl) ?_
      refine lv_iload_n hx hb dL_pool_24 rfl (lv_at hl 4 rfl) ?_
      refine x_wI (va_runV (As := [.int (zI (k : Int)), .int (zI (q : Int))]) (rest := [.int (zI (plS b q d k : Int))]) ⟨hx, hb, hml, hown, hts⟩ (r_length l hfl G o lo hlo b k (by omega) q (by omega) ((k : Int)) ((q : Int)) (by omega) (by omega)) (cwV 2 hts gL_pool_X3_length rfl rfl rfl (by decide +kernel) ⟨Nat.le_of_ble_eq_true rfl, Nat.le_of_ble_eq_true rfl⟩) (x_preLV hX hi hK hT hS hAl) rfl rfl hl.1 rfl (lv_room (Nat.le_of_ble_eq_true rfl)) dL_pool_25 (show 0 + 8 + 16 * k + 8 ≤ 80 ∧ 0 + 48 + 96 * k + 48 ≤ 480 from ⟨by omega, by omega⟩)) hS (fun q _ h => h) (fun q h => h) (fun H1 locs1 hX hz9 hk9 hS => ?_)
      refine lv_iload_n hx hb dL_pool_28 rfl (lv_at hl 3 rfl) ?_
      refine x_icmp_ge (tgt := 42) hx hb dL_pool_29 (by decide) (by omega) (fun h3 => ?_) (fun h4 => ?_)
      · refine lv_iload_n hx hb dL_pool_42 rfl (lv_at hl 3 rfl) ?_
        refine x_iadd hx hb dL_pool_43 ?_
        refine lv_istore (lv' := [(4, .int (zI ((plS b q d k : Int) + (d : Int)))), (5, .int (zI (k : Int))), (3, .int (zI (fuZ b q (d : Int)))), (2, .int (zI (d : Int))), (1, .int (zI (q : Int))), (0, .ref o)]) hx hb dL_pool_44 hl (by decide) rfl (fun ls hl => ?_)
        refine x_iinc (lv' := [(5, .int (zI ((k : Int) + 1))), (4, .int (zI ((plS b q d k : Int) + (d : Int)))), (3, .int (zI (fuZ b q (d : Int)))), (2, .int (zI (d : Int))), (1, .int (zI (q : Int))), (0, .ref o)]) (k := 1) hx hb dL_pool_46 hl rfl (by decide) rfl (fun ls hl => ?_)
        refine lv_goto (tgt := 13) hx hb dL_pool_49 (by decide) ?_
        refine W.widen (k := 0 + 8 + 16 * k + 16) (n := 0 + 48 + 96 * k + 96) (by omega) (by omega) ?_
        exact ih13 _ _ ls ⟨hX, hS⟩ (lv_cons (x_at (lv_at hl 0 rfl) (by omega)) (lv_cons (x_at (lv_at hl 1 rfl) (by omega)) (lv_cons (lv_at hl 2 rfl) (lv_cons (lv_at hl 3 rfl) (lv_cons (lv_at hl 4 rfl) (lv_cons (lv_at hl 5 rfl) (lv_nil hl)))))))
      · refine lv_aload_n hx hb dL_pool_32 rfl (lv_at hl 5 rfl) ?_
        refine lv_iload hx hb dL_pool_33 (lv_at hl 0 rfl) ?_
        refine lv_iload_n hx hb dL_pool_35 rfl (lv_at hl 4 rfl) ?_
        refine x_wI (va_runV (As := [.int (zI (k : Int)), .int (zI (q : Int))]) (rest := [.int (zI (plS b q d k : Int))]) ⟨hx, hb, hml, hown, hts⟩ (r_length l hfl G o lo hlo b k (by omega) q (by omega) ((k : Int)) ((q : Int)) (by omega) (by omega)) (cwV 2 hts gL_pool_X3_length rfl rfl rfl (by decide +kernel) ⟨Nat.le_of_ble_eq_true rfl, Nat.le_of_ble_eq_true rfl⟩) (x_preLV hX hi hK hT hS hAl) rfl rfl hl.1 rfl (lv_room (Nat.le_of_ble_eq_true rfl)) dL_pool_36 (show 0 + 8 + 16 * k + 8 + 8 ≤ 80 ∧ 0 + 48 + 96 * k + 48 + 48 ≤ 480 from ⟨by omega, by omega⟩)) hS (fun q _ h => h) (fun q h => h) (fun H1 locs1 hX hz9 hk9 hS => ?_)
        refine lv_goto (tgt := 43) hx hb dL_pool_39 (by decide) ?_
        refine x_iadd hx hb dL_pool_43 ?_
        refine lv_istore (lv' := [(4, .int (zI ((plS b q d k : Int) + (bN b q k : Int)))), (5, .int (zI (k : Int))), (3, .int (zI (fuZ b q (d : Int)))), (2, .int (zI (d : Int))), (1, .int (zI (q : Int))), (0, .ref o)]) hx hb dL_pool_44 hl (by decide) rfl (fun ls hl => ?_)
        refine x_iinc (lv' := [(5, .int (zI ((k : Int) + 1))), (4, .int (zI ((plS b q d k : Int) + (bN b q k : Int)))), (3, .int (zI (fuZ b q (d : Int)))), (2, .int (zI (d : Int))), (1, .int (zI (q : Int))), (0, .ref o)]) (k := 1) hx hb dL_pool_46 hl rfl (by decide) rfl (fun ls hl => ?_)
        refine lv_goto (tgt := 13) hx hb dL_pool_49 (by decide) ?_
        refine W.widen (k := 0 + 8 + 16 * k + 16) (n := 0 + 48 + 96 * k + 96) (by omega) (by omega) ?_
        exact ih13 _ _ ls ⟨hX, hS⟩ (lv_cons (x_at (lv_at hl 0 rfl) (by omega)) (lv_cons (x_at (lv_at hl 1 rfl) (by omega)) (lv_cons (lv_at hl 2 rfl) (lv_cons (lv_at hl 3 rfl) (lv_cons (lv_at hl 4 rfl) (lv_cons (lv_at hl 5 rfl) (lv_nil hl)))))))
  · obtain ⟨hX, hS⟩ := hI13
    have hl : lv_has ls 6 [(5, .int (zI 4)), (4, .int (zI (plS b q d 4 : Int))), (3, .int (zI (fuZ b q (d : Int)))), (2, .int (zI (d : Int))), (1, .int (zI (q : Int))), (0, .ref o)] := hl
    have hps := plS_le b q hd.2 4
    refine lv_iload hx hb dL_pool_13 (lv_at hl 0 rfl) ?_
    refine x_iconst hx hb dL_pool_15 ?_
    refine x_icmp_ge (tgt := 52) hx hb dL_pool_16 (by decide) (by omega) (fun h5 => ?_) (fun h6 => ?_)
    · refine lv_aload_n hx hb dL_pool_52 rfl (lv_at hl 5 rfl) ?_
      refine lv_iload_n hx hb dL_pool_53 rfl (lv_at hl 4 rfl) ?_
      refine lv_iload_n hx hb dL_pool_54 rfl (lv_at hl 3 rfl) ?_
      refine x_wI (va_runV (As := [.int (zI (q : Int)), .int (zI (d : Int))]) (rest := []) ⟨hx, hb, hml, hown, hts⟩ (r_pool l hfl G o lo hlo b q (by omega) d (by omega) ((q : Int)) ((d : Int)) (by omega) (by omega)) (cwV 2 hts gL_pool_X3_pool rfl rfl rfl (by decide +kernel) ⟨Nat.le_of_ble_eq_true rfl, Nat.le_of_ble_eq_true rfl⟩) (x_preLV hX hi hK hT hS hAl) rfl rfl hl.1 rfl (lv_room (Nat.le_of_ble_eq_true rfl)) dL_pool_55 (show 0 + 8 + 16 * 4 + 8 ≤ 80 ∧ 0 + 48 + 96 * 4 + 48 ≤ 480 from ⟨by omega, by omega⟩)) hS (fun q _ h => h) (fun q h => h) (fun H1 locs1 hX hz9 hk9 hS => ?_)
      refine lv_istore (lv' := [(5, .int (zI (poolN b q (d : Int) : Int))), (4, .int (zI (plS b q d 4 : Int))), (3, .int (zI (fuZ b q (d : Int)))), (2, .int (zI (d : Int))), (1, .int (zI (q : Int))), (0, .ref o)]) hx hb dL_pool_58 hl (by decide) rfl (fun ls hl => ?_)
      refine lv_iload hx hb dL_pool_60 (lv_at hl 0 rfl) ?_
      refine x_if_lt (tgt := 127) hx hb dL_pool_62 (by decide) (by omega) (fun h7 => ?_) (fun h8 => ?_)
      · exact absurd h7 (by omega)
      · refine lv_iload hx hb dL_pool_65 (lv_at hl 0 rfl) ?_
        refine lv_iload hx hb dL_pool_67 (lv_at hl 1 rfl) ?_
        refine x_icmp_gt (tgt := 127) hx hb dL_pool_69 (by decide) (by omega) (fun h9 => ?_) (fun h10 => ?_)
        · exact absurd h9 (by omega)
        · refine lv_iload hx hb dL_pool_72 (lv_at hl 0 rfl) ?_
          refine lv_bipush (v := zI 40) hx hb dL_pool_74 (by decide +kernel) ?_
          refine x_icmp_gt (tgt := 127) hx hb dL_pool_76 (by decide) (by omega) (fun h11 => ?_) (fun h12 => ?_)
          · exact absurd h11 (by omega)
          · refine lv_iload_n hx hb dL_pool_79 rfl (lv_at hl 2 rfl) ?_
            refine x_iconst hx hb dL_pool_80 ?_
            refine x_icmp_lt (tgt := 127) hx hb dL_pool_81 (by decide) (by omega) (fun h13 => ?_) (fun h14 => ?_)
            · exact absurd h13 (by omega)
            · refine lv_iload_n hx hb dL_pool_84 rfl (lv_at hl 2 rfl) ?_
              refine lv_bipush (v := zI 40) hx hb dL_pool_85 (by decide +kernel) ?_
              refine x_icmp_ge (tgt := 127) hx hb dL_pool_87 (by decide) (by omega) (fun h15 => ?_) (fun h16 => ?_)
              · exact absurd h15 (by omega)
              · refine lv_iload_n hx hb dL_pool_90 rfl (lv_at hl 2 rfl) ?_
                refine x_iconst hx hb dL_pool_91 ?_
                refine x_icmp_eq (tgt := 100) hx hb dL_pool_92 (by decide) (by omega) (fun h17 => ?_) (fun h18 => ?_)
                · refine lv_iload hx hb dL_pool_100 (lv_at hl 1 rfl) ?_
                  refine x_if_ne (tgt := 109) hx hb dL_pool_102 (by decide) (by omega) (fun h19 => ?_) (fun h20 => ?_)
                  · refine x_iconst hx hb dL_pool_109 ?_
                    refine lv_iload hx hb dL_pool_110 (lv_at hl 0 rfl) ?_
                    refine x_if_ne (tgt := 119) hx hb dL_pool_112 (by decide) (by omega) (fun h21 => ?_) (fun h22 => ?_)
                    · refine x_iconst hx hb dL_pool_119 ?_
                      refine x_icmp_ne (tgt := 127) hx hb dL_pool_120 (by decide) (by omega) (fun h23 => ?_) (fun h24 => ?_)
                      · exact absurd h23 (by omega)
                      · refine x_iconst hx hb dL_pool_123 ?_
                        refine lv_goto (tgt := 128) hx hb dL_pool_124 (by decide) ?_
                        refine W.widen (k := 80) (n := 480) (Nat.le_of_ble_eq_true rfl) (Nat.le_of_ble_eq_true rfl) ?_
                        exact W.zret hx hb hr (x_nar (by omega)) (fun t ht _ => ⟨⟨_, (), rfl, rfl, _, ht, hX⟩, hS.F ht⟩) hS.2.2 dL_pool_128
                    · exact absurd h22 (by omega)
                  · refine x_iconst hx hb dL_pool_105 ?_
                    refine lv_goto (tgt := 110) hx hb dL_pool_106 (by decide) ?_
                    refine lv_iload hx hb dL_pool_110 (lv_at hl 0 rfl) ?_
                    refine x_if_ne (tgt := 119) hx hb dL_pool_112 (by decide) (by omega) (fun h25 => ?_) (fun h26 => ?_)
                    · exact absurd h25 (by omega)
                    · refine x_iconst hx hb dL_pool_115 ?_
                      refine lv_goto (tgt := 120) hx hb dL_pool_116 (by decide) ?_
                      refine x_icmp_ne (tgt := 127) hx hb dL_pool_120 (by decide) (by omega) (fun h27 => ?_) (fun h28 => ?_)
                      · exact absurd h27 (by omega)
                      · refine x_iconst hx hb dL_pool_123 ?_
                        refine lv_goto (tgt := 128) hx hb dL_pool_124 (by decide) ?_
                        refine W.widen (k := 80) (n := 480) (Nat.le_of_ble_eq_true rfl) (Nat.le_of_ble_eq_true rfl) ?_
                        exact W.zret hx hb hr (x_nar (by omega)) (fun t ht _ => ⟨⟨_, (), rfl, rfl, _, ht, hX⟩, hS.F ht⟩) hS.2.2 dL_pool_128
                · refine lv_iload hx hb dL_pool_95 (lv_at hl 0 rfl) ?_
                  refine x_if_le (tgt := 127) hx hb dL_pool_97 (by decide) (by omega) (fun h29 => ?_) (fun h30 => ?_)
                  · exact absurd h29 (by omega)
                  · refine lv_iload hx hb dL_pool_100 (lv_at hl 1 rfl) ?_
                    refine x_if_ne (tgt := 109) hx hb dL_pool_102 (by decide) (by omega) (fun h31 => ?_) (fun h32 => ?_)
                    · refine x_iconst hx hb dL_pool_109 ?_
                      refine lv_iload hx hb dL_pool_110 (lv_at hl 0 rfl) ?_
                      refine x_if_ne (tgt := 119) hx hb dL_pool_112 (by decide) (by omega) (fun h33 => ?_) (fun h34 => ?_)
                      · refine x_iconst hx hb dL_pool_119 ?_
                        refine x_icmp_ne (tgt := 127) hx hb dL_pool_120 (by decide) (by omega) (fun h35 => ?_) (fun h36 => ?_)
                        · exact absurd h35 (by omega)
                        · refine x_iconst hx hb dL_pool_123 ?_
                          refine lv_goto (tgt := 128) hx hb dL_pool_124 (by decide) ?_
                          refine W.widen (k := 80) (n := 480) (Nat.le_of_ble_eq_true rfl) (Nat.le_of_ble_eq_true rfl) ?_
                          exact W.zret hx hb hr (x_nar (by omega)) (fun t ht _ => ⟨⟨_, (), rfl, rfl, _, ht, hX⟩, hS.F ht⟩) hS.2.2 dL_pool_128
                      · exact absurd h34 (by omega)
                    · refine x_iconst hx hb dL_pool_105 ?_
                      refine lv_goto (tgt := 110) hx hb dL_pool_106 (by decide) ?_
                      refine lv_iload hx hb dL_pool_110 (lv_at hl 0 rfl) ?_
                      refine x_if_ne (tgt := 119) hx hb dL_pool_112 (by decide) (by omega) (fun h37 => ?_) (fun h38 => ?_)
                      · exact absurd h37 (by omega)
                      · refine x_iconst hx hb dL_pool_115 ?_
                        refine lv_goto (tgt := 120) hx hb dL_pool_116 (by decide) ?_
                        refine x_icmp_ne (tgt := 127) hx hb dL_pool_120 (by decide) (by omega) (fun h39 => ?_) (fun h40 => ?_)
                        · exact absurd h39 (by omega)
                        · refine x_iconst hx hb dL_pool_123 ?_
                          refine lv_goto (tgt := 128) hx hb dL_pool_124 (by decide) ?_
                          refine W.widen (k := 80) (n := 480) (Nat.le_of_ble_eq_true rfl) (Nat.le_of_ble_eq_true rfl) ?_
                          exact W.zret hx hb hr (x_nar (by omega)) (fun t ht _ => ⟨⟨_, (), rfl, rfl, _, ht, hX⟩, hS.F ht⟩) hS.2.2 dL_pool_128
    · exact absurd h6 (by omega)
set_option maxHeartbeats 4000000 in
set_option maxRecDepth 100000 in
theorem c_L_best (l : Launch) (hfl : l.stackTraces = false) (G : XG) (o lo : Nat) (hlo : lo ≤ o) (b : XB) (d : Nat) (hd : 1 ≤ d ∧ d ≤ 20) (zd : Int) (ed : zd = (d : Int)) : MetLI l yL_best wsL_best 8 133 200 1200 G o lo b [.ref o, .int (zI zd)] 1 b := by
  subst ed
  refine Met.ofW (cc := cL_best) (maxL := 9) (ret := (some .boolean)) (by decide) rfl ?_
  intro p e s m args below meth c s₁ B hml hv
  obtain ⟨rfl, hX, hi, hK, hT⟩ := hv
  have hx := B.exec
  have hb := B.bytes
  have hr := B.returns
  have hts := atoms_spec (ws := wsL_best) B.pre
  have hown : s.vm.findClass RL = some m.cls := findClass_of_methodNamed B.named
  have hlocks := B.notSynchronized
  have hl := lv_entry ([.ref o, .int (zI (d : Int))]) (n := 9) (Nat.le_of_ble_eq_true rfl)
  rw [lg_entry_eq]
  generalize (lg_sl ([.ref o, .int (zI (d : Int))]) ++ List.replicate (9 - (lg_sl ([.ref o, .int (zI (d : Int))])).length) Slot.unset).toArray = ls at hl ⊢
  have hl : lv_has ls 9 [(0, .ref o), (1, .int (zI (d : Int)))] := hl
  have hS : va_S (xA o) s.heap s.heap [] := va_S.rf
  have hAl : ∀ q, xA o q → lo ≤ q := fun q h => Nat.le_trans hlo h.1
  have hb4 := best_lt hi (d : Int)
  have hmb := mn_part hi (bestN b (d : Int)) hd
  refine lv_aload_n hx hb dL_best_0 rfl (lv_at hl 0 rfl) ?_
  refine lv_iload_n hx hb dL_best_1 rfl (lv_at hl 1 rfl) ?_
  refine x_wI (va_runV (As := [.int (zI (d : Int))]) (rest := []) ⟨hx, hb, hml, hown, hts⟩ (r_best l hfl G o lo hlo b d (by omega) ((d : Int)) (by omega)) (cwV 1 hts gL_best_X3_best rfl rfl rfl (by decide +kernel) ⟨Nat.le_of_ble_eq_true rfl, Nat.le_of_ble_eq_true rfl⟩) (x_preLV hX hi hK hT hS hAl) rfl rfl hl.1 rfl (lv_room (Nat.le_of_ble_eq_true rfl)) dL_best_2 (show 0 + 8 ≤ 200 ∧ 0 + 48 ≤ 1200 from ⟨by omega, by omega⟩)) hS (fun q _ h => h) (fun q h => h) (fun H1 locs1 hX hz9 hk9 hS => ?_)
  refine lv_istore_n (lv' := [(2, .int (zI (bestN b (d : Int) : Int))), (0, .ref o), (1, .int (zI (d : Int)))]) hx hb dL_best_5 rfl hl (by decide) rfl (fun ls hl => ?_)
  refine lv_iload_n hx hb dL_best_6 rfl (lv_at hl 0 rfl) ?_
  refine x_if_lt (tgt := 19) hx hb dL_best_7 (by decide) (by omega) (fun h1 => ?_) (fun h2 => ?_)
  · exact absurd h1 (by omega)
  · refine lv_iload_n hx hb dL_best_10 rfl (lv_at hl 0 rfl) ?_
    refine x_iconst hx hb dL_best_11 ?_
    refine x_icmp_ge (tgt := 19) hx hb dL_best_12 (by decide) (by omega) (fun h3 => ?_) (fun h4 => ?_)
    · exact absurd h3 (by omega)
    · refine x_iconst hx hb dL_best_15 ?_
      refine lv_goto (tgt := 20) hx hb dL_best_16 (by decide) ?_
      refine lv_istore_n (lv' := [(3, .int (zI 1)), (2, .int (zI (bestN b (d : Int) : Int))), (0, .ref o), (1, .int (zI (d : Int)))]) hx hb dL_best_20 rfl hl (by decide) rfl (fun ls hl => ?_)
      refine x_iconst hx hb dL_best_21 ?_
      refine lv_istore (lv' := [(4, .int (zI 0)), (3, .int (zI 1)), (2, .int (zI (bestN b (d : Int) : Int))), (0, .ref o), (1, .int (zI (d : Int)))]) hx hb dL_best_22 hl (by decide) rfl (fun ls hl => ?_)
      refine x_loopC (N := 4) (dc := 48) (ds := 288) (fun _ H locs => BX G o b H ∧ va_S (xA o) s.heap H locs) (fun (k : Nat) => [(4, .int (zI (k : Int))), (3, .int (zI 1)), (2, .int (zI (bestN b (d : Int) : Int))), (1, .int (zI (d : Int))), (0, .ref o)]) ⟨hX, hS⟩ (lv_cons (lv_at hl 0 rfl) (lv_cons (lv_at hl 1 rfl) (lv_cons (lv_at hl 2 rfl) (lv_cons (lv_at hl 4 rfl) (lv_cons (lv_at hl 3 rfl) (lv_nil hl)))))) (fun k H locs ls hk24 hI24 hl ih24 => ?_) (fun H locs ls hI24 hl => ?_)
      · obtain ⟨hX, hS⟩ := hI24
        have hl : lv_has ls 9 [(4, .int (zI (k : Int))), (3, .int (zI 1)), (2, .int (zI (bestN b (d : Int) : Int))), (1, .int (zI (d : Int))), (0, .ref o)] := hl
        have hmk := mn_part hi k hd
        have hcm := mn_cmp hi hd (y := k) (by omega)
        have hcz := cmpZ_le (100000000 * (mnN b k d : Int) / (mdN b k d : Int)) (100000000 * (mnN b (bestN b (d : Int)) d : Int) / (mdN b (bestN b (d : Int)) d : Int))
        refine lv_iload hx hb dL_best_24 (lv_at hl 0 rfl) ?_
        refine x_iconst hx hb dL_best_26 ?_
        refine x_icmp_ge (tgt := 114) hx hb dL_best_27 (by decide) (by omega) (fun h5 => ?_) (fun h6 => ?_)
        · exact absurd h5 (by omega)
        · refine lv_iload_n hx hb dL_best_30 rfl (lv_at hl 1 rfl) ?_
          refine x_if_eq (tgt := 114) hx hb dL_best_31 (by decide) (by omega) (fun h7 => ?_) (fun h8 => ?_)
          · exact absurd h7 (by omega)
          · refine lv_ldc2 (v := lI 100000000) hx hb hown (by rw [show lI 100000000 = (100000000 : Int64) from by decide +kernel]; exact hts (.constantLong RL 73 100000000) (by decide +kernel)) dL_best_34 ?_
            refine lv_aload_n hx hb dL_best_37 rfl (lv_at hl 4 rfl) ?_
            refine lv_iload hx hb dL_best_38 (lv_at hl 0 rfl) ?_
            refine lv_iload_n hx hb dL_best_40 rfl (lv_at hl 3 rfl) ?_
            refine x_wL (va_runV (As := [.int (zI (k : Int)), .int (zI (d : Int))]) (rest := [.long (lI 100000000)]) ⟨hx, hb, hml, hown, hts⟩ (r_meanNumerator l hfl G o lo hlo b k (by omega) d (by omega) ((k : Int)) ((d : Int)) (by omega) (by omega)) (cwV 2 hts gL_best_X3_meanNumerator rfl rfl rfl (by decide +kernel) ⟨Nat.le_of_ble_eq_true rfl, Nat.le_of_ble_eq_true rfl⟩) (x_preLV hX hi hK hT hS hAl) rfl rfl hl.1 rfl (lv_room (Nat.le_of_ble_eq_true rfl)) dL_best_41 (show 0 + 8 + 48 * k + 8 ≤ 200 ∧ 0 + 48 + 288 * k + 48 ≤ 1200 from ⟨by omega, by omega⟩)) hS (fun q _ h => h) (fun q h => h) (fun H1 locs1 hX hz9 hk9 hS => ?_)
            refine x_lmul hx hb dL_best_44 ?_
            refine lv_aload_n hx hb dL_best_45 rfl (lv_at hl 4 rfl) ?_
            refine lv_iload hx hb dL_best_46 (lv_at hl 0 rfl) ?_
            refine lv_iload_n hx hb dL_best_48 rfl (lv_at hl 3 rfl) ?_
            refine x_wL (va_runV (As := [.int (zI (k : Int)), .int (zI (d : Int))]) (rest := [.long (lI (100000000 * (mnN b k d : Int)))]) ⟨hx, hb, hml, hown, hts⟩ (r_meanDenominator l hfl G o lo hlo b k (by omega) d (by omega) ((k : Int)) ((d : Int)) (by omega) (by omega)) (cwV 2 hts gL_best_X3_meanDenominator rfl rfl rfl (by decide +kernel) ⟨Nat.le_of_ble_eq_true rfl, Nat.le_of_ble_eq_true rfl⟩) (x_preLV hX hi hK hT hS hAl) rfl rfl hl.1 rfl (lv_room (Nat.le_of_ble_eq_true rfl)) dL_best_49 (show 0 + 8 + 48 * k + 8 + 8 ≤ 200 ∧ 0 + 48 + 288 * k + 48 + 48 ≤ 1200 from ⟨by omega, by omega⟩)) hS (fun q _ h => h) (fun q h => h) (fun H1 locs1 hX hz9 hk9 hS => ?_)
            refine x_ldiv hx hb (by omega) (by omega) dL_best_52 ?_
            refine lv_lstore (lv' := [(5, .long (lI ((100000000 * (mnN b k d : Int)) / (mdN b k d : Int)))), (4, .int (zI (k : Int))), (3, .int (zI 1)), (2, .int (zI (bestN b (d : Int) : Int))), (1, .int (zI (d : Int))), (0, .ref o)]) hx hb dL_best_53 hl (by decide) rfl (fun ls hl => ?_)
            refine lv_ldc2 (v := lI 100000000) hx hb hown (by rw [show lI 100000000 = (100000000 : Int64) from by decide +kernel]; exact hts (.constantLong RL 73 100000000) (by decide +kernel)) dL_best_55 ?_
            refine lv_aload_n hx hb dL_best_58 rfl (lv_at hl 5 rfl) ?_
            refine lv_iload_n hx hb dL_best_59 rfl (lv_at hl 3 rfl) ?_
            refine lv_iload_n hx hb dL_best_60 rfl (lv_at hl 4 rfl) ?_
            refine x_wL (va_runV (As := [.int (zI (bestN b (d : Int) : Int)), .int (zI (d : Int))]) (rest := [.long (lI 100000000)]) ⟨hx, hb, hml, hown, hts⟩ (r_meanNumerator l hfl G o lo hlo b (bestN b (d : Int)) (by omega) d (by omega) ((bestN b (d : Int) : Int)) ((d : Int)) (by omega) (by omega)) (cwV 2 hts gL_best_X3_meanNumerator rfl rfl rfl (by decide +kernel) ⟨Nat.le_of_ble_eq_true rfl, Nat.le_of_ble_eq_true rfl⟩) (x_preLV hX hi hK hT hS hAl) rfl rfl hl.1 rfl (lv_room (Nat.le_of_ble_eq_true rfl)) dL_best_61 (show 0 + 8 + 48 * k + 8 + 8 + 8 ≤ 200 ∧ 0 + 48 + 288 * k + 48 + 48 + 48 ≤ 1200 from ⟨by omega, by omega⟩)) hS (fun q _ h => h) (fun q h => h) (fun H1 locs1 hX hz9 hk9 hS => ?_)
            refine x_lmul hx hb dL_best_64 ?_
            refine lv_aload_n hx hb dL_best_65 rfl (lv_at hl 5 rfl) ?_
            refine lv_iload_n hx hb dL_best_66 rfl (lv_at hl 3 rfl) ?_
            refine lv_iload_n hx hb dL_best_67 rfl (lv_at hl 4 rfl) ?_
            refine x_wL (va_runV (As := [.int (zI (bestN b (d : Int) : Int)), .int (zI (d : Int))]) (rest := [.long (lI (100000000 * (mnN b (bestN b (d : Int)) d : Int)))]) ⟨hx, hb, hml, hown, hts⟩ (r_meanDenominator l hfl G o lo hlo b (bestN b (d : Int)) (by omega) d (by omega) ((bestN b (d : Int) : Int)) ((d : Int)) (by omega) (by omega)) (cwV 2 hts gL_best_X3_meanDenominator rfl rfl rfl (by decide +kernel) ⟨Nat.le_of_ble_eq_true rfl, Nat.le_of_ble_eq_true rfl⟩) (x_preLV hX hi hK hT hS hAl) rfl rfl hl.1 rfl (lv_room (Nat.le_of_ble_eq_true rfl)) dL_best_68 (show 0 + 8 + 48 * k + 8 + 8 + 8 + 8 ≤ 200 ∧ 0 + 48 + 288 * k + 48 + 48 + 48 + 48 ≤ 1200 from ⟨by omega, by omega⟩)) hS (fun q _ h => h) (fun q h => h) (fun H1 locs1 hX hz9 hk9 hS => ?_)
            refine x_ldiv hx hb (by omega) (by omega) dL_best_71 ?_
            refine lv_lstore (lv' := [(7, .long (lI ((100000000 * (mnN b (bestN b (d : Int)) d : Int)) / (mdN b (bestN b (d : Int)) d : Int)))), (5, .long (lI ((100000000 * (mnN b k d : Int)) / (mdN b k d : Int)))), (4, .int (zI (k : Int))), (3, .int (zI 1)), (2, .int (zI (bestN b (d : Int) : Int))), (1, .int (zI (d : Int))), (0, .ref o)]) hx hb dL_best_72 hl (by decide) rfl (fun ls hl => ?_)
            refine lv_aload_n hx hb dL_best_74 rfl (lv_at hl 6 rfl) ?_
            refine lv_iload hx hb dL_best_75 (lv_at hl 2 rfl) ?_
            refine lv_iload_n hx hb dL_best_77 rfl (lv_at hl 5 rfl) ?_
            refine x_wL (va_runV (As := [.int (zI (k : Int)), .int (zI (d : Int))]) (rest := []) ⟨hx, hb, hml, hown, hts⟩ (r_meanNumerator l hfl G o lo hlo b k (by omega) d (by omega) ((k : Int)) ((d : Int)) (by omega) (by omega)) (cwV 2 hts gL_best_X3_meanNumerator rfl rfl rfl (by decide +kernel) ⟨Nat.le_of_ble_eq_true rfl, Nat.le_of_ble_eq_true rfl⟩) (x_preLV hX hi hK hT hS hAl) rfl rfl hl.1 rfl (lv_room (Nat.le_of_ble_eq_true rfl)) dL_best_78 (show 0 + 8 + 48 * k + 8 + 8 + 8 + 8 + 8 ≤ 200 ∧ 0 + 48 + 288 * k + 48 + 48 + 48 + 48 + 48 ≤ 1200 from ⟨by omega, by omega⟩)) hS (fun q _ h => h) (fun q h => h) (fun H1 locs1 hX hz9 hk9 hS => ?_)
            refine lv_aload_n hx hb dL_best_81 rfl (lv_at hl 6 rfl) ?_
            refine lv_iload hx hb dL_best_82 (lv_at hl 2 rfl) ?_
            refine lv_iload_n hx hb dL_best_84 rfl (lv_at hl 5 rfl) ?_
            refine x_wL (va_runV (As := [.int (zI (k : Int)), .int (zI (d : Int))]) (rest := [.long (lI (mnN b k d : Int))]) ⟨hx, hb, hml, hown, hts⟩ (r_meanDenominator l hfl G o lo hlo b k (by omega) d (by omega) ((k : Int)) ((d : Int)) (by omega) (by omega)) (cwV 2 hts gL_best_X3_meanDenominator rfl rfl rfl (by decide +kernel) ⟨Nat.le_of_ble_eq_true rfl, Nat.le_of_ble_eq_true rfl⟩) (x_preLV hX hi hK hT hS hAl) rfl rfl hl.1 rfl (lv_room (Nat.le_of_ble_eq_true rfl)) dL_best_85 (show 0 + 8 + 48 * k + 8 + 8 + 8 + 8 + 8 + 8 ≤ 200 ∧ 0 + 48 + 288 * k + 48 + 48 + 48 + 48 + 48 + 48 ≤ 1200 from ⟨by omega, by omega⟩)) hS (fun q _ h => h) (fun q h => h) (fun H1 locs1 hX hz9 hk9 hS => ?_)
            refine x_cI (va_runS (As := [.long (lI (mnN b k d : Int)), .long (lI (mdN b k d : Int))]) (rest := []) ⟨hx, hb, hml, hown, hts⟩ (c_L_isPart l (mnN b k d : Int) (mdN b k d : Int) (mnN b k d) (mdN b k d) (by omega) (by omega) (by omega) (by omega) (by omega) hmk.2.2.1) (va_cwS 2 hts gL_best_L_isPart rfl rfl rfl (by decide +kernel) ⟨Nat.le_of_ble_eq_true rfl, Nat.le_of_ble_eq_true rfl⟩) x_preS rfl rfl hl.1 rfl (lv_room (Nat.le_of_ble_eq_true rfl)) dL_best_88 (show 0 + 8 + 48 * k + 8 + 8 + 8 + 8 + 8 + 8 ≤ 200 ∧ 0 + 48 + 288 * k + 48 + 48 + 48 + 48 + 48 + 48 ≤ 1200 from ⟨by omega, by omega⟩)) ?_
            refine x_if_eq (tgt := 106) hx hb dL_best_91 (by decide) (by omega) (fun h9 => ?_) (fun h10 => ?_)
            · exact absurd h9 (by omega)
            · refine lv_lload hx hb dL_best_94 (lv_at hl 1 rfl) ?_
              refine lv_lload hx hb dL_best_96 (lv_at hl 0 rfl) ?_
              have hr1 : 0 ≤ 100000000 * (mnN b k d : Int) / (mdN b k d : Int) := Int.ediv_nonneg (by omega) (by omega)
              have hr2 : 100000000 * (mnN b k d : Int) / (mdN b k d : Int) ≤ 100000000 * (mnN b k d : Int) := Int.ediv_le_self _ (by omega)
              have hr3 : 0 ≤ 100000000 * (mnN b (bestN b (d : Int)) d : Int) / (mdN b (bestN b (d : Int)) d : Int) := Int.ediv_nonneg (by omega) (by omega)
              have hr4 : 100000000 * (mnN b (bestN b (d : Int)) d : Int) / (mdN b (bestN b (d : Int)) d : Int) ≤ 100000000 * (mnN b (bestN b (d : Int)) d : Int) := Int.ediv_le_self _ (by omega)
              refine x_lcmp hx hb (by omega) dL_best_98 ?_
              refine x_if_gt (tgt := 106) hx hb dL_best_99 (by decide) (x_cw _ _) (fun h11 => ?_) (fun h12 => ?_)
              · exact absurd h11 (by omega)
              · refine x_iconst hx hb dL_best_102 ?_
                refine lv_goto (tgt := 107) hx hb dL_best_103 (by decide) ?_
                refine lv_istore_n (lv' := [(3, .int (zI 1)), (7, .long (lI ((100000000 * (mnN b (bestN b (d : Int)) d : Int)) / (mdN b (bestN b (d : Int)) d : Int)))), (5, .long (lI ((100000000 * (mnN b k d : Int)) / (mdN b k d : Int)))), (4, .int (zI (k : Int))), (2, .int (zI (bestN b (d : Int) : Int))), (1, .int (zI (d : Int))), (0, .ref o)]) hx hb dL_best_107 rfl hl (by decide) rfl (fun ls hl => ?_)
                refine x_iinc (lv' := [(4, .int (zI ((k : Int) + 1))), (3, .int (zI 1)), (7, .long (lI ((100000000 * (mnN b (bestN b (d : Int)) d : Int)) / (mdN b (bestN b (d : Int)) d : Int)))), (5, .long (lI ((100000000 * (mnN b k d : Int)) / (mdN b k d : Int)))), (2, .int (zI (bestN b (d : Int) : Int))), (1, .int (zI (d : Int))), (0, .ref o)]) (k := 3) hx hb dL_best_108 hl rfl (by decide) rfl (fun ls hl => ?_)
                refine lv_goto (tgt := 24) hx hb dL_best_111 (by decide) ?_
                refine W.widen (k := 0 + 8 + 48 * k + 48) (n := 0 + 48 + 288 * k + 288) (by omega) (by omega) ?_
                exact ih24 _ _ ls ⟨hX, hS⟩ (lv_cons (x_at (lv_at hl 0 rfl) (by omega)) (lv_cons (lv_at hl 1 rfl) (lv_cons (lv_at hl 4 rfl) (lv_cons (lv_at hl 5 rfl) (lv_cons (lv_at hl 6 rfl) (lv_nil hl))))))
      · obtain ⟨hX, hS⟩ := hI24
        have hl : lv_has ls 9 [(4, .int (zI 4)), (3, .int (zI 1)), (2, .int (zI (bestN b (d : Int) : Int))), (1, .int (zI (d : Int))), (0, .ref o)] := hl
        refine lv_iload hx hb dL_best_24 (lv_at hl 0 rfl) ?_
        refine x_iconst hx hb dL_best_26 ?_
        refine x_icmp_ge (tgt := 114) hx hb dL_best_27 (by decide) (by omega) (fun h13 => ?_) (fun h14 => ?_)
        · refine lv_iload_n hx hb dL_best_114 rfl (lv_at hl 1 rfl) ?_
          refine W.widen (k := 200) (n := 1200) (Nat.le_of_ble_eq_true rfl) (Nat.le_of_ble_eq_true rfl) ?_
          exact W.zret hx hb hr (x_nar (by omega)) (fun t ht _ => ⟨⟨_, (), rfl, rfl, _, ht, hX⟩, hS.F ht⟩) hS.2.2 dL_best_115
        · exact absurd h14 (by omega)
