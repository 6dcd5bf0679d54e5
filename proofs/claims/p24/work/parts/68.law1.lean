/-! ===== the law's checks: run, pool, tests ===== -/
set_option maxHeartbeats 4000000 in
set_option maxRecDepth 100000 in
theorem c_L_run (l : Launch) (hfl : l.stackTraces = false) (G : XG) (o lo : Nat) (hlo : lo ≤ o) (b : XB) (y : Nat) (hy : y < 4) (q : Nat) (hq : q < 8) (d : Nat) (hd : 1 ≤ d ∧ d ≤ 20) (zs : Int) (zq : Int) (zd : Int) (ey : zs = (y : Int)) (eq : zq = (q : Int)) (ed : zd = (d : Int)) : MetLI l yL_run wsL_run 8 125 104 624 G o lo b [.ref o, .int (zI zs), .int (zI zq), .int (zI zd)] 1 b := by
  subst ey
  subst eq
  subst ed
  refine Met.ofW (cc := cL_run) (maxL := 8) (ret := (some .boolean)) (by decide) rfl ?_
  intro p e s m args below meth c s₁ B hml hv
  obtain ⟨rfl, hX, hi, hK, hT⟩ := hv
  have hx := B.exec
  have hb := B.bytes
  have hr := B.returns
  have hts := atoms_spec (ws := wsL_run) B.pre
  have hown : s.vm.findClass RL = some m.cls := findClass_of_methodNamed B.named
  have hlocks := B.notSynchronized
  have hl := lv_entry ([.ref o, .int (zI (y : Int)), .int (zI (q : Int)), .int (zI (d : Int))]) (n := 8) (Nat.le_of_ble_eq_true rfl)
  rw [lg_entry_eq]
  generalize (lg_sl ([.ref o, .int (zI (y : Int)), .int (zI (q : Int)), .int (zI (d : Int))]) ++ List.replicate (8 - (lg_sl ([.ref o, .int (zI (y : Int)), .int (zI (q : Int)), .int (zI (d : Int))])).length) Slot.unset).toArray = ls at hl ⊢
  have hl : lv_has ls 8 [(0, .ref o), (1, .int (zI (y : Int))), (2, .int (zI (q : Int))), (3, .int (zI (d : Int)))] := hl
  have hS : va_S (xA o) s.heap s.heap [] := va_S.rf
  have hAl : ∀ q, xA o q → lo ≤ q := fun q h => Nat.le_trans hlo h.1
  have hn20 := hi.n q y
  have h1 := rel_n b q y d
  have h2 := rel_app b q y (d := d - 1) (d' := d) (by omega)
  have hpn := pn_part hi q y hd
  have hrn := rn_part hi q y
  have hrp := rn_pos hi q y
  have h20 := rel_n b q y 20
  have hpn2 := pn_part hi q y (d := 20) (by omega)
  have he20 := pn_20 hi q y
  have hatr := dAt_rng hi q y (d : Int)
  have hat := at_iff (b := b) q y (r := (d : Int)) (by omega)
  refine lv_aload_n hx hb dL_run_0 rfl (lv_at hl 0 rfl) ?_
  refine lv_iload_n hx hb dL_run_1 rfl (lv_at hl 1 rfl) ?_
  refine lv_iload_n hx hb dL_run_2 rfl (lv_at hl 2 rfl) ?_
  refine x_wI (va_runV (As := [.int (zI (y : Int)), .int (zI (q : Int))]) (rest := []) ⟨hx, hb, hml, hown, hts⟩ (r_length l hfl G o lo hlo b y (by omega) q (by omega) ((y : Int)) ((q : Int)) (by omega) (by omega)) (cwV 2 hts gL_run_X3_length rfl rfl rfl (by decide +kernel) ⟨Nat.le_of_ble_eq_true rfl, Nat.le_of_ble_eq_true rfl⟩) (x_preLV hX hi hK hT hS hAl) rfl rfl hl.1 rfl (lv_room (Nat.le_of_ble_eq_true rfl)) dL_run_3 ⟨Nat.le_of_ble_eq_true rfl, Nat.le_of_ble_eq_true rfl⟩) hS (fun q _ h => h) (fun q h => h) (fun H1 locs1 hX hz9 hk9 hS => ?_)
  refine lv_istore (lv' := [(4, .int (zI (bN b q y : Int))), (0, .ref o), (1, .int (zI (y : Int))), (2, .int (zI (q : Int))), (3, .int (zI (d : Int)))]) hx hb dL_run_6 hl (by decide) rfl (fun ls hl => ?_)
  refine lv_aload_n hx hb dL_run_8 rfl (lv_at hl 1 rfl) ?_
  refine lv_iload_n hx hb dL_run_9 rfl (lv_at hl 2 rfl) ?_
  refine lv_iload_n hx hb dL_run_10 rfl (lv_at hl 3 rfl) ?_
  refine lv_iload_n hx hb dL_run_11 rfl (lv_at hl 4 rfl) ?_
  refine x_wI (va_runV (As := [.int (zI (y : Int)), .int (zI (q : Int)), .int (zI (d : Int))]) (rest := []) ⟨hx, hb, hml, hown, hts⟩ (r_hits l hfl G o lo hlo b y (by omega) q (by omega) d (by omega) ((y : Int)) ((q : Int)) ((d : Int)) (by omega) (by omega) (by omega)) (cwV 3 hts gL_run_X3_hits rfl rfl rfl (by decide +kernel) ⟨Nat.le_of_ble_eq_true rfl, Nat.le_of_ble_eq_true rfl⟩) (x_preLV hX hi hK hT hS hAl) rfl rfl hl.1 rfl (lv_room (Nat.le_of_ble_eq_true rfl)) dL_run_12 ⟨Nat.le_of_ble_eq_true rfl, Nat.le_of_ble_eq_true rfl⟩) hS (fun q _ h => h) (fun q h => h) (fun H1 locs1 hX hz9 hk9 hS => ?_)
  refine lv_istore (lv' := [(5, .int (zI (relN b q y 0 d : Int))), (4, .int (zI (bN b q y : Int))), (0, .ref o), (1, .int (zI (y : Int))), (2, .int (zI (q : Int))), (3, .int (zI (d : Int)))]) hx hb dL_run_15 hl (by decide) rfl (fun ls hl => ?_)
  refine lv_iload hx hb dL_run_17 (lv_at hl 1 rfl) ?_
  refine x_if_lt (tgt := 74) hx hb dL_run_19 (by decide) (by omega) (fun h1 => ?_) (fun h2 => ?_)
  · exact absurd h1 (by omega)
  · refine lv_iload hx hb dL_run_22 (lv_at hl 1 rfl) ?_
    refine lv_bipush (v := zI 20) hx hb dL_run_24 (by decide +kernel) ?_
    refine x_icmp_gt (tgt := 74) hx hb dL_run_26 (by decide) (by omega) (fun h3 => ?_) (fun h4 => ?_)
    · exact absurd h3 (by omega)
    · refine lv_iload hx hb dL_run_29 (lv_at hl 0 rfl) ?_
      refine x_if_lt (tgt := 74) hx hb dL_run_31 (by decide) (by omega) (fun h5 => ?_) (fun h6 => ?_)
      · exact absurd h5 (by omega)
      · refine lv_iload hx hb dL_run_34 (lv_at hl 0 rfl) ?_
        refine lv_iload hx hb dL_run_36 (lv_at hl 1 rfl) ?_
        refine x_icmp_gt (tgt := 74) hx hb dL_run_38 (by decide) (by omega) (fun h7 => ?_) (fun h8 => ?_)
        · exact absurd h7 (by omega)
        · refine lv_iload hx hb dL_run_41 (lv_at hl 0 rfl) ?_
          refine lv_iload_n hx hb dL_run_43 rfl (lv_at hl 5 rfl) ?_
          refine x_icmp_gt (tgt := 74) hx hb dL_run_44 (by decide) (by omega) (fun h9 => ?_) (fun h10 => ?_)
          · exact absurd h9 (by omega)
          · refine lv_iload hx hb dL_run_47 (lv_at hl 0 rfl) ?_
            refine lv_iload_n hx hb dL_run_49 rfl (lv_at hl 5 rfl) ?_
            refine x_iconst hx hb dL_run_50 ?_
            refine x_icmp_le (tgt := 66) hx hb dL_run_51 (by decide) (by omega) (fun h11 => ?_) (fun h12 => ?_)
            · refine x_iconst hx hb dL_run_66 ?_
              refine x_icmp_lt (tgt := 74) hx hb dL_run_67 (by decide) (by omega) (fun h13 => ?_) (fun h14 => ?_)
              · exact absurd h13 (by omega)
              · refine x_iconst hx hb dL_run_70 ?_
                refine lv_goto (tgt := 75) hx hb dL_run_71 (by decide) ?_
                refine lv_istore (lv' := [(6, .int (zI 1)), (5, .int (zI (relN b q y 0 d : Int))), (4, .int (zI (bN b q y : Int))), (0, .ref o), (1, .int (zI (y : Int))), (2, .int (zI (q : Int))), (3, .int (zI (d : Int)))]) hx hb dL_run_75 hl (by decide) rfl (fun ls hl => ?_)
                refine lv_iload hx hb dL_run_77 (lv_at hl 0 rfl) ?_
                refine x_if_eq (tgt := 124) hx hb dL_run_79 (by decide) (by omega) (fun h15 => ?_) (fun h16 => ?_)
                · exact absurd h15 (by omega)
                · refine lv_aload_n hx hb dL_run_82 rfl (lv_at hl 3 rfl) ?_
                  refine lv_iload_n hx hb dL_run_83 rfl (lv_at hl 4 rfl) ?_
                  refine lv_iload_n hx hb dL_run_84 rfl (lv_at hl 5 rfl) ?_
                  refine lv_iload_n hx hb dL_run_85 rfl (lv_at hl 6 rfl) ?_
                  refine x_wL (va_runV (As := [.int (zI (y : Int)), .int (zI (q : Int)), .int (zI (d : Int))]) (rest := []) ⟨hx, hb, hml, hown, hts⟩ (r_precisionNumerator l hfl G o lo hlo b y (by omega) q (by omega) d (by omega) ((y : Int)) ((q : Int)) ((d : Int)) (by omega) (by omega) (by omega)) (cwV 3 hts gL_run_X3_precisionNumerator rfl rfl rfl (by decide +kernel) ⟨Nat.le_of_ble_eq_true rfl, Nat.le_of_ble_eq_true rfl⟩) (x_preLV hX hi hK hT hS hAl) rfl rfl hl.1 rfl (lv_room (Nat.le_of_ble_eq_true rfl)) dL_run_86 ⟨Nat.le_of_ble_eq_true rfl, Nat.le_of_ble_eq_true rfl⟩) hS (fun q _ h => h) (fun q h => h) (fun H1 locs1 hX hz9 hk9 hS => ?_)
                  refine lv_aload_n hx hb dL_run_89 rfl (lv_at hl 3 rfl) ?_
                  refine lv_iload_n hx hb dL_run_90 rfl (lv_at hl 4 rfl) ?_
                  refine lv_iload_n hx hb dL_run_91 rfl (lv_at hl 5 rfl) ?_
                  refine lv_iload_n hx hb dL_run_92 rfl (lv_at hl 6 rfl) ?_
                  refine x_wL (va_runV (As := [.int (zI (y : Int)), .int (zI (q : Int)), .int (zI (d : Int))]) (rest := [.long (lI (pnN b q y d : Int))]) ⟨hx, hb, hml, hown, hts⟩ (r_precisionDenominator l hfl G o lo hlo b y (by omega) q (by omega) d (by omega) ((y : Int)) ((q : Int)) ((d : Int)) (by omega) (by omega) (by omega)) (cwV 3 hts gL_run_X3_precisionDenominator rfl rfl rfl (by decide +kernel) ⟨Nat.le_of_ble_eq_true rfl, Nat.le_of_ble_eq_true rfl⟩) (x_preLV hX hi hK hT hS hAl) rfl rfl hl.1 rfl (lv_room (Nat.le_of_ble_eq_true rfl)) dL_run_93 ⟨Nat.le_of_ble_eq_true rfl, Nat.le_of_ble_eq_true rfl⟩) hS (fun q _ h => h) (fun q h => h) (fun H1 locs1 hX hz9 hk9 hS => ?_)
                  refine x_cI (va_runS (As := [.long (lI (pnN b q y d : Int)), .long (lI (pdN b q y d : Int))]) (rest := []) ⟨hx, hb, hml, hown, hts⟩ (c_L_isPart l (pnN b q y d : Int) (pdN b q y d : Int) (pnN b q y d) (pdN b q y d) (by omega) (by omega) (by omega) (by omega) (by omega) hpn.2.2.1) (va_cwS 2 hts gL_run_L_isPart rfl rfl rfl (by decide +kernel) ⟨Nat.le_of_ble_eq_true rfl, Nat.le_of_ble_eq_true rfl⟩) x_preS rfl rfl hl.1 rfl (lv_room (Nat.le_of_ble_eq_true rfl)) dL_run_96 ⟨Nat.le_of_ble_eq_true rfl, Nat.le_of_ble_eq_true rfl⟩) ?_
                  refine x_if_eq (tgt := 124) hx hb dL_run_99 (by decide) (by omega) (fun h17 => ?_) (fun h18 => ?_)
                  · exact absurd h17 (by omega)
                  · refine lv_aload_n hx hb dL_run_102 rfl (lv_at hl 3 rfl) ?_
                    refine lv_iload_n hx hb dL_run_103 rfl (lv_at hl 4 rfl) ?_
                    refine lv_iload_n hx hb dL_run_104 rfl (lv_at hl 5 rfl) ?_
                    refine x_wL (va_runV (As := [.int (zI (y : Int)), .int (zI (q : Int))]) (rest := []) ⟨hx, hb, hml, hown, hts⟩ (r_reciprocalNumerator l hfl G o lo hlo b y (by omega) q (by omega) ((y : Int)) ((q : Int)) (by omega) (by omega)) (cwV 2 hts gL_run_X3_reciprocalNumerator rfl rfl rfl (by decide +kernel) ⟨Nat.le_of_ble_eq_true rfl, Nat.le_of_ble_eq_true rfl⟩) (x_preLV hX hi hK hT hS hAl) rfl rfl hl.1 rfl (lv_room (Nat.le_of_ble_eq_true rfl)) dL_run_105 ⟨Nat.le_of_ble_eq_true rfl, Nat.le_of_ble_eq_true rfl⟩) hS (fun q _ h => h) (fun q h => h) (fun H1 locs1 hX hz9 hk9 hS => ?_)
                    refine lv_aload_n hx hb dL_run_108 rfl (lv_at hl 3 rfl) ?_
                    refine lv_iload_n hx hb dL_run_109 rfl (lv_at hl 4 rfl) ?_
                    refine lv_iload_n hx hb dL_run_110 rfl (lv_at hl 5 rfl) ?_
                    refine x_wL (va_runV (As := [.int (zI (y : Int)), .int (zI (q : Int))]) (rest := [.long (lI (rnN b q y : Int))]) ⟨hx, hb, hml, hown, hts⟩ (r_reciprocalDenominator l hfl G o lo hlo b y (by omega) q (by omega) ((y : Int)) ((q : Int)) (by omega) (by omega)) (cwV 2 hts gL_run_X3_reciprocalDenominator rfl rfl rfl (by decide +kernel) ⟨Nat.le_of_ble_eq_true rfl, Nat.le_of_ble_eq_true rfl⟩) (x_preLV hX hi hK hT hS hAl) rfl rfl hl.1 rfl (lv_room (Nat.le_of_ble_eq_true rfl)) dL_run_111 ⟨Nat.le_of_ble_eq_true rfl, Nat.le_of_ble_eq_true rfl⟩) hS (fun q _ h => h) (fun q h => h) (fun H1 locs1 hX hz9 hk9 hS => ?_)
                    refine x_cI (va_runS (As := [.long (lI (rnN b q y : Int)), .long (lI (rdN b q y : Int))]) (rest := []) ⟨hx, hb, hml, hown, hts⟩ (c_L_isPart l (rnN b q y : Int) (rdN b q y : Int) (rnN b q y) (rdN b q y) (by omega) (by omega) (by omega) (by omega) (by omega) hrn.2.2.1) (va_cwS 2 hts gL_run_L_isPart rfl rfl rfl (by decide +kernel) ⟨Nat.le_of_ble_eq_true rfl, Nat.le_of_ble_eq_true rfl⟩) x_preS rfl rfl hl.1 rfl (lv_room (Nat.le_of_ble_eq_true rfl)) dL_run_114 ⟨Nat.le_of_ble_eq_true rfl, Nat.le_of_ble_eq_true rfl⟩) ?_
                    refine x_if_eq (tgt := 124) hx hb dL_run_117 (by decide) (by omega) (fun h19 => ?_) (fun h20 => ?_)
                    · exact absurd h19 (by omega)
                    · refine x_iconst hx hb dL_run_120 ?_
                      refine lv_goto (tgt := 125) hx hb dL_run_121 (by decide) ?_
                      refine lv_istore (lv' := [(6, .int (zI 1)), (5, .int (zI (relN b q y 0 d : Int))), (4, .int (zI (bN b q y : Int))), (0, .ref o), (1, .int (zI (y : Int))), (2, .int (zI (q : Int))), (3, .int (zI (d : Int)))]) hx hb dL_run_125 hl (by decide) rfl (fun ls hl => ?_)
                      refine lv_iload hx hb dL_run_127 (lv_at hl 0 rfl) ?_
                      refine x_if_eq (tgt := 171) hx hb dL_run_129 (by decide) (by omega) (fun h21 => ?_) (fun h22 => ?_)
                      · exact absurd h21 (by omega)
                      · refine lv_aload_n hx hb dL_run_132 rfl (lv_at hl 3 rfl) ?_
                        refine lv_iload_n hx hb dL_run_133 rfl (lv_at hl 4 rfl) ?_
                        refine lv_iload_n hx hb dL_run_134 rfl (lv_at hl 5 rfl) ?_
                        refine x_wL (va_runV (As := [.int (zI (y : Int)), .int (zI (q : Int))]) (rest := []) ⟨hx, hb, hml, hown, hts⟩ (r_reciprocalNumerator l hfl G o lo hlo b y (by omega) q (by omega) ((y : Int)) ((q : Int)) (by omega) (by omega)) (cwV 2 hts gL_run_X3_reciprocalNumerator rfl rfl rfl (by decide +kernel) ⟨Nat.le_of_ble_eq_true rfl, Nat.le_of_ble_eq_true rfl⟩) (x_preLV hX hi hK hT hS hAl) rfl rfl hl.1 rfl (lv_room (Nat.le_of_ble_eq_true rfl)) dL_run_135 ⟨Nat.le_of_ble_eq_true rfl, Nat.le_of_ble_eq_true rfl⟩) hS (fun q _ h => h) (fun q h => h) (fun H1 locs1 hX hz9 hk9 hS => ?_)
                        refine lv_lconst (v := lI 0) hx hb dL_run_138 (by decide +kernel) ?_
                        have hc1 := cmpZ_le (rnN b q y : Int) 0
                        refine x_lcmp hx hb (by omega) dL_run_139 ?_
                        refine x_if_le (tgt := 147) hx hb dL_run_140 (by decide) (x_cw _ _) (fun h23 => ?_) (fun h24 => ?_)
                        · refine x_iconst hx hb dL_run_147 ?_
                          refine lv_aload_n hx hb dL_run_148 rfl (lv_at hl 3 rfl) ?_
                          refine lv_iload_n hx hb dL_run_149 rfl (lv_at hl 4 rfl) ?_
                          refine lv_iload_n hx hb dL_run_150 rfl (lv_at hl 5 rfl) ?_
                          refine lv_bipush (v := zI 20) hx hb dL_run_151 (by decide +kernel) ?_
                          refine x_wI (va_runV (As := [.int (zI (y : Int)), .int (zI (q : Int)), .int (zI 20)]) (rest := [.int (zI 0)]) ⟨hx, hb, hml, hown, hts⟩ (r_hits l hfl G o lo hlo b y (by omega) q (by omega) 20 (by omega) ((y : Int)) ((q : Int)) 20 (by omega) (by omega) (by omega)) (cwV 3 hts gL_run_X3_hits rfl rfl rfl (by decide +kernel) ⟨Nat.le_of_ble_eq_true rfl, Nat.le_of_ble_eq_true rfl⟩) (x_preLV hX hi hK hT hS hAl) rfl rfl hl.1 rfl (lv_room (Nat.le_of_ble_eq_true rfl)) dL_run_153 ⟨Nat.le_of_ble_eq_true rfl, Nat.le_of_ble_eq_true rfl⟩) hS (fun q _ h => h) (fun q h => h) (fun H1 locs1 hX hz9 hk9 hS => ?_)
                          refine x_if_le (tgt := 163) hx hb dL_run_156 (by decide) (by omega) (fun h25 => ?_) (fun h26 => ?_)
                          · refine x_iconst hx hb dL_run_163 ?_
                            refine x_icmp_ne (tgt := 171) hx hb dL_run_164 (by decide) (by omega) (fun h27 => ?_) (fun h28 => ?_)
                            · exact absurd h27 (by omega)
                            · refine x_iconst hx hb dL_run_167 ?_
                              refine lv_goto (tgt := 172) hx hb dL_run_168 (by decide) ?_
                              refine lv_istore (lv' := [(6, .int (zI 1)), (5, .int (zI (relN b q y 0 d : Int))), (4, .int (zI (bN b q y : Int))), (0, .ref o), (1, .int (zI (y : Int))), (2, .int (zI (q : Int))), (3, .int (zI (d : Int)))]) hx hb dL_run_172 hl (by decide) rfl (fun ls hl => ?_)
                              refine lv_aload_n hx hb dL_run_174 rfl (lv_at hl 3 rfl) ?_
                              refine lv_iload_n hx hb dL_run_175 rfl (lv_at hl 4 rfl) ?_
                              refine lv_iload_n hx hb dL_run_176 rfl (lv_at hl 5 rfl) ?_
                              refine lv_bipush (v := zI 20) hx hb dL_run_177 (by decide +kernel) ?_
                              refine x_wL (va_runV (As := [.int (zI (y : Int)), .int (zI (q : Int)), .int (zI 20)]) (rest := []) ⟨hx, hb, hml, hown, hts⟩ (r_precisionNumerator l hfl G o lo hlo b y (by omega) q (by omega) 20 (by omega) ((y : Int)) ((q : Int)) 20 (by omega) (by omega) (by omega)) (cwV 3 hts gL_run_X3_precisionNumerator rfl rfl rfl (by decide +kernel) ⟨Nat.le_of_ble_eq_true rfl, Nat.le_of_ble_eq_true rfl⟩) (x_preLV hX hi hK hT hS hAl) rfl rfl hl.1 rfl (lv_room (Nat.le_of_ble_eq_true rfl)) dL_run_179 ⟨Nat.le_of_ble_eq_true rfl, Nat.le_of_ble_eq_true rfl⟩) hS (fun q _ h => h) (fun q h => h) (fun H1 locs1 hX hz9 hk9 hS => ?_)
                              refine lv_ldc2 (v := lI 20) hx hb hown (by rw [show lI 20 = (20 : Int64) from by decide +kernel]; exact hts (.constantLong RL 53 20) (by decide +kernel)) dL_run_182 ?_
                              refine x_lmul hx hb dL_run_185 ?_
                              refine lv_aload_n hx hb dL_run_186 rfl (lv_at hl 3 rfl) ?_
                              refine lv_iload_n hx hb dL_run_187 rfl (lv_at hl 4 rfl) ?_
                              refine lv_iload_n hx hb dL_run_188 rfl (lv_at hl 5 rfl) ?_
                              refine lv_bipush (v := zI 20) hx hb dL_run_189 (by decide +kernel) ?_
                              refine x_wI (va_runV (As := [.int (zI (y : Int)), .int (zI (q : Int)), .int (zI 20)]) (rest := [.long (lI ((pnN b q y (20 : Nat) : Int) * 20))]) ⟨hx, hb, hml, hown, hts⟩ (r_hits l hfl G o lo hlo b y (by omega) q (by omega) 20 (by omega) ((y : Int)) ((q : Int)) 20 (by omega) (by omega) (by omega)) (cwV 3 hts gL_run_X3_hits rfl rfl rfl (by decide +kernel) ⟨Nat.le_of_ble_eq_true rfl, Nat.le_of_ble_eq_true rfl⟩) (x_preLV hX hi hK hT hS hAl) rfl rfl hl.1 rfl (lv_room (Nat.le_of_ble_eq_true rfl)) dL_run_191 ⟨Nat.le_of_ble_eq_true rfl, Nat.le_of_ble_eq_true rfl⟩) hS (fun q _ h => h) (fun q h => h) (fun H1 locs1 hX hz9 hk9 hS => ?_)
                              refine x_i2l hx hb (by omega) dL_run_194 ?_
                              refine lv_aload_n hx hb dL_run_195 rfl (lv_at hl 3 rfl) ?_
                              refine lv_iload_n hx hb dL_run_196 rfl (lv_at hl 4 rfl) ?_
                              refine lv_iload_n hx hb dL_run_197 rfl (lv_at hl 5 rfl) ?_
                              refine lv_bipush (v := zI 20) hx hb dL_run_198 (by decide +kernel) ?_
                              refine x_wL (va_runV (As := [.int (zI (y : Int)), .int (zI (q : Int)), .int (zI 20)]) (rest := [.long (lI (relN b q y 0 (20 : Nat) : Int)), .long (lI ((pnN b q y (20 : Nat) : Int) * 20))]) ⟨hx, hb, hml, hown, hts⟩ (r_precisionDenominator l hfl G o lo hlo b y (by omega) q (by omega) 20 (by omega) ((y : Int)) ((q : Int)) 20 (by omega) (by omega) (by omega)) (cwV 3 hts gL_run_X3_precisionDenominator rfl rfl rfl (by decide +kernel) ⟨Nat.le_of_ble_eq_true rfl, Nat.le_of_ble_eq_true rfl⟩) (x_preLV hX hi hK hT hS hAl) rfl rfl hl.1 rfl (lv_room (Nat.le_of_ble_eq_true rfl)) dL_run_200 ⟨Nat.le_of_ble_eq_true rfl, Nat.le_of_ble_eq_true rfl⟩) hS (fun q _ h => h) (fun q h => h) (fun H1 locs1 hX hz9 hk9 hS => ?_)
                              refine x_lmul hx hb dL_run_203 ?_
                              have hc2 := cmpZ_eq ((pnN b q y 20 : Int) * 20) ((relN b q y 0 20 : Int) * (pdN b q y 20 : Int))
                              refine x_lcmp hx hb (by omega) dL_run_204 ?_
                              refine x_if_ne (tgt := 212) hx hb dL_run_205 (by decide) (x_cw _ _) (fun h29 => ?_) (fun h30 => ?_)
                              · exact absurd h29 (by omega)
                              · refine x_iconst hx hb dL_run_208 ?_
                                refine lv_goto (tgt := 213) hx hb dL_run_209 (by decide) ?_
                                refine lv_istore (lv' := [(7, .int (zI 1)), (6, .int (zI 1)), (5, .int (zI (relN b q y 0 d : Int))), (4, .int (zI (bN b q y : Int))), (0, .ref o), (1, .int (zI (y : Int))), (2, .int (zI (q : Int))), (3, .int (zI (d : Int)))]) hx hb dL_run_213 hl (by decide) rfl (fun ls hl => ?_)
                                refine lv_iload hx hb dL_run_215 (lv_at hl 1 rfl) ?_
                                refine x_if_eq (tgt := 259) hx hb dL_run_217 (by decide) (by omega) (fun h31 => ?_) (fun h32 => ?_)
                                · exact absurd h31 (by omega)
                                · refine lv_iload hx hb dL_run_220 (lv_at hl 0 rfl) ?_
                                  refine x_if_eq (tgt := 259) hx hb dL_run_222 (by decide) (by omega) (fun h33 => ?_) (fun h34 => ?_)
                                  · exact absurd h33 (by omega)
                                  · refine lv_aload_n hx hb dL_run_225 rfl (lv_at hl 4 rfl) ?_
                                    refine lv_iload_n hx hb dL_run_226 rfl (lv_at hl 5 rfl) ?_
                                    refine lv_iload_n hx hb dL_run_227 rfl (lv_at hl 6 rfl) ?_
                                    refine lv_iload_n hx hb dL_run_228 rfl (lv_at hl 7 rfl) ?_
                                    refine x_wI (va_runV (As := [.int (zI (y : Int)), .int (zI (q : Int)), .int (zI (d : Int))]) (rest := []) ⟨hx, hb, hml, hown, hts⟩ (r_at l hfl G o lo hlo b y (by omega) q (by omega) d (by omega) ((y : Int)) ((q : Int)) ((d : Int)) (by omega) (by omega) (by omega)) (cwV 3 hts gL_run_X3_at rfl rfl rfl (by decide +kernel) ⟨Nat.le_of_ble_eq_true rfl, Nat.le_of_ble_eq_true rfl⟩) (x_preLV hX hi hK hT hS hAl) rfl rfl hl.1 rfl (lv_room (Nat.le_of_ble_eq_true rfl)) dL_run_229 ⟨Nat.le_of_ble_eq_true rfl, Nat.le_of_ble_eq_true rfl⟩) hS (fun q _ h => h) (fun q h => h) (fun H1 locs1 hX hz9 hk9 hS => ?_)
                                    refine x_iconst hx hb dL_run_232 ?_
                                    refine x_icmp_ne (tgt := 240) hx hb dL_run_233 (by decide) (by omega) (fun h35 => ?_) (fun h36 => ?_)
                                    · refine x_iconst hx hb dL_run_240 ?_
                                      refine lv_iload hx hb dL_run_241 (lv_at hl 3 rfl) ?_
                                      refine lv_iload_n hx hb dL_run_243 rfl (lv_at hl 7 rfl) ?_
                                      refine x_icmp_ge (tgt := 251) hx hb dL_run_244 (by decide) (by omega) (fun h37 => ?_) (fun h38 => ?_)
                                      · refine x_iconst hx hb dL_run_251 ?_
                                        refine x_icmp_ne (tgt := 259) hx hb dL_run_252 (by decide) (by omega) (fun h39 => ?_) (fun h40 => ?_)
                                        · exact absurd h39 (by omega)
                                        · refine x_iconst hx hb dL_run_255 ?_
                                          refine lv_goto (tgt := 260) hx hb dL_run_256 (by decide) ?_
                                          refine W.widen (k := 104) (n := 624) (Nat.le_of_ble_eq_true rfl) (Nat.le_of_ble_eq_true rfl) ?_
                                          exact W.zret hx hb hr (x_nar (by omega)) (fun t ht _ => ⟨⟨_, (), rfl, rfl, _, ht, hX⟩, hS.F ht⟩) hS.2.2 dL_run_260
                                      · exact absurd h38 (by omega)
                                    · refine x_iconst hx hb dL_run_236 ?_
                                      refine lv_goto (tgt := 241) hx hb dL_run_237 (by decide) ?_
                                      refine lv_iload hx hb dL_run_241 (lv_at hl 3 rfl) ?_
                                      refine lv_iload_n hx hb dL_run_243 rfl (lv_at hl 7 rfl) ?_
                                      refine x_icmp_ge (tgt := 251) hx hb dL_run_244 (by decide) (by omega) (fun h41 => ?_) (fun h42 => ?_)
                                      · exact absurd h41 (by omega)
                                      · refine x_iconst hx hb dL_run_247 ?_
                                        refine lv_goto (tgt := 252) hx hb dL_run_248 (by decide) ?_
                                        refine x_icmp_ne (tgt := 259) hx hb dL_run_252 (by decide) (by omega) (fun h43 => ?_) (fun h44 => ?_)
                                        · exact absurd h43 (by omega)
                                        · refine x_iconst hx hb dL_run_255 ?_
                                          refine lv_goto (tgt := 260) hx hb dL_run_256 (by decide) ?_
                                          refine W.widen (k := 104) (n := 624) (Nat.le_of_ble_eq_true rfl) (Nat.le_of_ble_eq_true rfl) ?_
                                          exact W.zret hx hb hr (x_nar (by omega)) (fun t ht _ => ⟨⟨_, (), rfl, rfl, _, ht, hX⟩, hS.F ht⟩) hS.2.2 dL_run_260
                          · exact absurd h26 (by omega)
                        · refine x_iconst hx hb dL_run_143 ?_
                          refine lv_goto (tgt := 148) hx hb dL_run_144 (by decide) ?_
                          refine lv_aload_n hx hb dL_run_148 rfl (lv_at hl 3 rfl) ?_
                          refine lv_iload_n hx hb dL_run_149 rfl (lv_at hl 4 rfl) ?_
                          refine lv_iload_n hx hb dL_run_150 rfl (lv_at hl 5 rfl) ?_
                          refine lv_bipush (v := zI 20) hx hb dL_run_151 (by decide +kernel) ?_
                          refine x_wI (va_runV (As := [.int (zI (y : Int)), .int (zI (q : Int)), .int (zI 20)]) (rest := [.int (zI 1)]) ⟨hx, hb, hml, hown, hts⟩ (r_hits l hfl G o lo hlo b y (by omega) q (by omega) 20 (by omega) ((y : Int)) ((q : Int)) 20 (by omega) (by omega) (by omega)) (cwV 3 hts gL_run_X3_hits rfl rfl rfl (by decide +kernel) ⟨Nat.le_of_ble_eq_true rfl, Nat.le_of_ble_eq_true rfl⟩) (x_preLV hX hi hK hT hS hAl) rfl rfl hl.1 rfl (lv_room (Nat.le_of_ble_eq_true rfl)) dL_run_153 ⟨Nat.le_of_ble_eq_true rfl, Nat.le_of_ble_eq_true rfl⟩) hS (fun q _ h => h) (fun q h => h) (fun H1 locs1 hX hz9 hk9 hS => ?_)
                          refine x_if_le (tgt := 163) hx hb dL_run_156 (by decide) (by omega) (fun h45 => ?_) (fun h46 => ?_)
                          · exact absurd h45 (by omega)
                          · refine x_iconst hx hb dL_run_159 ?_
                            refine lv_goto (tgt := 164) hx hb dL_run_160 (by decide) ?_
                            refine x_icmp_ne (tgt := 171) hx hb dL_run_164 (by decide) (by omega) (fun h47 => ?_) (fun h48 => ?_)
                            · exact absurd h47 (by omega)
                            · refine x_iconst hx hb dL_run_167 ?_
                              refine lv_goto (tgt := 172) hx hb dL_run_168 (by decide) ?_
                              refine lv_istore (lv' := [(6, .int (zI 1)), (5, .int (zI (relN b q y 0 d : Int))), (4, .int (zI (bN b q y : Int))), (0, .ref o), (1, .int (zI (y : Int))), (2, .int (zI (q : Int))), (3, .int (zI (d : Int)))]) hx hb dL_run_172 hl (by decide) rfl (fun ls hl => ?_)
                              refine lv_aload_n hx hb dL_run_174 rfl (lv_at hl 3 rfl) ?_
                              refine lv_iload_n hx hb dL_run_175 rfl (lv_at hl 4 rfl) ?_
                              refine lv_iload_n hx hb dL_run_176 rfl (lv_at hl 5 rfl) ?_
                              refine lv_bipush (v := zI 20) hx hb dL_run_177 (by decide +kernel) ?_
                              refine x_wL (va_runV (As := [.int (zI (y : Int)), .int (zI (q : Int)), .int (zI 20)]) (rest := []) ⟨hx, hb, hml, hown, hts⟩ (r_precisionNumerator l hfl G o lo hlo b y (by omega) q (by omega) 20 (by omega) ((y : Int)) ((q : Int)) 20 (by omega) (by omega) (by omega)) (cwV 3 hts gL_run_X3_precisionNumerator rfl rfl rfl (by decide +kernel) ⟨Nat.le_of_ble_eq_true rfl, Nat.le_of_ble_eq_true rfl⟩) (x_preLV hX hi hK hT hS hAl) rfl rfl hl.1 rfl (lv_room (Nat.le_of_ble_eq_true rfl)) dL_run_179 ⟨Nat.le_of_ble_eq_true rfl, Nat.le_of_ble_eq_true rfl⟩) hS (fun q _ h => h) (fun q h => h) (fun H1 locs1 hX hz9 hk9 hS => ?_)
                              refine lv_ldc2 (v := lI 20) hx hb hown (by rw [show lI 20 = (20 : Int64) from by decide +kernel]; exact hts (.constantLong RL 53 20) (by decide +kernel)) dL_run_182 ?_
                              refine x_lmul hx hb dL_run_185 ?_
                              refine lv_aload_n hx hb dL_run_186 rfl (lv_at hl 3 rfl) ?_
                              refine lv_iload_n hx hb dL_run_187 rfl (lv_at hl 4 rfl) ?_
                              refine lv_iload_n hx hb dL_run_188 rfl (lv_at hl 5 rfl) ?_
                              refine lv_bipush (v := zI 20) hx hb dL_run_189 (by decide +kernel) ?_
                              refine x_wI (va_runV (As := [.int (zI (y : Int)), .int (zI (q : Int)), .int (zI 20)]) (rest := [.long (lI ((pnN b q y (20 : Nat) : Int) * 20))]) ⟨hx, hb, hml, hown, hts⟩ (r_hits l hfl G o lo hlo b y (by omega) q (by omega) 20 (by omega) ((y : Int)) ((q : Int)) 20 (by omega) (by omega) (by omega)) (cwV 3 hts gL_run_X3_hits rfl rfl rfl (by decide +kernel) ⟨Nat.le_of_ble_eq_true rfl, Nat.le_of_ble_eq_true rfl⟩) (x_preLV hX hi hK hT hS hAl) rfl rfl hl.1 rfl (lv_room (Nat.le_of_ble_eq_true rfl)) dL_run_191 ⟨Nat.le_of_ble_eq_true rfl, Nat.le_of_ble_eq_true rfl⟩) hS (fun q _ h => h) (fun q h => h) (fun H1 locs1 hX hz9 hk9 hS => ?_)
                              refine x_i2l hx hb (by omega) dL_run_194 ?_
                              refine lv_aload_n hx hb dL_run_195 rfl (lv_at hl 3 rfl) ?_
                              refine lv_iload_n hx hb dL_run_196 rfl (lv_at hl 4 rfl) ?_
                              refine lv_iload_n hx hb dL_run_197 rfl (lv_at hl 5 rfl) ?_
                              refine lv_bipush (v := zI 20) hx hb dL_run_198 (by decide +kernel) ?_
                              refine x_wL (va_runV (As := [.int (zI (y : Int)), .int (zI (q : Int)), .int (zI 20)]) (rest := [.long (lI (relN b q y 0 (20 : Nat) : Int)), .long (lI ((pnN b q y (20 : Nat) : Int) * 20))]) ⟨hx, hb, hml, hown, hts⟩ (r_precisionDenominator l hfl G o lo hlo b y (by omega) q (by omega) 20 (by omega) ((y : Int)) ((q : Int)) 20 (by omega) (by omega) (by omega)) (cwV 3 hts gL_run_X3_precisionDenominator rfl rfl rfl (by decide +kernel) ⟨Nat.le_of_ble_eq_true rfl, Nat.le_of_ble_eq_true rfl⟩) (x_preLV hX hi hK hT hS hAl) rfl rfl hl.1 rfl (lv_room (Nat.le_of_ble_eq_true rfl)) dL_run_200 ⟨Nat.le_of_ble_eq_true rfl, Nat.le_of_ble_eq_true rfl⟩) hS (fun q _ h => h) (fun q h => h) (fun H1 locs1 hX hz9 hk9 hS => ?_)
                              refine x_lmul hx hb dL_run_203 ?_
                              have hc2 := cmpZ_eq ((pnN b q y 20 : Int) * 20) ((relN b q y 0 20 : Int) * (pdN b q y 20 : Int))
                              refine x_lcmp hx hb (by omega) dL_run_204 ?_
                              refine x_if_ne (tgt := 212) hx hb dL_run_205 (by decide) (x_cw _ _) (fun h49 => ?_) (fun h50 => ?_)
                              · exact absurd h49 (by omega)
                              · refine x_iconst hx hb dL_run_208 ?_
                                refine lv_goto (tgt := 213) hx hb dL_run_209 (by decide) ?_
                                refine lv_istore (lv' := [(7, .int (zI 1)), (6, .int (zI 1)), (5, .int (zI (relN b q y 0 d : Int))), (4, .int (zI (bN b q y : Int))), (0, .ref o), (1, .int (zI (y : Int))), (2, .int (zI (q : Int))), (3, .int (zI (d : Int)))]) hx hb dL_run_213 hl (by decide) rfl (fun ls hl => ?_)
                                refine lv_iload hx hb dL_run_215 (lv_at hl 1 rfl) ?_
                                refine x_if_eq (tgt := 259) hx hb dL_run_217 (by decide) (by omega) (fun h51 => ?_) (fun h52 => ?_)
                                · exact absurd h51 (by omega)
                                · refine lv_iload hx hb dL_run_220 (lv_at hl 0 rfl) ?_
                                  refine x_if_eq (tgt := 259) hx hb dL_run_222 (by decide) (by omega) (fun h53 => ?_) (fun h54 => ?_)
                                  · exact absurd h53 (by omega)
                                  · refine lv_aload_n hx hb dL_run_225 rfl (lv_at hl 4 rfl) ?_
                                    refine lv_iload_n hx hb dL_run_226 rfl (lv_at hl 5 rfl) ?_
                                    refine lv_iload_n hx hb dL_run_227 rfl (lv_at hl 6 rfl) ?_
                                    refine lv_iload_n hx hb dL_run_228 rfl (lv_at hl 7 rfl) ?_
                                    refine x_wI (va_runV (As := [.int (zI (y : Int)), .int (zI (q : Int)), .int (zI (d : Int))]) (rest := []) ⟨hx, hb, hml, hown, hts⟩ (r_at l hfl G o lo hlo b y (by omega) q (by omega) d (by omega) ((y : Int)) ((q : Int)) ((d : Int)) (by omega) (by omega) (by omega)) (cwV 3 hts gL_run_X3_at rfl rfl rfl (by decide +kernel) ⟨Nat.le_of_ble_eq_true rfl, Nat.le_of_ble_eq_true rfl⟩) (x_preLV hX hi hK hT hS hAl) rfl rfl hl.1 rfl (lv_room (Nat.le_of_ble_eq_true rfl)) dL_run_229 ⟨Nat.le_of_ble_eq_true rfl, Nat.le_of_ble_eq_true rfl⟩) hS (fun q _ h => h) (fun q h => h) (fun H1 locs1 hX hz9 hk9 hS => ?_)
                                    refine x_iconst hx hb dL_run_232 ?_
                                    refine x_icmp_ne (tgt := 240) hx hb dL_run_233 (by decide) (by omega) (fun h55 => ?_) (fun h56 => ?_)
                                    · refine x_iconst hx hb dL_run_240 ?_
                                      refine lv_iload hx hb dL_run_241 (lv_at hl 3 rfl) ?_
                                      refine lv_iload_n hx hb dL_run_243 rfl (lv_at hl 7 rfl) ?_
                                      refine x_icmp_ge (tgt := 251) hx hb dL_run_244 (by decide) (by omega) (fun h57 => ?_) (fun h58 => ?_)
                                      · refine x_iconst hx hb dL_run_251 ?_
                                        refine x_icmp_ne (tgt := 259) hx hb dL_run_252 (by decide) (by omega) (fun h59 => ?_) (fun h60 => ?_)
                                        · exact absurd h59 (by omega)
                                        · refine x_iconst hx hb dL_run_255 ?_
                                          refine lv_goto (tgt := 260) hx hb dL_run_256 (by decide) ?_
                                          refine W.widen (k := 104) (n := 624) (Nat.le_of_ble_eq_true rfl) (Nat.le_of_ble_eq_true rfl) ?_
                                          exact W.zret hx hb hr (x_nar (by omega)) (fun t ht _ => ⟨⟨_, (), rfl, rfl, _, ht, hX⟩, hS.F ht⟩) hS.2.2 dL_run_260
                                      · exact absurd h58 (by omega)
                                    · refine x_iconst hx hb dL_run_236 ?_
                                      refine lv_goto (tgt := 241) hx hb dL_run_237 (by decide) ?_
                                      refine lv_iload hx hb dL_run_241 (lv_at hl 3 rfl) ?_
                                      refine lv_iload_n hx hb dL_run_243 rfl (lv_at hl 7 rfl) ?_
                                      refine x_icmp_ge (tgt := 251) hx hb dL_run_244 (by decide) (by omega) (fun h61 => ?_) (fun h62 => ?_)
                                      · exact absurd h61 (by omega)
                                      · refine x_iconst hx hb dL_run_247 ?_
                                        refine lv_goto (tgt := 252) hx hb dL_run_248 (by decide) ?_
                                        refine x_icmp_ne (tgt := 259) hx hb dL_run_252 (by decide) (by omega) (fun h63 => ?_) (fun h64 => ?_)
                                        · exact absurd h63 (by omega)
                                        · refine x_iconst hx hb dL_run_255 ?_
                                          refine lv_goto (tgt := 260) hx hb dL_run_256 (by decide) ?_
                                          refine W.widen (k := 104) (n := 624) (Nat.le_of_ble_eq_true rfl) (Nat.le_of_ble_eq_true rfl) ?_
                                          exact W.zret hx hb hr (x_nar (by omega)) (fun t ht _ => ⟨⟨_, (), rfl, rfl, _, ht, hX⟩, hS.F ht⟩) hS.2.2 dL_run_260
            · refine lv_aload_n hx hb dL_run_54 rfl (lv_at hl 2 rfl) ?_
              refine lv_iload_n hx hb dL_run_55 rfl (lv_at hl 3 rfl) ?_
              refine lv_iload_n hx hb dL_run_56 rfl (lv_at hl 4 rfl) ?_
              refine lv_iload_n hx hb dL_run_57 rfl (lv_at hl 5 rfl) ?_
              refine x_iconst hx hb dL_run_58 ?_
              refine x_isub hx hb dL_run_59 ?_
              refine x_wI (va_runV (As := [.int (zI (y : Int)), .int (zI (q : Int)), .int (zI ((d : Int) - 1))]) (rest := [.int (zI (relN b q y 0 d : Int))]) ⟨hx, hb, hml, hown, hts⟩ (r_hits l hfl G o lo hlo b y (by omega) q (by omega) ((d - 1)) (by omega) ((y : Int)) ((q : Int)) (((d : Int) - 1)) (by omega) (by omega) (by omega)) (cwV 3 hts gL_run_X3_hits rfl rfl rfl (by decide +kernel) ⟨Nat.le_of_ble_eq_true rfl, Nat.le_of_ble_eq_true rfl⟩) (x_preLV hX hi hK hT hS hAl) rfl rfl hl.1 rfl (lv_room (Nat.le_of_ble_eq_true rfl)) dL_run_60 ⟨Nat.le_of_ble_eq_true rfl, Nat.le_of_ble_eq_true rfl⟩) hS (fun q _ h => h) (fun q h => h) (fun H1 locs1 hX hz9 hk9 hS => ?_)
              refine lv_goto (tgt := 67) hx hb dL_run_63 (by decide) ?_
              refine x_icmp_lt (tgt := 74) hx hb dL_run_67 (by decide) (by omega) (fun h65 => ?_) (fun h66 => ?_)
              · exact absurd h65 (by omega)
              · refine x_iconst hx hb dL_run_70 ?_
                refine lv_goto (tgt := 75) hx hb dL_run_71 (by decide) ?_
                refine lv_istore (lv' := [(6, .int (zI 1)), (5, .int (zI (relN b q y 0 d : Int))), (4, .int (zI (bN b q y : Int))), (0, .ref o), (1, .int (zI (y : Int))), (2, .int (zI (q : Int))), (3, .int (zI (d : Int)))]) hx hb dL_run_75 hl (by decide) rfl (fun ls hl => ?_)
                refine lv_iload hx hb dL_run_77 (lv_at hl 0 rfl) ?_
                refine x_if_eq (tgt := 124) hx hb dL_run_79 (by decide) (by omega) (fun h67 => ?_) (fun h68 => ?_)
                · exact absurd h67 (by omega)
                · refine lv_aload_n hx hb dL_run_82 rfl (lv_at hl 3 rfl) ?_
                  refine lv_iload_n hx hb dL_run_83 rfl (lv_at hl 4 rfl) ?_
                  refine lv_iload_n hx hb dL_run_84 rfl (lv_at hl 5 rfl) ?_
                  refine lv_iload_n hx hb dL_run_85 rfl (lv_at hl 6 rfl) ?_
                  refine x_wL (va_runV (As := [.int (zI (y : Int)), .int (zI (q : Int)), .int (zI (d : Int))]) (rest := []) ⟨hx, hb, hml, hown, hts⟩ (r_precisionNumerator l hfl G o lo hlo b y (by omega) q (by omega) d (by omega) ((y : Int)) ((q : Int)) ((d : Int)) (by omega) (by omega) (by omega)) (cwV 3 hts gL_run_X3_precisionNumerator rfl rfl rfl (by decide +kernel) ⟨Nat.le_of_ble_eq_true rfl, Nat.le_of_ble_eq_true rfl⟩) (x_preLV hX hi hK hT hS hAl) rfl rfl hl.1 rfl (lv_room (Nat.le_of_ble_eq_true rfl)) dL_run_86 ⟨Nat.le_of_ble_eq_true rfl, Nat.le_of_ble_eq_true rfl⟩) hS (fun q _ h => h) (fun q h => h) (fun H1 locs1 hX hz9 hk9 hS => ?_)
                  refine lv_aload_n hx hb dL_run_89 rfl (lv_at hl 3 rfl) ?_
                  refine lv_iload_n hx hb dL_run_90 rfl (lv_at hl 4 rfl) ?_
                  refine lv_iload_n hx hb dL_run_91 rfl (lv_at hl 5 rfl) ?_
                  refine lv_iload_n hx hb dL_run_92 rfl (lv_at hl 6 rfl) ?_
                  refine x_wL (va_runV (As := [.int (zI (y : Int)), .int (zI (q : Int)), .int (zI (d : Int))]) (rest := [.long (lI (pnN b q y d : Int))]) ⟨hx, hb, hml, hown, hts⟩ (r_precisionDenominator l hfl G o lo hlo b y (by omega) q (by omega) d (by omega) ((y : Int)) ((q : Int)) ((d : Int)) (by omega) (by omega) (by omega)) (cwV 3 hts gL_run_X3_precisionDenominator rfl rfl rfl (by decide +kernel) ⟨Nat.le_of_ble_eq_true rfl, Nat.le_of_ble_eq_true rfl⟩) (x_preLV hX hi hK hT hS hAl) rfl rfl hl.1 rfl (lv_room (Nat.le_of_ble_eq_true rfl)) dL_run_93 ⟨Nat.le_of_ble_eq_true rfl, Nat.le_of_ble_eq_true rfl⟩) hS (fun q _ h => h) (fun q h => h) (fun H1 locs1 hX hz9 hk9 hS => ?_)
                  refine x_cI (va_runS (As := [.long (lI (pnN b q y d : Int)), .long (lI (pdN b q y d : Int))]) (rest := []) ⟨hx, hb, hml, hown, hts⟩ (c_L_isPart l (pnN b q y d : Int) (pdN b q y d : Int) (pnN b q y d) (pdN b q y d) (by omega) (by omega) (by omega) (by omega) (by omega) hpn.2.2.1) (va_cwS 2 hts gL_run_L_isPart rfl rfl rfl (by decide +kernel) ⟨Nat.le_of_ble_eq_true rfl, Nat.le_of_ble_eq_true rfl⟩) x_preS rfl rfl hl.1 rfl (lv_room (Nat.le_of_ble_eq_true rfl)) dL_run_96 ⟨Nat.le_of_ble_eq_true rfl, Nat.le_of_ble_eq_true rfl⟩) ?_
                  refine x_if_eq (tgt := 124) hx hb dL_run_99 (by decide) (by omega) (fun h69 => ?_) (fun h70 => ?_)
                  · exact absurd h69 (by omega)
                  · refine lv_aload_n hx hb dL_run_102 rfl (lv_at hl 3 rfl) ?_
                    refine lv_iload_n hx hb dL_run_103 rfl (lv_at hl 4 rfl) ?_
                    refine lv_iload_n hx hb dL_run_104 rfl (lv_at hl 5 rfl) ?_
                    refine x_wL (va_runV (As := [.int (zI (y : Int)), .int (zI (q : Int))]) (rest := []) ⟨hx, hb, hml, hown, hts⟩ (r_reciprocalNumerator l hfl G o lo hlo b y (by omega) q (by omega) ((y : Int)) ((q : Int)) (by omega) (by omega)) (cwV 2 hts gL_run_X3_reciprocalNumerator rfl rfl rfl (by decide +kernel) ⟨Nat.le_of_ble_eq_true rfl, Nat.le_of_ble_eq_true rfl⟩) (x_preLV hX hi hK hT hS hAl) rfl rfl hl.1 rfl (lv_room (Nat.le_of_ble_eq_true rfl)) dL_run_105 ⟨Nat.le_of_ble_eq_true rfl, Nat.le_of_ble_eq_true rfl⟩) hS (fun q _ h => h) (fun q h => h) (fun H1 locs1 hX hz9 hk9 hS => ?_)
                    refine lv_aload_n hx hb dL_run_108 rfl (lv_at hl 3 rfl) ?_
                    refine lv_iload_n hx hb dL_run_109 rfl (lv_at hl 4 rfl) ?_
                    refine lv_iload_n hx hb dL_run_110 rfl (lv_at hl 5 rfl) ?_
                    refine x_wL (va_runV (As := [.int (zI (y : Int)), .int (zI (q : Int))]) (rest := [.long (lI (rnN b q y : Int))]) ⟨hx, hb, hml, hown, hts⟩ (r_reciprocalDenominator l hfl G o lo hlo b y (by omega) q (by omega) ((y : Int)) ((q : Int)) (by omega) (by omega)) (cwV 2 hts gL_run_X3_reciprocalDenominator rfl rfl rfl (by decide +kernel) ⟨Nat.le_of_ble_eq_true rfl, Nat.le_of_ble_eq_true rfl⟩) (x_preLV hX hi hK hT hS hAl) rfl rfl hl.1 rfl (lv_room (Nat.le_of_ble_eq_true rfl)) dL_run_111 ⟨Nat.le_of_ble_eq_true rfl, Nat.le_of_ble_eq_true rfl⟩) hS (fun q _ h => h) (fun q h => h) (fun H1 locs1 hX hz9 hk9 hS => ?_)
                    refine x_cI (va_runS (As := [.long (lI (rnN b q y : Int)), .long (lI (rdN b q y : Int))]) (rest := []) ⟨hx, hb, hml, hown, hts⟩ (c_L_isPart l (rnN b q y : Int) (rdN b q y : Int) (rnN b q y) (rdN b q y) (by omega) (by omega) (by omega) (by omega) (by omega) hrn.2.2.1) (va_cwS 2 hts gL_run_L_isPart rfl rfl rfl (by decide +kernel) ⟨Nat.le_of_ble_eq_true rfl, Nat.le_of_ble_eq_true rfl⟩) x_preS rfl rfl hl.1 rfl (lv_room (Nat.le_of_ble_eq_true rfl)) dL_run_114 ⟨Nat.le_of_ble_eq_true rfl, Nat.le_of_ble_eq_true rfl⟩) ?_
                    refine x_if_eq (tgt := 124) hx hb dL_run_117 (by decide) (by omega) (fun h71 => ?_) (fun h72 => ?_)
                    · exact absurd h71 (by omega)
                    · refine x_iconst hx hb dL_run_120 ?_
                      refine lv_goto (tgt := 125) hx hb dL_run_121 (by decide) ?_
                      refine lv_istore (lv' := [(6, .int (zI 1)), (5, .int (zI (relN b q y 0 d : Int))), (4, .int (zI (bN b q y : Int))), (0, .ref o), (1, .int (zI (y : Int))), (2, .int (zI (q : Int))), (3, .int (zI (d : Int)))]) hx hb dL_run_125 hl (by decide) rfl (fun ls hl => ?_)
                      refine lv_iload hx hb dL_run_127 (lv_at hl 0 rfl) ?_
                      refine x_if_eq (tgt := 171) hx hb dL_run_129 (by decide) (by omega) (fun h73 => ?_) (fun h74 => ?_)
                      · exact absurd h73 (by omega)
                      · refine lv_aload_n hx hb dL_run_132 rfl (lv_at hl 3 rfl) ?_
                        refine lv_iload_n hx hb dL_run_133 rfl (lv_at hl 4 rfl) ?_
                        refine lv_iload_n hx hb dL_run_134 rfl (lv_at hl 5 rfl) ?_
                        refine x_wL (va_runV (As := [.int (zI (y : Int)), .int (zI (q : Int))]) (rest := []) ⟨hx, hb, hml, hown, hts⟩ (r_reciprocalNumerator l hfl G o lo hlo b y (by omega) q (by omega) ((y : Int)) ((q : Int)) (by omega) (by omega)) (cwV 2 hts gL_run_X3_reciprocalNumerator rfl rfl rfl (by decide +kernel) ⟨Nat.le_of_ble_eq_true rfl, Nat.le_of_ble_eq_true rfl⟩) (x_preLV hX hi hK hT hS hAl) rfl rfl hl.1 rfl (lv_room (Nat.le_of_ble_eq_true rfl)) dL_run_135 ⟨Nat.le_of_ble_eq_true rfl, Nat.le_of_ble_eq_true rfl⟩) hS (fun q _ h => h) (fun q h => h) (fun H1 locs1 hX hz9 hk9 hS => ?_)
                        refine lv_lconst (v := lI 0) hx hb dL_run_138 (by decide +kernel) ?_
                        have hc1 := cmpZ_le (rnN b q y : Int) 0
                        refine x_lcmp hx hb (by omega) dL_run_139 ?_
                        refine x_if_le (tgt := 147) hx hb dL_run_140 (by decide) (x_cw _ _) (fun h75 => ?_) (fun h76 => ?_)
                        · refine x_iconst hx hb dL_run_147 ?_
                          refine lv_aload_n hx hb dL_run_148 rfl (lv_at hl 3 rfl) ?_
                          refine lv_iload_n hx hb dL_run_149 rfl (lv_at hl 4 rfl) ?_
                          refine lv_iload_n hx hb dL_run_150 rfl (lv_at hl 5 rfl) ?_
                          refine lv_bipush (v := zI 20) hx hb dL_run_151 (by decide +kernel) ?_
                          refine x_wI (va_runV (As := [.int (zI (y : Int)), .int (zI (q : Int)), .int (zI 20)]) (rest := [.int (zI 0)]) ⟨hx, hb, hml, hown, hts⟩ (r_hits l hfl G o lo hlo b y (by omega) q (by omega) 20 (by omega) ((y : Int)) ((q : Int)) 20 (by omega) (by omega) (by omega)) (cwV 3 hts gL_run_X3_hits rfl rfl rfl (by decide +kernel) ⟨Nat.le_of_ble_eq_true rfl, Nat.le_of_ble_eq_true rfl⟩) (x_preLV hX hi hK hT hS hAl) rfl rfl hl.1 rfl (lv_room (Nat.le_of_ble_eq_true rfl)) dL_run_153 ⟨Nat.le_of_ble_eq_true rfl, Nat.le_of_ble_eq_true rfl⟩) hS (fun q _ h => h) (fun q h => h) (fun H1 locs1 hX hz9 hk9 hS => ?_)
                          refine x_if_le (tgt := 163) hx hb dL_run_156 (by decide) (by omega) (fun h77 => ?_) (fun h78 => ?_)
                          · refine x_iconst hx hb dL_run_163 ?_
                            refine x_icmp_ne (tgt := 171) hx hb dL_run_164 (by decide) (by omega) (fun h79 => ?_) (fun h80 => ?_)
                            · exact absurd h79 (by omega)
                            · refine x_iconst hx hb dL_run_167 ?_
                              refine lv_goto (tgt := 172) hx hb dL_run_168 (by decide) ?_
                              refine lv_istore (lv' := [(6, .int (zI 1)), (5, .int (zI (relN b q y 0 d : Int))), (4, .int (zI (bN b q y : Int))), (0, .ref o), (1, .int (zI (y : Int))), (2, .int (zI (q : Int))), (3, .int (zI (d : Int)))]) hx hb dL_run_172 hl (by decide) rfl (fun ls hl => ?_)
                              refine lv_aload_n hx hb dL_run_174 rfl (lv_at hl 3 rfl) ?_
                              refine lv_iload_n hx hb dL_run_175 rfl (lv_at hl 4 rfl) ?_
                              refine lv_iload_n hx hb dL_run_176 rfl (lv_at hl 5 rfl) ?_
                              refine lv_bipush (v := zI 20) hx hb dL_run_177 (by decide +kernel) ?_
                              refine x_wL (va_runV (As := [.int (zI (y : Int)), .int (zI (q : Int)), .int (zI 20)]) (rest := []) ⟨hx, hb, hml, hown, hts⟩ (r_precisionNumerator l hfl G o lo hlo b y (by omega) q (by omega) 20 (by omega) ((y : Int)) ((q : Int)) 20 (by omega) (by omega) (by omega)) (cwV 3 hts gL_run_X3_precisionNumerator rfl rfl rfl (by decide +kernel) ⟨Nat.le_of_ble_eq_true rfl, Nat.le_of_ble_eq_true rfl⟩) (x_preLV hX hi hK hT hS hAl) rfl rfl hl.1 rfl (lv_room (Nat.le_of_ble_eq_true rfl)) dL_run_179 ⟨Nat.le_of_ble_eq_true rfl, Nat.le_of_ble_eq_true rfl⟩) hS (fun q _ h => h) (fun q h => h) (fun H1 locs1 hX hz9 hk9 hS => ?_)
                              refine lv_ldc2 (v := lI 20) hx hb hown (by rw [show lI 20 = (20 : Int64) from by decide +kernel]; exact hts (.constantLong RL 53 20) (by decide +kernel)) dL_run_182 ?_
                              refine x_lmul hx hb dL_run_185 ?_
                              refine lv_aload_n hx hb dL_run_186 rfl (lv_at hl 3 rfl) ?_
                              refine lv_iload_n hx hb dL_run_187 rfl (lv_at hl 4 rfl) ?_
                              refine lv_iload_n hx hb dL_run_188 rfl (lv_at hl 5 rfl) ?_
                              refine lv_bipush (v := zI 20) hx hb dL_run_189 (by decide +kernel) ?_
                              refine x_wI (va_runV (As := [.int (zI (y : Int)), .int (zI (q : Int)), .int (zI 20)]) (rest := [.long (lI ((pnN b q y (20 : Nat) : Int) * 20))]) ⟨hx, hb, hml, hown, hts⟩ (r_hits l hfl G o lo hlo b y (by omega) q (by omega) 20 (by omega) ((y : Int)) ((q : Int)) 20 (by omega) (by omega) (by omega)) (cwV 3 hts gL_run_X3_hits rfl rfl rfl (by decide +kernel) ⟨Nat.le_of_ble_eq_true rfl, Nat.le_of_ble_eq_true rfl⟩) (x_preLV hX hi hK hT hS hAl) rfl rfl hl.1 rfl (lv_room (Nat.le_of_ble_eq_true rfl)) dL_run_191 ⟨Nat.le_of_ble_eq_true rfl, Nat.le_of_ble_eq_true rfl⟩) hS (fun q _ h => h) (fun q h => h) (fun H1 locs1 hX hz9 hk9 hS => ?_)
                              refine x_i2l hx hb (by omega) dL_run_194 ?_
                              refine lv_aload_n hx hb dL_run_195 rfl (lv_at hl 3 rfl) ?_
                              refine lv_iload_n hx hb dL_run_196 rfl (lv_at hl 4 rfl) ?_
                              refine lv_iload_n hx hb dL_run_197 rfl (lv_at hl 5 rfl) ?_
                              refine lv_bipush (v := zI 20) hx hb dL_run_198 (by decide +kernel) ?_
                              refine x_wL (va_runV (As := [.int (zI (y : Int)), .int (zI (q : Int)), .int (zI 20)]) (rest := [.long (lI (relN b q y 0 (20 : Nat) : Int)), .long (lI ((pnN b q y (20 : Nat) : Int) * 20))]) ⟨hx, hb, hml, hown, hts⟩ (r_precisionDenominator l hfl G o lo hlo b y (by omega) q (by omega) 20 (by omega) ((y : Int)) ((q : Int)) 20 (by omega) (by omega) (by omega)) (cwV 3 hts gL_run_X3_precisionDenominator rfl rfl rfl (by decide +kernel) ⟨Nat.le_of_ble_eq_true rfl, Nat.le_of_ble_eq_true rfl⟩) (x_preLV hX hi hK hT hS hAl) rfl rfl hl.1 rfl (lv_room (Nat.le_of_ble_eq_true rfl)) dL_run_200 ⟨Nat.le_of_ble_eq_true rfl, Nat.le_of_ble_eq_true rfl⟩) hS (fun q _ h => h) (fun q h => h) (fun H1 locs1 hX hz9 hk9 hS => ?_)
                              refine x_lmul hx hb dL_run_203 ?_
                              have hc2 := cmpZ_eq ((pnN b q y 20 : Int) * 20) ((relN b q y 0 20 : Int) * (pdN b q y 20 : Int))
                              refine x_lcmp hx hb (by omega) dL_run_204 ?_
                              refine x_if_ne (tgt := 212) hx hb dL_run_205 (by decide) (x_cw _ _) (fun h81 => ?_) (fun h82 => ?_)
                              · exact absurd h81 (by omega)
                              · refine x_iconst hx hb dL_run_208 ?_
                                refine lv_goto (tgt := 213) hx hb dL_run_209 (by decide) ?_
                                refine lv_istore (lv' := [(7, .int (zI 1)), (6, .int (zI 1)), (5, .int (zI (relN b q y 0 d : Int))), (4, .int (zI (bN b q y : Int))), (0, .ref o), (1, .int (zI (y : Int))), (2, .int (zI (q : Int))), (3, .int (zI (d : Int)))]) hx hb dL_run_213 hl (by decide) rfl (fun ls hl => ?_)
                                refine lv_iload hx hb dL_run_215 (lv_at hl 1 rfl) ?_
                                refine x_if_eq (tgt := 259) hx hb dL_run_217 (by decide) (by omega) (fun h83 => ?_) (fun h84 => ?_)
                                · exact absurd h83 (by omega)
                                · refine lv_iload hx hb dL_run_220 (lv_at hl 0 rfl) ?_
                                  refine x_if_eq (tgt := 259) hx hb dL_run_222 (by decide) (by omega) (fun h85 => ?_) (fun h86 => ?_)
                                  · exact absurd h85 (by omega)
                                  · refine lv_aload_n hx hb dL_run_225 rfl (lv_at hl 4 rfl) ?_
                                    refine lv_iload_n hx hb dL_run_226 rfl (lv_at hl 5 rfl) ?_
                                    refine lv_iload_n hx hb dL_run_227 rfl (lv_at hl 6 rfl) ?_
                                    refine lv_iload_n hx hb dL_run_228 rfl (lv_at hl 7 rfl) ?_
                                    refine x_wI (va_runV (As := [.int (zI (y : Int)), .int (zI (q : Int)), .int (zI (d : Int))]) (rest := []) ⟨hx, hb, hml, hown, hts⟩ (r_at l hfl G o lo hlo b y (by omega) q (by omega) d (by omega) ((y : Int)) ((q : Int)) ((d : Int)) (by omega) (by omega) (by omega)) (cwV 3 hts gL_run_X3_at rfl rfl rfl (by decide +kernel) ⟨Nat.le_of_ble_eq_true rfl, Nat.le_of_ble_eq_true rfl⟩) (x_preLV hX hi hK hT hS hAl) rfl rfl hl.1 rfl (lv_room (Nat.le_of_ble_eq_true rfl)) dL_run_229 ⟨Nat.le_of_ble_eq_true rfl, Nat.le_of_ble_eq_true rfl⟩) hS (fun q _ h => h) (fun q h => h) (fun H1 locs1 hX hz9 hk9 hS => ?_)
                                    refine x_iconst hx hb dL_run_232 ?_
                                    refine x_icmp_ne (tgt := 240) hx hb dL_run_233 (by decide) (by omega) (fun h87 => ?_) (fun h88 => ?_)
                                    · refine x_iconst hx hb dL_run_240 ?_
                                      refine lv_iload hx hb dL_run_241 (lv_at hl 3 rfl) ?_
                                      refine lv_iload_n hx hb dL_run_243 rfl (lv_at hl 7 rfl) ?_
                                      refine x_icmp_ge (tgt := 251) hx hb dL_run_244 (by decide) (by omega) (fun h89 => ?_) (fun h90 => ?_)
                                      · refine x_iconst hx hb dL_run_251 ?_
                                        refine x_icmp_ne (tgt := 259) hx hb dL_run_252 (by decide) (by omega) (fun h91 => ?_) (fun h92 => ?_)
                                        · exact absurd h91 (by omega)
                                        · refine x_iconst hx hb dL_run_255 ?_
                                          refine lv_goto (tgt := 260) hx hb dL_run_256 (by decide) ?_
                                          refine W.widen (k := 104) (n := 624) (Nat.le_of_ble_eq_true rfl) (Nat.le_of_ble_eq_true rfl) ?_
                                          exact W.zret hx hb hr (x_nar (by omega)) (fun t ht _ => ⟨⟨_, (), rfl, rfl, _, ht, hX⟩, hS.F ht⟩) hS.2.2 dL_run_260
                                      · exact absurd h90 (by omega)
                                    · refine x_iconst hx hb dL_run_236 ?_
                                      refine lv_goto (tgt := 241) hx hb dL_run_237 (by decide) ?_
                                      refine lv_iload hx hb dL_run_241 (lv_at hl 3 rfl) ?_
                                      refine lv_iload_n hx hb dL_run_243 rfl (lv_at hl 7 rfl) ?_
                                      refine x_icmp_ge (tgt := 251) hx hb dL_run_244 (by decide) (by omega) (fun h93 => ?_) (fun h94 => ?_)
                                      · exact absurd h93 (by omega)
                                      · refine x_iconst hx hb dL_run_247 ?_
                                        refine lv_goto (tgt := 252) hx hb dL_run_248 (by decide) ?_
                                        refine x_icmp_ne (tgt := 259) hx hb dL_run_252 (by decide) (by omega) (fun h95 => ?_) (fun h96 => ?_)
                                        · exact absurd h95 (by omega)
                                        · refine x_iconst hx hb dL_run_255 ?_
                                          refine lv_goto (tgt := 260) hx hb dL_run_256 (by decide) ?_
                                          refine W.widen (k := 104) (n := 624) (Nat.le_of_ble_eq_true rfl) (Nat.le_of_ble_eq_true rfl) ?_
                                          exact W.zret hx hb hr (x_nar (by omega)) (fun t ht _ => ⟨⟨_, (), rfl, rfl, _, ht, hX⟩, hS.F ht⟩) hS.2.2 dL_run_260
                          · exact absurd h78 (by omega)
                        · refine x_iconst hx hb dL_run_143 ?_
                          refine lv_goto (tgt := 148) hx hb dL_run_144 (by decide) ?_
                          refine lv_aload_n hx hb dL_run_148 rfl (lv_at hl 3 rfl) ?_
                          refine lv_iload_n hx hb dL_run_149 rfl (lv_at hl 4 rfl) ?_
                          refine lv_iload_n hx hb dL_run_150 rfl (lv_at hl 5 rfl) ?_
                          refine lv_bipush (v := zI 20) hx hb dL_run_151 (by decide +kernel) ?_
                          refine x_wI (va_runV (As := [.int (zI (y : Int)), .int (zI (q : Int)), .int (zI 20)]) (rest := [.int (zI 1)]) ⟨hx, hb, hml, hown, hts⟩ (r_hits l hfl G o lo hlo b y (by omega) q (by omega) 20 (by omega) ((y : Int)) ((q : Int)) 20 (by omega) (by omega) (by omega)) (cwV 3 hts gL_run_X3_hits rfl rfl rfl (by decide +kernel) ⟨Nat.le_of_ble_eq_true rfl, Nat.le_of_ble_eq_true rfl⟩) (x_preLV hX hi hK hT hS hAl) rfl rfl hl.1 rfl (lv_room (Nat.le_of_ble_eq_true rfl)) dL_run_153 ⟨Nat.le_of_ble_eq_true rfl, Nat.le_of_ble_eq_true rfl⟩) hS (fun q _ h => h) (fun q h => h) (fun H1 locs1 hX hz9 hk9 hS => ?_)
                          refine x_if_le (tgt := 163) hx hb dL_run_156 (by decide) (by omega) (fun h97 => ?_) (fun h98 => ?_)
                          · exact absurd h97 (by omega)
                          · refine x_iconst hx hb dL_run_159 ?_
                            refine lv_goto (tgt := 164) hx hb dL_run_160 (by decide) ?_
                            refine x_icmp_ne (tgt := 171) hx hb dL_run_164 (by decide) (by omega) (fun h99 => ?_) (fun h100 => ?_)
                            · exact absurd h99 (by omega)
                            · refine x_iconst hx hb dL_run_167 ?_
                              refine lv_goto (tgt := 172) hx hb dL_run_168 (by decide) ?_
                              refine lv_istore (lv' := [(6, .int (zI 1)), (5, .int (zI (relN b q y 0 d : Int))), (4, .int (zI (bN b q y : Int))), (0, .ref o), (1, .int (zI (y : Int))), (2, .int (zI (q : Int))), (3, .int (zI (d : Int)))]) hx hb dL_run_172 hl (by decide) rfl (fun ls hl => ?_)
                              refine lv_aload_n hx hb dL_run_174 rfl (lv_at hl 3 rfl) ?_
                              refine lv_iload_n hx hb dL_run_175 rfl (lv_at hl 4 rfl) ?_
                              refine lv_iload_n hx hb dL_run_176 rfl (lv_at hl 5 rfl) ?_
                              refine lv_bipush (v := zI 20) hx hb dL_run_177 (by decide +kernel) ?_
                              refine x_wL (va_runV (As := [.int (zI (y : Int)), .int (zI (q : Int)), .int (zI 20)]) (rest := []) ⟨hx, hb, hml, hown, hts⟩ (r_precisionNumerator l hfl G o lo hlo b y (by omega) q (by omega) 20 (by omega) ((y : Int)) ((q : Int)) 20 (by omega) (by omega) (by omega)) (cwV 3 hts gL_run_X3_precisionNumerator rfl rfl rfl (by decide +kernel) ⟨Nat.le_of_ble_eq_true rfl, Nat.le_of_ble_eq_true rfl⟩) (x_preLV hX hi hK hT hS hAl) rfl rfl hl.1 rfl (lv_room (Nat.le_of_ble_eq_true rfl)) dL_run_179 ⟨Nat.le_of_ble_eq_true rfl, Nat.le_of_ble_eq_true rfl⟩) hS (fun q _ h => h) (fun q h => h) (fun H1 locs1 hX hz9 hk9 hS => ?_)
                              refine lv_ldc2 (v := lI 20) hx hb hown (by rw [show lI 20 = (20 : Int64) from by decide +kernel]; exact hts (.constantLong RL 53 20) (by decide +kernel)) dL_run_182 ?_
                              refine x_lmul hx hb dL_run_185 ?_
                              refine lv_aload_n hx hb dL_run_186 rfl (lv_at hl 3 rfl) ?_
                              refine lv_iload_n hx hb dL_run_187 rfl (lv_at hl 4 rfl) ?_
                              refine lv_iload_n hx hb dL_run_188 rfl (lv_at hl 5 rfl) ?_
                              refine lv_bipush (v := zI 20) hx hb dL_run_189 (by decide +kernel) ?_
                              refine x_wI (va_runV (As := [.int (zI (y : Int)), .int (zI (q : Int)), .int (zI 20)]) (rest := [.long (lI ((pnN b q y (20 : Nat) : Int) * 20))]) ⟨hx, hb, hml, hown, hts⟩ (r_hits l hfl G o lo hlo b y (by omega) q (by omega) 20 (by omega) ((y : Int)) ((q : Int)) 20 (by omega) (by omega) (by omega)) (cwV 3 hts gL_run_X3_hits rfl rfl rfl (by decide +kernel) ⟨Nat.le_of_ble_eq_true rfl, Nat.le_of_ble_eq_true rfl⟩) (x_preLV hX hi hK hT hS hAl) rfl rfl hl.1 rfl (lv_room (Nat.le_of_ble_eq_true rfl)) dL_run_191 ⟨Nat.le_of_ble_eq_true rfl, Nat.le_of_ble_eq_true rfl⟩) hS (fun q _ h => h) (fun q h => h) (fun H1 locs1 hX hz9 hk9 hS => ?_)
                              refine x_i2l hx hb (by omega) dL_run_194 ?_
                              refine lv_aload_n hx hb dL_run_195 rfl (lv_at hl 3 rfl) ?_
                              refine lv_iload_n hx hb dL_run_196 rfl (lv_at hl 4 rfl) ?_
                              refine lv_iload_n hx hb dL_run_197 rfl (lv_at hl 5 rfl) ?_
                              refine lv_bipush (v := zI 20) hx hb dL_run_198 (by decide +kernel) ?_
                              refine x_wL (va_runV (As := [.int (zI (y : Int)), .int (zI (q : Int)), .int (zI 20)]) (rest := [.long (lI (relN b q y 0 (20 : Nat) : Int)), .long (lI ((pnN b q y (20 : Nat) : Int) * 20))]) ⟨hx, hb, hml, hown, hts⟩ (r_precisionDenominator l hfl G o lo hlo b y (by omega) q (by omega) 20 (by omega) ((y : Int)) ((q : Int)) 20 (by omega) (by omega) (by omega)) (cwV 3 hts gL_run_X3_precisionDenominator rfl rfl rfl (by decide +kernel) ⟨Nat.le_of_ble_eq_true rfl, Nat.le_of_ble_eq_true rfl⟩) (x_preLV hX hi hK hT hS hAl) rfl rfl hl.1 rfl (lv_room (Nat.le_of_ble_eq_true rfl)) dL_run_200 ⟨Nat.le_of_ble_eq_true rfl, Nat.le_of_ble_eq_true rfl⟩) hS (fun q _ h => h) (fun q h => h) (fun H1 locs1 hX hz9 hk9 hS => ?_)
                              refine x_lmul hx hb dL_run_203 ?_
                              have hc2 := cmpZ_eq ((pnN b q y 20 : Int) * 20) ((relN b q y 0 20 : Int) * (pdN b q y 20 : Int))
                              refine x_lcmp hx hb (by omega) dL_run_204 ?_
                              refine x_if_ne (tgt := 212) hx hb dL_run_205 (by decide) (x_cw _ _) (fun h101 => ?_) (fun h102 => ?_)
                              · exact absurd h101 (by omega)
                              · refine x_iconst hx hb dL_run_208 ?_
                                refine lv_goto (tgt := 213) hx hb dL_run_209 (by decide) ?_
                                refine lv_istore (lv' := [(7, .int (zI 1)), (6, .int (zI 1)), (5, .int (zI (relN b q y 0 d : Int))), (4, .int (zI (bN b q y : Int))), (0, .ref o), (1, .int (zI (y : Int))), (2, .int (zI (q : Int))), (3, .int (zI (d : Int)))]) hx hb dL_run_213 hl (by decide) rfl (fun ls hl => ?_)
                                refine lv_iload hx hb dL_run_215 (lv_at hl 1 rfl) ?_
                                refine x_if_eq (tgt := 259) hx hb dL_run_217 (by decide) (by omega) (fun h103 => ?_) (fun h104 => ?_)
                                · exact absurd h103 (by omega)
                                · refine lv_iload hx hb dL_run_220 (lv_at hl 0 rfl) ?_
                                  refine x_if_eq (tgt := 259) hx hb dL_run_222 (by decide) (by omega) (fun h105 => ?_) (fun h106 => ?_)
                                  · exact absurd h105 (by omega)
                                  · refine lv_aload_n hx hb dL_run_225 rfl (lv_at hl 4 rfl) ?_
                                    refine lv_iload_n hx hb dL_run_226 rfl (lv_at hl 5 rfl) ?_
                                    refine lv_iload_n hx hb dL_run_227 rfl (lv_at hl 6 rfl) ?_
                                    refine lv_iload_n hx hb dL_run_228 rfl (lv_at hl 7 rfl) ?_
                                    refine x_wI (va_runV (As := [.int (zI (y : Int)), .int (zI (q : Int)), .int (zI (d : Int))]) (rest := []) ⟨hx, hb, hml, hown, hts⟩ (r_at l hfl G o lo hlo b y (by omega) q (by omega) d (by omega) ((y : Int)) ((q : Int)) ((d : Int)) (by omega) (by omega) (by omega)) (cwV 3 hts gL_run_X3_at rfl rfl rfl (by decide +kernel) ⟨Nat.le_of_ble_eq_true rfl, Nat.le_of_ble_eq_true rfl⟩) (x_preLV hX hi hK hT hS hAl) rfl rfl hl.1 rfl (lv_room (Nat.le_of_ble_eq_true rfl)) dL_run_229 ⟨Nat.le_of_ble_eq_true rfl, Nat.le_of_ble_eq_true rfl⟩) hS (fun q _ h => h) (fun q h => h) (fun H1 locs1 hX hz9 hk9 hS => ?_)
                                    refine x_iconst hx hb dL_run_232 ?_
                                    refine x_icmp_ne (tgt := 240) hx hb dL_run_233 (by decide) (by omega) (fun h107 => ?_) (fun h108 => ?_)
                                    · refine x_iconst hx hb dL_run_240 ?_
                                      refine lv_iload hx hb dL_run_241 (lv_at hl 3 rfl) ?_
                                      refine lv_iload_n hx hb dL_run_243 rfl (lv_at hl 7 rfl) ?_
                                      refine x_icmp_ge (tgt := 251) hx hb dL_run_244 (by decide) (by omega) (fun h109 => ?_) (fun h110 => ?_)
                                      · refine x_iconst hx hb dL_run_251 ?_
                                        refine x_icmp_ne (tgt := 259) hx hb dL_run_252 (by decide) (by omega) (fun h111 => ?_) (fun h112 => ?_)
                                        · exact absurd h111 (by omega)
                                        · refine x_iconst hx hb dL_run_255 ?_
                                          refine lv_goto (tgt := 260) hx hb dL_run_256 (by decide) ?_
                                          refine W.widen (k := 104) (n := 624) (Nat.le_of_ble_eq_true rfl) (Nat.le_of_ble_eq_true rfl) ?_
                                          exact W.zret hx hb hr (x_nar (by omega)) (fun t ht _ => ⟨⟨_, (), rfl, rfl, _, ht, hX⟩, hS.F ht⟩) hS.2.2 dL_run_260
                                      · exact absurd h110 (by omega)
                                    · refine x_iconst hx hb dL_run_236 ?_
                                      refine lv_goto (tgt := 241) hx hb dL_run_237 (by decide) ?_
                                      refine lv_iload hx hb dL_run_241 (lv_at hl 3 rfl) ?_
                                      refine lv_iload_n hx hb dL_run_243 rfl (lv_at hl 7 rfl) ?_
                                      refine x_icmp_ge (tgt := 251) hx hb dL_run_244 (by decide) (by omega) (fun h113 => ?_) (fun h114 => ?_)
                                      · exact absurd h113 (by omega)
                                      · refine x_iconst hx hb dL_run_247 ?_
                                        refine lv_goto (tgt := 252) hx hb dL_run_248 (by decide) ?_
                                        refine x_icmp_ne (tgt := 259) hx hb dL_run_252 (by decide) (by omega) (fun h115 => ?_) (fun h116 => ?_)
                                        · exact absurd h115 (by omega)
                                        · refine x_iconst hx hb dL_run_255 ?_
                                          refine lv_goto (tgt := 260) hx hb dL_run_256 (by decide) ?_
                                          refine W.widen (k := 104) (n := 624) (Nat.le_of_ble_eq_true rfl) (Nat.le_of_ble_eq_true rfl) ?_
                                          exact W.zret hx hb hr (x_nar (by omega)) (fun t ht _ => ⟨⟨_, (), rfl, rfl, _, ht, hX⟩, hS.F ht⟩) hS.2.2 dL_run_260
set_option maxHeartbeats 4000000 in
set_option maxRecDepth 100000 in
theorem c_L_tests (l : Launch) (hfl : l.stackTraces = false) (G : XG) (o lo : Nat) (hlo : lo ≤ o) (b : XB) (y : Nat) (hy : y < 4) (t : Nat) (ht : t < 4) (d : Nat) (hd : 1 ≤ d ∧ d ≤ 20) (zs : Int) (zt : Int) (zd : Int) (ey : zs = (y : Int)) (et : zt = (t : Int)) (ed : zd = (d : Int)) : MetLI l yL_tests wsL_tests 8 143 40 240 G o lo b [.ref o, .int (zI zs), .int (zI zt), .int (zI zd)] 1 b := by
  subst ey
  subst et
  subst ed
  refine Met.ofW (cc := cL_tests) (maxL := 6) (ret := (some .boolean)) (by decide) rfl ?_
  intro p e s m args below meth c s₁ B hml hv
  obtain ⟨rfl, hX, hi, hK, hT⟩ := hv
  have hx := B.exec
  have hb := B.bytes
  have hr := B.returns
  have hts := atoms_spec (ws := wsL_tests) B.pre
  have hown : s.vm.findClass RL = some m.cls := findClass_of_methodNamed B.named
  have hlocks := B.notSynchronized
  have hl := lv_entry ([.ref o, .int (zI (y : Int)), .int (zI (t : Int)), .int (zI (d : Int))]) (n := 6) (Nat.le_of_ble_eq_true rfl)
  rw [lg_entry_eq]
  generalize (lg_sl ([.ref o, .int (zI (y : Int)), .int (zI (t : Int)), .int (zI (d : Int))]) ++ List.replicate (6 - (lg_sl ([.ref o, .int (zI (y : Int)), .int (zI (t : Int)), .int (zI (d : Int))])).length) Slot.unset).toArray = ls at hl ⊢
  have hl : lv_has ls 6 [(0, .ref o), (1, .int (zI (y : Int))), (2, .int (zI (t : Int))), (3, .int (zI (d : Int)))] := hl
  have hS : va_S (xA o) s.heap s.heap [] := va_S.rf
  have hAl : ∀ q, xA o q → lo ≤ q := fun q h => Nat.le_trans hlo h.1
  have hz1 := sxZ_bd (dif := dfZ b y t d) (fun j _ => dfZ_bd b y t hd.2 j) 0
  have hz2 := sxZ_bd (dif := dfZ b t y d) (fun j _ => dfZ_bd b t y hd.2 j) 0
  have hc3 := tsN_rng (dfZ b y t d)
  have hc6 := tsN_rng (dfZ b t y d)
  refine lv_aload_n hx hb dL_tests_0 rfl (lv_at hl 0 rfl) ?_
  refine lv_iload_n hx hb dL_tests_1 rfl (lv_at hl 1 rfl) ?_
  refine lv_iload_n hx hb dL_tests_2 rfl (lv_at hl 2 rfl) ?_
  refine lv_iload_n hx hb dL_tests_3 rfl (lv_at hl 3 rfl) ?_
  refine x_wI (va_runV (As := [.int (zI (y : Int)), .int (zI (t : Int)), .int (zI (d : Int))]) (rest := []) ⟨hx, hb, hml, hown, hts⟩ (r_test l hfl G o lo hlo b y (by omega) t (by omega) d (by omega) ((y : Int)) ((t : Int)) ((d : Int)) (by omega) (by omega) (by omega)) (cwV 3 hts gL_tests_X3_test rfl rfl rfl (by decide +kernel) ⟨Nat.le_of_ble_eq_true rfl, Nat.le_of_ble_eq_true rfl⟩) (x_preLV hX hi hK hT hS hAl) rfl rfl hl.1 rfl (lv_room (Nat.le_of_ble_eq_true rfl)) dL_tests_4 ⟨Nat.le_of_ble_eq_true rfl, Nat.le_of_ble_eq_true rfl⟩) hS (fun q _ h => h) (fun q h => h) (fun H1 locs1 hX hz9 hk9 hS => ?_)
  refine lv_istore (lv' := [(4, .int (zI (tsN (dfZ b y t d) : Int))), (0, .ref o), (1, .int (zI (y : Int))), (2, .int (zI (t : Int))), (3, .int (zI (d : Int)))]) hx hb dL_tests_7 hl (by decide) rfl (fun ls hl => ?_)
  refine lv_aload_n hx hb dL_tests_9 rfl (lv_at hl 1 rfl) ?_
  refine lv_iload_n hx hb dL_tests_10 rfl (lv_at hl 2 rfl) ?_
  refine lv_iload_n hx hb dL_tests_11 rfl (lv_at hl 3 rfl) ?_
  refine lv_iload_n hx hb dL_tests_12 rfl (lv_at hl 4 rfl) ?_
  refine x_wI (va_runV (As := [.int (zI (y : Int)), .int (zI (t : Int)), .int (zI (d : Int))]) (rest := []) ⟨hx, hb, hml, hown, hts⟩ (r_sum l hfl G o lo hlo b y (by omega) t (by omega) d (by omega) ((y : Int)) ((t : Int)) ((d : Int)) (by omega) (by omega) (by omega)) (cwV 3 hts gL_tests_X3_sum rfl rfl rfl (by decide +kernel) ⟨Nat.le_of_ble_eq_true rfl, Nat.le_of_ble_eq_true rfl⟩) (x_preLV hX hi hK hT hS hAl) rfl rfl hl.1 rfl (lv_room (Nat.le_of_ble_eq_true rfl)) dL_tests_13 ⟨Nat.le_of_ble_eq_true rfl, Nat.le_of_ble_eq_true rfl⟩) hS (fun q _ h => h) (fun q h => h) (fun H1 locs1 hX hz9 hk9 hS => ?_)
  refine lv_aload_n hx hb dL_tests_16 rfl (lv_at hl 1 rfl) ?_
  refine lv_iload_n hx hb dL_tests_17 rfl (lv_at hl 3 rfl) ?_
  refine lv_iload_n hx hb dL_tests_18 rfl (lv_at hl 2 rfl) ?_
  refine lv_iload_n hx hb dL_tests_19 rfl (lv_at hl 4 rfl) ?_
  refine x_wI (va_runV (As := [.int (zI (t : Int)), .int (zI (y : Int)), .int (zI (d : Int))]) (rest := [.int (zI (sxZ (dfZ b y t d) 0))]) ⟨hx, hb, hml, hown, hts⟩ (r_sum l hfl G o lo hlo b t (by omega) y (by omega) d (by omega) ((t : Int)) ((y : Int)) ((d : Int)) (by omega) (by omega) (by omega)) (cwV 3 hts gL_tests_X3_sum rfl rfl rfl (by decide +kernel) ⟨Nat.le_of_ble_eq_true rfl, Nat.le_of_ble_eq_true rfl⟩) (x_preLV hX hi hK hT hS hAl) rfl rfl hl.1 rfl (lv_room (Nat.le_of_ble_eq_true rfl)) dL_tests_20 ⟨Nat.le_of_ble_eq_true rfl, Nat.le_of_ble_eq_true rfl⟩) hS (fun q _ h => h) (fun q h => h) (fun H1 locs1 hX hz9 hk9 hS => ?_)
  refine x_ineg hx hb dL_tests_23 ?_
  have hc1 := tt_sum b y t d
  refine x_icmp_ne (tgt := 64) hx hb dL_tests_24 (by decide) (by omega) (fun h1 => ?_) (fun h2 => ?_)
  · exact absurd h1 (by omega)
  · refine lv_iload hx hb dL_tests_27 (lv_at hl 0 rfl) ?_
    refine lv_aload_n hx hb dL_tests_29 rfl (lv_at hl 1 rfl) ?_
    refine lv_iload_n hx hb dL_tests_30 rfl (lv_at hl 3 rfl) ?_
    refine lv_iload_n hx hb dL_tests_31 rfl (lv_at hl 2 rfl) ?_
    refine lv_iload_n hx hb dL_tests_32 rfl (lv_at hl 4 rfl) ?_
    refine x_wI (va_runV (As := [.int (zI (t : Int)), .int (zI (y : Int)), .int (zI (d : Int))]) (rest := [.int (zI (tsN (dfZ b y t d) : Int))]) ⟨hx, hb, hml, hown, hts⟩ (r_test l hfl G o lo hlo b t (by omega) y (by omega) d (by omega) ((t : Int)) ((y : Int)) ((d : Int)) (by omega) (by omega) (by omega)) (cwV 3 hts gL_tests_X3_test rfl rfl rfl (by decide +kernel) ⟨Nat.le_of_ble_eq_true rfl, Nat.le_of_ble_eq_true rfl⟩) (x_preLV hX hi hK hT hS hAl) rfl rfl hl.1 rfl (lv_room (Nat.le_of_ble_eq_true rfl)) dL_tests_33 ⟨Nat.le_of_ble_eq_true rfl, Nat.le_of_ble_eq_true rfl⟩) hS (fun q _ h => h) (fun q h => h) (fun H1 locs1 hX hz9 hk9 hS => ?_)
    have hc2 := tt_test b y t d
    refine x_icmp_ne (tgt := 64) hx hb dL_tests_36 (by decide) (by omega) (fun h3 => ?_) (fun h4 => ?_)
    · exact absurd h3 (by omega)
    · refine lv_iload hx hb dL_tests_39 (lv_at hl 0 rfl) ?_
      refine x_iconst hx hb dL_tests_41 ?_
      refine x_icmp_lt (tgt := 64) hx hb dL_tests_42 (by decide) (by omega) (fun h5 => ?_) (fun h6 => ?_)
      · exact absurd h5 (by omega)
      · refine lv_iload hx hb dL_tests_45 (lv_at hl 0 rfl) ?_
        refine lv_sipush (v := zI 256) hx hb dL_tests_47 (by decide +kernel) ?_
        refine x_icmp_gt (tgt := 64) hx hb dL_tests_50 (by decide) (by omega) (fun h7 => ?_) (fun h8 => ?_)
        · exact absurd h7 (by omega)
        · refine lv_iload hx hb dL_tests_53 (lv_at hl 0 rfl) ?_
          have hc3 := tsN_rng (dfZ b y t d)
          refine x_iconst hx hb dL_tests_55 ?_
          refine x_irem hx hb (by omega) (by omega) dL_tests_56 ?_
          refine x_if_ne (tgt := 64) hx hb dL_tests_57 (by decide) (by omega) (fun h9 => ?_) (fun h10 => ?_)
          · exact absurd h9 (by omega)
          · refine x_iconst hx hb dL_tests_60 ?_
            refine lv_goto (tgt := 65) hx hb dL_tests_61 (by decide) ?_
            refine lv_istore (lv' := [(5, .int (zI 1)), (4, .int (zI (tsN (dfZ b y t d) : Int))), (0, .ref o), (1, .int (zI (y : Int))), (2, .int (zI (t : Int))), (3, .int (zI (d : Int)))]) hx hb dL_tests_65 hl (by decide) rfl (fun ls hl => ?_)
            refine lv_iload hx hb dL_tests_67 (lv_at hl 0 rfl) ?_
            refine x_if_eq (tgt := 107) hx hb dL_tests_69 (by decide) (by omega) (fun h11 => ?_) (fun h12 => ?_)
            · exact absurd h11 (by omega)
            · refine lv_aload_n hx hb dL_tests_72 rfl (lv_at hl 2 rfl) ?_
              refine lv_iload_n hx hb dL_tests_73 rfl (lv_at hl 3 rfl) ?_
              refine lv_iload_n hx hb dL_tests_74 rfl (lv_at hl 4 rfl) ?_
              refine lv_iload_n hx hb dL_tests_75 rfl (lv_at hl 5 rfl) ?_
              refine x_wI (va_runV (As := [.int (zI (y : Int)), .int (zI (t : Int)), .int (zI (d : Int))]) (rest := []) ⟨hx, hb, hml, hown, hts⟩ (r_sum l hfl G o lo hlo b y (by omega) t (by omega) d (by omega) ((y : Int)) ((t : Int)) ((d : Int)) (by omega) (by omega) (by omega)) (cwV 3 hts gL_tests_X3_sum rfl rfl rfl (by decide +kernel) ⟨Nat.le_of_ble_eq_true rfl, Nat.le_of_ble_eq_true rfl⟩) (x_preLV hX hi hK hT hS hAl) rfl rfl hl.1 rfl (lv_room (Nat.le_of_ble_eq_true rfl)) dL_tests_76 ⟨Nat.le_of_ble_eq_true rfl, Nat.le_of_ble_eq_true rfl⟩) hS (fun q _ h => h) (fun q h => h) (fun H1 locs1 hX hz9 hk9 hS => ?_)
              have hc4 := tsN_0 (df := dfZ b y t d)
              refine x_if_ne (tgt := 90) hx hb dL_tests_79 (by decide) (by omega) (fun h13 => ?_) (fun h14 => ?_)
              · refine lv_iload_n hx hb dL_tests_90 rfl (lv_at hl 3 rfl) ?_
                refine lv_iload_n hx hb dL_tests_91 rfl (lv_at hl 4 rfl) ?_
                have hc5 : y = t → tsN (dfZ b y t d) = 256 := fun e => by rw [← e]; exact tt_same b y d
                refine x_icmp_ne (tgt := 103) hx hb dL_tests_92 (by decide) (by omega) (fun h15 => ?_) (fun h16 => ?_)
                · refine x_iconst hx hb dL_tests_103 ?_
                  refine lv_goto (tgt := 108) hx hb dL_tests_104 (by decide) ?_
                  refine W.widen (k := 40) (n := 240) (Nat.le_of_ble_eq_true rfl) (Nat.le_of_ble_eq_true rfl) ?_
                  exact W.zret hx hb hr (x_nar (by omega)) (fun t ht _ => ⟨⟨_, (), rfl, rfl, _, ht, hX⟩, hS.F ht⟩) hS.2.2 dL_tests_108
                · refine lv_iload hx hb dL_tests_95 (lv_at hl 1 rfl) ?_
                  refine lv_sipush (v := zI 256) hx hb dL_tests_97 (by decide +kernel) ?_
                  refine x_icmp_ne (tgt := 107) hx hb dL_tests_100 (by decide) (by omega) (fun h17 => ?_) (fun h18 => ?_)
                  · exact absurd h17 (by omega)
                  · refine x_iconst hx hb dL_tests_103 ?_
                    refine lv_goto (tgt := 108) hx hb dL_tests_104 (by decide) ?_
                    refine W.widen (k := 40) (n := 240) (Nat.le_of_ble_eq_true rfl) (Nat.le_of_ble_eq_true rfl) ?_
                    exact W.zret hx hb hr (x_nar (by omega)) (fun t ht _ => ⟨⟨_, (), rfl, rfl, _, ht, hX⟩, hS.F ht⟩) hS.2.2 dL_tests_108
              · refine lv_iload hx hb dL_tests_82 (lv_at hl 1 rfl) ?_
                refine lv_sipush (v := zI 256) hx hb dL_tests_84 (by decide +kernel) ?_
                refine x_icmp_ne (tgt := 107) hx hb dL_tests_87 (by decide) (by omega) (fun h19 => ?_) (fun h20 => ?_)
                · exact absurd h19 (by omega)
                · refine lv_iload_n hx hb dL_tests_90 rfl (lv_at hl 3 rfl) ?_
                  refine lv_iload_n hx hb dL_tests_91 rfl (lv_at hl 4 rfl) ?_
                  have hc5 : y = t → tsN (dfZ b y t d) = 256 := fun e => by rw [← e]; exact tt_same b y d
                  refine x_icmp_ne (tgt := 103) hx hb dL_tests_92 (by decide) (by omega) (fun h21 => ?_) (fun h22 => ?_)
                  · refine x_iconst hx hb dL_tests_103 ?_
                    refine lv_goto (tgt := 108) hx hb dL_tests_104 (by decide) ?_
                    refine W.widen (k := 40) (n := 240) (Nat.le_of_ble_eq_true rfl) (Nat.le_of_ble_eq_true rfl) ?_
                    exact W.zret hx hb hr (x_nar (by omega)) (fun t ht _ => ⟨⟨_, (), rfl, rfl, _, ht, hX⟩, hS.F ht⟩) hS.2.2 dL_tests_108
                  · refine lv_iload hx hb dL_tests_95 (lv_at hl 1 rfl) ?_
                    refine lv_sipush (v := zI 256) hx hb dL_tests_97 (by decide +kernel) ?_
                    refine x_icmp_ne (tgt := 107) hx hb dL_tests_100 (by decide) (by omega) (fun h23 => ?_) (fun h24 => ?_)
                    · exact absurd h23 (by omega)
                    · refine x_iconst hx hb dL_tests_103 ?_
                      refine lv_goto (tgt := 108) hx hb dL_tests_104 (by decide) ?_
                      refine W.widen (k := 40) (n := 240) (Nat.le_of_ble_eq_true rfl) (Nat.le_of_ble_eq_true rfl) ?_
                      exact W.zret hx hb hr (x_nar (by omega)) (fun t ht _ => ⟨⟨_, (), rfl, rfl, _, ht, hX⟩, hS.F ht⟩) hS.2.2 dL_tests_108
