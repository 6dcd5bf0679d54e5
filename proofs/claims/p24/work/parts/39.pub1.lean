/-- a call's code: n where its arguments are in range, else 1 -/
def kR (P : Prop) [Decidable P] (n : Int) : Int := if P then n else 1
theorem kR_f {P : Prop} [Decidable P] {n : Int} (h : ¬ P) : kR P n = 1 := if_neg h
theorem kR_t {P : Prop} [Decidable P] {n k : Int} (h : P) (hn : n = k) : kR P n = k := (if_pos h).trans hn
def kAppN (b : XB) (q y : Nat) (zd zc : Int) : Int := if 20 ≤ bN b q y ∨ ¬ rk b q y zd = -1 ∨ (0 < bN b q y ∧ (bS b q y (bN b q y - 1) : Int) < zc) then 2 else 0
theorem kAppN_2 {b : XB} {q y : Nat} {zd zc : Int} (h : 20 ≤ bN b q y ∨ ¬ rk b q y zd = -1 ∨ (0 < bN b q y ∧ (bS b q y (bN b q y - 1) : Int) < zc)) : kAppN b q y zd zc = 2 := if_pos h
theorem kAppN_0 {b : XB} {q y : Nat} {zd zc : Int} (h : ¬ (20 ≤ bN b q y ∨ ¬ rk b q y zd = -1 ∨ (0 < bN b q y ∧ (bS b q y (bN b q y - 1) : Int) < zc))) : kAppN b q y zd zc = 0 := if_neg h
set_option maxHeartbeats 4000000 in
set_option maxRecDepth 100000 in
theorem c_X3_append (l : Launch) (hfl : l.stackTraces = false) (G : XG) (o lo : Nat) (hlo : lo ≤ o) (b : XB) (lim : Int) (dif : Nat → Int) (zs : Int) (hzs : -2147483648 ≤ zs ∧ zs < 2147483648) (zq : Int) (hzq : -2147483648 ≤ zq ∧ zq < 2147483648) (zd : Int) (hzd : -2147483648 ≤ zd ∧ zd < 2147483648) (zc : Int) (hzc : -2147483648 ≤ zc ∧ zc < 2147483648) : MetPI l yX3_append wsX3_append (rmP 7 102) (TPc G o lo b lim dif [.ref o, .int (zI zs), .int (zI zq), .int (zI zd), .int (zI zc)]) (kR ((0 ≤ zs ∧ zs < 4) ∧ (0 ≤ zq ∧ zq < 8) ∧ (0 ≤ zd ∧ zd < 40) ∧ (0 ≤ zc ∧ zc ≤ 1000)) (kAppN b zq.toNat zs.toNat zd zc)) ((bN b zq.toNat zs.toNat : Int) + 1) (BX G o (bApp b zq.toNat zs.toNat zd.toNat zc.toNat)) (xA o) := by
  refine vx_ofW (cc := cX3_append) (maxL := 6) (ret := (some .int)) (by decide) rfl ?_
  intro p e s m args below meth c s₁ B hml ht9 hv
  obtain ⟨rfl, hW, hi, hK, hT⟩ := hv
  have hx := B.exec
  have hb := B.bytes
  have hr := B.returns
  have hts := atoms_spec (ws := wsX3_append) B.pre
  have hown : s.vm.findClass RX3 = some m.cls := findClass_of_methodNamed B.named
  have hlocks := B.notSynchronized
  have hl := lv_entry ([.ref o, .int (zI zs), .int (zI zq), .int (zI zd), .int (zI zc)]) (n := 6) (Nat.le_of_ble_eq_true rfl)
  rw [lg_entry_eq]
  generalize (lg_sl ([.ref o, .int (zI zs), .int (zI zq), .int (zI zd), .int (zI zc)]) ++ List.replicate (6 - (lg_sl ([.ref o, .int (zI zs), .int (zI zq), .int (zI zd), .int (zI zc)])).length) Slot.unset).toArray = ls at hl ⊢
  have hl : lv_has ls 6 [(0, .ref o), (1, .int (zI zs)), (2, .int (zI zq)), (3, .int (zI zd)), (4, .int (zI zc))] := hl
  have hS : va_S (xA o) s.heap s.heap [] := va_S.rf
  have hF : NF s.heap s.heap := NF.rf
  have hAl : ∀ q, xA o q → lo ≤ q := fun q h => Nat.le_trans hlo h.1
  have hll := hi.l
  refine lv_iload_n hx hb dX3_append_0 rfl (lv_at hl 1 rfl) ?_
  refine vx_callv (vx_runS (As := [.int (zI zs)]) (rest := []) ⟨hx, hb, hml, hown, hts⟩ (c_X3_requireSystem l hfl lo zs (by omega)) (va_cwS 1 hts gX3_append_X3_requireSystem rfl rfl rfl (by decide +kernel) ⟨Nat.le_of_ble_eq_true rfl, Nat.le_of_ble_eq_true rfl⟩) ⟨x_blindS, fun U hU hW' => ⟨rfl, hT.to hS hAl hW' hU⟩⟩ rfl rfl hl.1 rfl (lv_room (Nat.le_of_ble_eq_true rfl)) dX3_append_1 ⟨Nat.le_of_ble_eq_true rfl, Nat.le_of_ble_eq_true rfl⟩) hS (fun q _ h => h.elim) (fun q h => h.elim) (fun q _ h => h.elim) (fun E ce q9 u t H1 locs1 ht hv9 hp9 hB9 hz9 hk9 hS hc1 hc2 hc3 => ?_) (fun u t H1 locs1 ht hv9 hp9 hB9 hz9 hk9 hS => ?_)
  · have hp9 : ¬ (0 ≤ zs ∧ zs < 4) := hp9
    exact vx_out (fun x hx9 => (ht9 x hx9).elim) hlocks hc1 hc2 hc3 (fun t9 ht99 hv99 => ⟨(), trivial, Or.inl ⟨hB9, kR_f (by omega)⟩, (hF.go hz9 (fun q hq => hk9 q hq (fun h => h))).F ht99⟩) hS.2.2 (by decide) (by decide)
  have hp1 : 0 ≤ zs ∧ zs < 4 := hp9
  have hW := hW.kept (fun a h1 h2 => hk9 a (by have := hW.lt; omega) (fun h => h))
  have hF := hF.go hz9 (fun q hq => hk9 q hq (fun h => h))
  refine lv_iload_n hx hb dX3_append_4 rfl (lv_at hl 2 rfl) ?_
  refine vx_callv (vx_runS (As := [.int (zI zq)]) (rest := []) ⟨hx, hb, hml, hown, hts⟩ (c_X3_requireQuestion l hfl lo zq (by omega)) (va_cwS 1 hts gX3_append_X3_requireQuestion rfl rfl rfl (by decide +kernel) ⟨Nat.le_of_ble_eq_true rfl, Nat.le_of_ble_eq_true rfl⟩) ⟨x_blindS, fun U hU hW' => ⟨rfl, hT.to hS hAl hW' hU⟩⟩ rfl rfl hl.1 rfl (lv_room (Nat.le_of_ble_eq_true rfl)) dX3_append_5 ⟨Nat.le_of_ble_eq_true rfl, Nat.le_of_ble_eq_true rfl⟩) hS (fun q _ h => h.elim) (fun q h => h.elim) (fun q _ h => h.elim) (fun E ce q9 u t H1 locs1 ht hv9 hp9 hB9 hz9 hk9 hS hc1 hc2 hc3 => ?_) (fun u t H1 locs1 ht hv9 hp9 hB9 hz9 hk9 hS => ?_)
  · have hp9 : ¬ (0 ≤ zq ∧ zq < 8) := hp9
    exact vx_out (fun x hx9 => (ht9 x hx9).elim) hlocks hc1 hc2 hc3 (fun t9 ht99 hv99 => ⟨(), trivial, Or.inl ⟨hB9, kR_f (by omega)⟩, (hF.go hz9 (fun q hq => hk9 q hq (fun h => h))).F ht99⟩) hS.2.2 (by decide) (by decide)
  have hp2 : 0 ≤ zq ∧ zq < 8 := hp9
  have hW := hW.kept (fun a h1 h2 => hk9 a (by have := hW.lt; omega) (fun h => h))
  have hF := hF.go hz9 (fun q hq => hk9 q hq (fun h => h))
  refine lv_iload_n hx hb dX3_append_8 rfl (lv_at hl 3 rfl) ?_
  refine vx_callv (vx_runS (As := [.int (zI zd)]) (rest := []) ⟨hx, hb, hml, hown, hts⟩ (c_X3_requireDocument l hfl lo zd (by omega)) (va_cwS 1 hts gX3_append_X3_requireDocument rfl rfl rfl (by decide +kernel) ⟨Nat.le_of_ble_eq_true rfl, Nat.le_of_ble_eq_true rfl⟩) ⟨x_blindS, fun U hU hW' => ⟨rfl, hT.to hS hAl hW' hU⟩⟩ rfl rfl hl.1 rfl (lv_room (Nat.le_of_ble_eq_true rfl)) dX3_append_9 ⟨Nat.le_of_ble_eq_true rfl, Nat.le_of_ble_eq_true rfl⟩) hS (fun q _ h => h.elim) (fun q h => h.elim) (fun q _ h => h.elim) (fun E ce q9 u t H1 locs1 ht hv9 hp9 hB9 hz9 hk9 hS hc1 hc2 hc3 => ?_) (fun u t H1 locs1 ht hv9 hp9 hB9 hz9 hk9 hS => ?_)
  · have hp9 : ¬ (0 ≤ zd ∧ zd < 40) := hp9
    exact vx_out (fun x hx9 => (ht9 x hx9).elim) hlocks hc1 hc2 hc3 (fun t9 ht99 hv99 => ⟨(), trivial, Or.inl ⟨hB9, kR_f (by omega)⟩, (hF.go hz9 (fun q hq => hk9 q hq (fun h => h))).F ht99⟩) hS.2.2 (by decide) (by decide)
  have hp3 : 0 ≤ zd ∧ zd < 40 := hp9
  have hW := hW.kept (fun a h1 h2 => hk9 a (by have := hW.lt; omega) (fun h => h))
  have hF := hF.go hz9 (fun q hq => hk9 q hq (fun h => h))
  refine lv_iload hx hb dX3_append_12 (lv_at hl 4 rfl) ?_
  refine x_if_lt (tgt := 25) hx hb dX3_append_14 (by decide) (by omega) (fun h4 => ?_) (fun h5 => ?_)
  · exact x_thrI (Ts := wsX3_append) (lo := lo) (is := 39) (text := "score is not 0 to 1000") (rest := []) hx hb hfl hml hl hown hts (by decide +kernel) (by decide +kernel) (fun w hw => by exact List.mem_cons_of_mem _ (List.mem_append_left _ (List.mem_append_right _ hw))) hT (List.mem_of_getElem? (i := 3) rfl) hS hAl dX3_append_25 dX3_append_28 dX3_append_29 dX3_append_31 dX3_append_34 ht9 ⟨by decide, by decide, by decide, by decide⟩ hlocks (fun t ha hz hk => ⟨(), trivial, Or.inl ⟨rfl, kR_f (by omega)⟩, (hF.go hz hk).F rfl⟩) hS.2.2 (by decide) (by decide)
  · refine lv_iload hx hb dX3_append_17 (lv_at hl 4 rfl) ?_
    refine lv_sipush (v := zI 1000) hx hb dX3_append_19 (by decide +kernel) ?_
    refine x_icmp_le (tgt := 35) hx hb dX3_append_22 (by decide) (by omega) (fun h6 => ?_) (fun h7 => ?_)
    · obtain ⟨y, rfl⟩ : ∃ y : Nat, zs = (y : Int) := ⟨zs.toNat, by omega⟩
      obtain ⟨q, rfl⟩ : ∃ q : Nat, zq = (q : Int) := ⟨zq.toNat, by omega⟩
      obtain ⟨d, rfl⟩ : ∃ d : Nat, zd = (d : Int) := ⟨zd.toNat, by omega⟩
      obtain ⟨sc, rfl⟩ : ∃ sc : Nat, zc = (sc : Int) := ⟨zc.toNat, by omega⟩
      refine lv_aload_n hx hb dX3_append_35 rfl (lv_at hl 0 rfl) ?_
      refine x_get (ci := 3) (C := RX3) (T := TX3) (N := 3) (own := RX3) (index := 11) (v := .ref (o + 1)) hx hb hts (by decide +kernel) hown hK hW.jr rfl 0 (by decide) (by decide +kernel) rfl rfl dX3_append_36 ?_
      refine lv_iload_n hx hb dX3_append_39 rfl (lv_at hl 2 rfl) ?_
      refine x_aaldq hx hb hK hW.qs (q) (by omega) (by omega) (by decide) dX3_append_40 ?_
      refine x_getN (ci := 1) (C := RX1) (T := TX1) (N := 2) (own := RX3) (index := 44) (v := .ref (o + 2 + 15 * q + 1)) hx hb hts (by decide +kernel) hown hK (hW.q (q := q) (by omega)) rfl 0 (by decide) nk_RX3_44 rfl rfl dX3_append_41 ?_
      refine lv_iload_n hx hb dX3_append_44 rfl (lv_at hl 1 rfl) ?_
      refine x_aaldr hx hb hK (hW.rs (q := q) (by omega)) (y) (by omega) (by omega) (by decide) dX3_append_45 ?_
      refine lv_astore (lv' := [(5, .ref (o + 2 + 15 * q + 2 + 3 * y)), (0, .ref o), (1, .int (zI (y : Int))), (2, .int (zI (q : Int))), (3, .int (zI (d : Int))), (4, .int (zI (sc : Int)))]) hx hb dX3_append_46 hl (by decide) rfl (fun ls hl => ?_)
      refine lv_aload hx hb dX3_append_48 (lv_at hl 0 rfl) ?_
      have hn20 := hi.n q y
      refine x_getN (ci := 2) (C := RX2) (T := TX2) (N := 3) (own := RX3) (index := 48) (v := .int (zI (bN b q y : Int))) hx hb hts (by decide +kernel) hown hK (hW.r (q := q) (s := y) (by omega) (by omega)) rfl 2 (by decide) nk_RX3_48 rfl rfl dX3_append_50 ?_
      refine lv_bipush (v := zI 20) hx hb dX3_append_53 (by decide +kernel) ?_
      refine x_icmp_lt (tgt := 68) hx hb dX3_append_55 (by decide) (by omega) (fun h8 => ?_) (fun h9 => ?_)
      · refine lv_aload hx hb dX3_append_68 (lv_at hl 0 rfl) ?_
        refine lv_iload_n hx hb dX3_append_70 rfl (lv_at hl 4 rfl) ?_
        refine x_cI (va_runVN (As := [.int (zI (d : Int))]) (rest := []) ⟨hx, hb, hml, hown, hts⟩ (c_X2_rankOf l G o b lim dif q y (by omega) (by omega) (d : Int) (by omega)) ⟨va_cnB 1 hts gX3_append_X2_rankOf_n59 rfl rfl rfl (x_nestM hK nk_RX3_59) (hts (.initialized RX2) (by decide +kernel)) (by decide +kernel) ⟨Nat.le_of_ble_eq_true rfl, Nat.le_of_ble_eq_true rfl⟩, hts (.instanceMethod yX2_rankOf) (by decide +kernel), hts (.selects RX2 yX2_rankOf yX2_rankOf) (by decide +kernel)⟩ (x_preV hW hi hK (hW.r (q := q) (s := y) (by omega) (by omega)) (ci := 2) (q := (RX2, TX2, 3)) rfl) rfl rfl hl.1 rfl (lv_room (Nat.le_of_ble_eq_true rfl)) dX3_append_71 ⟨Nat.le_of_ble_eq_true rfl, Nat.le_of_ble_eq_true rfl⟩) ?_
        refine x_iconst hx hb dX3_append_74 ?_
        have hrk := rk_rng b q y (d : Int)
        refine x_icmp_eq (tgt := 88) hx hb dX3_append_75 (by decide) (by omega) (fun h10 => ?_) (fun h11 => ?_)
        · refine lv_aload hx hb dX3_append_88 (lv_at hl 0 rfl) ?_
          refine lv_iload hx hb dX3_append_90 (lv_at hl 5 rfl) ?_
          refine x_cI (va_runVN (As := [.int (zI (sc : Int))]) (rest := []) ⟨hx, hb, hml, hown, hts⟩ (c_X2_endsBelow l G o b lim dif q y (by omega) (by omega) (sc : Int) (by omega)) ⟨va_cnB 1 hts gX3_append_X2_endsBelow_n65 rfl rfl rfl (x_nestM hK nk_RX3_65) (hts (.initialized RX2) (by decide +kernel)) (by decide +kernel) ⟨Nat.le_of_ble_eq_true rfl, Nat.le_of_ble_eq_true rfl⟩, hts (.instanceMethod yX2_endsBelow) (by decide +kernel), hts (.selects RX2 yX2_endsBelow yX2_endsBelow) (by decide +kernel)⟩ (x_preV hW hi hK (hW.r (q := q) (s := y) (by omega) (by omega)) (ci := 2) (q := (RX2, TX2, 3)) rfl) rfl rfl hl.1 rfl (lv_room (Nat.le_of_ble_eq_true rfl)) dX3_append_92 ⟨Nat.le_of_ble_eq_true rfl, Nat.le_of_ble_eq_true rfl⟩) ?_
          refine x_ifB_eq (tgt := 108) hx hb dX3_append_95 (by decide) (fun h12 => ?_) (fun h13 => ?_)
          · have hnb := h12
            refine lv_aload hx hb dX3_append_108 (lv_at hl 0 rfl) ?_
            refine lv_iload_n hx hb dX3_append_110 rfl (lv_at hl 4 rfl) ?_
            refine lv_iload hx hb dX3_append_111 (lv_at hl 5 rfl) ?_
            refine x_wI (va_runVN (As := [.int (zI (d : Int)), .int (zI (sc : Int))]) (rest := []) ⟨hx, hb, hml, hown, hts⟩ (c_X2_add l G o b lim dif q y (by omega) (by omega) (d : Int) (sc : Int) d sc (by omega) (by omega) (by omega)) ⟨va_cnB 2 hts gX3_append_X2_add_n71 rfl rfl rfl (x_nestM hK nk_RX3_71) (hts (.initialized RX2) (by decide +kernel)) (by decide +kernel) ⟨Nat.le_of_ble_eq_true rfl, Nat.le_of_ble_eq_true rfl⟩, hts (.instanceMethod yX2_add) (by decide +kernel), hts (.selects RX2 yX2_add yX2_add) (by decide +kernel)⟩ (x_preV hW hi hK (hW.r (q := q) (s := y) (by omega) (by omega)) (ci := 2) (q := (RX2, TX2, 3)) rfl) rfl rfl hl.1 rfl (lv_room (Nat.le_of_ble_eq_true rfl)) dX3_append_113 ⟨Nat.le_of_ble_eq_true rfl, Nat.le_of_ble_eq_true rfl⟩) hS (fun q _ h => h) (fun q h => h) (fun H1 locs1 hW1 hz1 hk1 hS => ?_)
            have hW := hW1
            refine W.widen (k := 8) (n := 48) (by decide) (by decide) (vx_ret ?_)
            exact W.iret hx hb hr (fun t ht _ => ⟨⟨_, (), rfl, ⟨kR_t (by omega) (kAppN_0 (q := q) (y := y) (by omega)), congrArg zI (rfl)⟩, _, ht, ⟨_, _, hW⟩⟩, hS.F ht⟩) hS.2.2 dX3_append_116
          · have hbe := h13
            exact x_thrS (Ts := wsX3_append) (lo := lo) (is := 69) (text := "the last document of the run has a lower score") (rest := []) hx hb hfl hml hl hown hts (by decide +kernel) (by decide +kernel) (fun w hw => by exact List.mem_cons_of_mem _ (List.mem_append_right _ hw)) hT (List.mem_of_getElem? (i := 6) rfl) hS hAl dX3_append_98 dX3_append_101 dX3_append_102 dX3_append_104 dX3_append_107 ht9 ⟨by decide, by decide, by decide, by decide⟩ hlocks (fun t ha hz hk => ⟨(), trivial, Or.inr ⟨rfl, kR_t (by omega) (kAppN_2 (q := q) (y := y) (Or.inr (Or.inr hbe)))⟩, (hF.go hz hk).F rfl⟩) hS.2.2 (by decide) (by decide)
        · exact x_thrS (Ts := wsX3_append) (lo := lo) (is := 63) (text := "the run has this document") (rest := []) hx hb hfl hml hl hown hts (by decide +kernel) (by decide +kernel) (fun w hw => by exact List.mem_cons_of_mem _ (List.mem_append_right _ hw)) hT (List.mem_of_getElem? (i := 5) rfl) hS hAl dX3_append_78 dX3_append_81 dX3_append_82 dX3_append_84 dX3_append_87 ht9 ⟨by decide, by decide, by decide, by decide⟩ hlocks (fun t ha hz hk => ⟨(), trivial, Or.inr ⟨rfl, kR_t (by omega) (kAppN_2 (q := q) (y := y) (Or.inr (Or.inl (by omega))))⟩, (hF.go hz hk).F rfl⟩) hS.2.2 (by decide) (by decide)
      · exact x_thrS (Ts := wsX3_append) (lo := lo) (is := 56) (text := "the run has 20 documents") (rest := []) hx hb hfl hml hl hown hts (by decide +kernel) (by decide +kernel) (fun w hw => by exact List.mem_cons_of_mem _ (List.mem_append_right _ hw)) hT (List.mem_of_getElem? (i := 4) rfl) hS hAl dX3_append_58 dX3_append_61 dX3_append_62 dX3_append_64 dX3_append_67 ht9 ⟨by decide, by decide, by decide, by decide⟩ hlocks (fun t ha hz hk => ⟨(), trivial, Or.inr ⟨rfl, kR_t (by omega) (kAppN_2 (q := q) (y := y) (Or.inl (by omega)))⟩, (hF.go hz hk).F rfl⟩) hS.2.2 (by decide) (by decide)
    · exact x_thrI (Ts := wsX3_append) (lo := lo) (is := 39) (text := "score is not 0 to 1000") (rest := []) hx hb hfl hml hl hown hts (by decide +kernel) (by decide +kernel) (fun w hw => by exact List.mem_cons_of_mem _ (List.mem_append_left _ (List.mem_append_right _ hw))) hT (List.mem_of_getElem? (i := 3) rfl) hS hAl dX3_append_25 dX3_append_28 dX3_append_29 dX3_append_31 dX3_append_34 ht9 ⟨by decide, by decide, by decide, by decide⟩ hlocks (fun t ha hz hk => ⟨(), trivial, Or.inl ⟨rfl, kR_f (by omega)⟩, (hF.go hz hk).F rfl⟩) hS.2.2 (by decide) (by decide)
set_option maxHeartbeats 4000000 in
set_option maxRecDepth 100000 in
theorem c_X3_empty (l : Launch) (hfl : l.stackTraces = false) (G : XG) (o lo : Nat) (hlo : lo ≤ o) (b : XB) (lim : Int) (dif : Nat → Int) (zs : Int) (hzs : -2147483648 ≤ zs ∧ zs < 2147483648) (zq : Int) (hzq : -2147483648 ≤ zq ∧ zq < 2147483648) : MetPI l yX3_empty wsX3_empty (rmP 7 102) (TPc G o lo b lim dif [.ref o, .int (zI zs), .int (zI zq)]) (kR ((0 ≤ zs ∧ zs < 4) ∧ (0 ≤ zq ∧ zq < 8)) 0) (bN b zq.toNat zs.toNat : Int) (BX G o (uN b zq.toNat zs.toNat 0)) (xA o) := by
  refine vx_ofW (cc := cX3_empty) (maxL := 5) (ret := (some .int)) (by decide) rfl ?_
  intro p e s m args below meth c s₁ B hml ht9 hv
  obtain ⟨rfl, hW, hi, hK, hT⟩ := hv
  have hx := B.exec
  have hb := B.bytes
  have hr := B.returns
  have hts := atoms_spec (ws := wsX3_empty) B.pre
  have hown : s.vm.findClass RX3 = some m.cls := findClass_of_methodNamed B.named
  have hlocks := B.notSynchronized
  have hl := lv_entry ([.ref o, .int (zI zs), .int (zI zq)]) (n := 5) (Nat.le_of_ble_eq_true rfl)
  rw [lg_entry_eq]
  generalize (lg_sl ([.ref o, .int (zI zs), .int (zI zq)]) ++ List.replicate (5 - (lg_sl ([.ref o, .int (zI zs), .int (zI zq)])).length) Slot.unset).toArray = ls at hl ⊢
  have hl : lv_has ls 5 [(0, .ref o), (1, .int (zI zs)), (2, .int (zI zq))] := hl
  have hS : va_S (xA o) s.heap s.heap [] := va_S.rf
  have hF : NF s.heap s.heap := NF.rf
  have hAl : ∀ q, xA o q → lo ≤ q := fun q h => Nat.le_trans hlo h.1
  have hll := hi.l
  refine lv_iload_n hx hb dX3_empty_0 rfl (lv_at hl 1 rfl) ?_
  refine vx_callv (vx_runS (As := [.int (zI zs)]) (rest := []) ⟨hx, hb, hml, hown, hts⟩ (c_X3_requireSystem l hfl lo zs (by omega)) (va_cwS 1 hts gX3_empty_X3_requireSystem rfl rfl rfl (by decide +kernel) ⟨Nat.le_of_ble_eq_true rfl, Nat.le_of_ble_eq_true rfl⟩) ⟨x_blindS, fun U hU hW' => ⟨rfl, hT.to hS hAl hW' hU⟩⟩ rfl rfl hl.1 rfl (lv_room (Nat.le_of_ble_eq_true rfl)) dX3_empty_1 ⟨Nat.le_of_ble_eq_true rfl, Nat.le_of_ble_eq_true rfl⟩) hS (fun q _ h => h.elim) (fun q h => h.elim) (fun q _ h => h.elim) (fun E ce q9 u t H1 locs1 ht hv9 hp9 hB9 hz9 hk9 hS hc1 hc2 hc3 => ?_) (fun u t H1 locs1 ht hv9 hp9 hB9 hz9 hk9 hS => ?_)
  · have hp9 : ¬ (0 ≤ zs ∧ zs < 4) := hp9
    exact vx_out (fun x hx9 => (ht9 x hx9).elim) hlocks hc1 hc2 hc3 (fun t9 ht99 hv99 => ⟨(), trivial, Or.inl ⟨hB9, kR_f (by omega)⟩, (hF.go hz9 (fun q hq => hk9 q hq (fun h => h))).F ht99⟩) hS.2.2 (by decide) (by decide)
  have hp1 : 0 ≤ zs ∧ zs < 4 := hp9
  have hW := hW.kept (fun a h1 h2 => hk9 a (by have := hW.lt; omega) (fun h => h))
  have hF := hF.go hz9 (fun q hq => hk9 q hq (fun h => h))
  refine lv_iload_n hx hb dX3_empty_4 rfl (lv_at hl 2 rfl) ?_
  refine vx_callv (vx_runS (As := [.int (zI zq)]) (rest := []) ⟨hx, hb, hml, hown, hts⟩ (c_X3_requireQuestion l hfl lo zq (by omega)) (va_cwS 1 hts gX3_empty_X3_requireQuestion rfl rfl rfl (by decide +kernel) ⟨Nat.le_of_ble_eq_true rfl, Nat.le_of_ble_eq_true rfl⟩) ⟨x_blindS, fun U hU hW' => ⟨rfl, hT.to hS hAl hW' hU⟩⟩ rfl rfl hl.1 rfl (lv_room (Nat.le_of_ble_eq_true rfl)) dX3_empty_5 ⟨Nat.le_of_ble_eq_true rfl, Nat.le_of_ble_eq_true rfl⟩) hS (fun q _ h => h.elim) (fun q h => h.elim) (fun q _ h => h.elim) (fun E ce q9 u t H1 locs1 ht hv9 hp9 hB9 hz9 hk9 hS hc1 hc2 hc3 => ?_) (fun u t H1 locs1 ht hv9 hp9 hB9 hz9 hk9 hS => ?_)
  · have hp9 : ¬ (0 ≤ zq ∧ zq < 8) := hp9
    exact vx_out (fun x hx9 => (ht9 x hx9).elim) hlocks hc1 hc2 hc3 (fun t9 ht99 hv99 => ⟨(), trivial, Or.inl ⟨hB9, kR_f (by omega)⟩, (hF.go hz9 (fun q hq => hk9 q hq (fun h => h))).F ht99⟩) hS.2.2 (by decide) (by decide)
  have hp2 : 0 ≤ zq ∧ zq < 8 := hp9
  have hW := hW.kept (fun a h1 h2 => hk9 a (by have := hW.lt; omega) (fun h => h))
  have hF := hF.go hz9 (fun q hq => hk9 q hq (fun h => h))
  obtain ⟨y, rfl⟩ : ∃ y : Nat, zs = (y : Int) := ⟨zs.toNat, by omega⟩
  obtain ⟨q, rfl⟩ : ∃ q : Nat, zq = (q : Int) := ⟨zq.toNat, by omega⟩
  refine lv_aload_n hx hb dX3_empty_8 rfl (lv_at hl 0 rfl) ?_
  refine x_get (ci := 3) (C := RX3) (T := TX3) (N := 3) (own := RX3) (index := 11) (v := .ref (o + 1)) hx hb hts (by decide +kernel) hown hK hW.jr rfl 0 (by decide) (by decide +kernel) rfl rfl dX3_empty_9 ?_
  refine lv_iload_n hx hb dX3_empty_12 rfl (lv_at hl 2 rfl) ?_
  refine x_aaldq hx hb hK hW.qs (q) (by omega) (by omega) (by decide) dX3_empty_13 ?_
  refine x_getN (ci := 1) (C := RX1) (T := TX1) (N := 2) (own := RX3) (index := 44) (v := .ref (o + 2 + 15 * q + 1)) hx hb hts (by decide +kernel) hown hK (hW.q (q := q) (by omega)) rfl 0 (by decide) nk_RX3_44 rfl rfl dX3_empty_14 ?_
  refine lv_iload_n hx hb dX3_empty_17 rfl (lv_at hl 1 rfl) ?_
  refine x_aaldr hx hb hK (hW.rs (q := q) (by omega)) (y) (by omega) (by omega) (by decide) dX3_empty_18 ?_
  refine lv_astore_n (lv' := [(3, .ref (o + 2 + 15 * q + 2 + 3 * y)), (0, .ref o), (1, .int (zI (y : Int))), (2, .int (zI (q : Int)))]) hx hb dX3_empty_19 rfl hl (by decide) rfl (fun ls hl => ?_)
  refine lv_aload_n hx hb dX3_empty_20 rfl (lv_at hl 0 rfl) ?_
  refine x_getN (ci := 2) (C := RX2) (T := TX2) (N := 3) (own := RX3) (index := 48) (v := .int (zI (bN b q y : Int))) hx hb hts (by decide +kernel) hown hK (hW.r (q := q) (s := y) (by omega) (by omega)) rfl 2 (by decide) nk_RX3_48 rfl rfl dX3_empty_21 ?_
  refine lv_istore (lv' := [(4, .int (zI (bN b q y : Int))), (3, .ref (o + 2 + 15 * q + 2 + 3 * y)), (0, .ref o), (1, .int (zI (y : Int))), (2, .int (zI (q : Int)))]) hx hb dX3_empty_24 hl (by decide) rfl (fun ls hl => ?_)
  refine lv_aload_n hx hb dX3_empty_26 rfl (lv_at hl 1 rfl) ?_
  refine x_iconst hx hb dX3_empty_27 ?_
  refine x_putN (ci := 2) (C := RX2) (T := TX2) (N := 3) (own := RX3) (index := 48) hx hb hts (by decide +kernel) tyX2 tyX2_ok nmX2 hown hK (hW.r (q := q) (s := y) (by omega) (by omega)) hS ⟨by omega, by omega⟩ rfl 2 (by decide) nk_RX3_48 rfl rfl rfl rfl (Nat.le_of_ble_eq_true rfl) dX3_empty_28 (fun H1 locs1 h1 hz1 hn1 hS => ?_)
  have hW := hW.putRN (q := q) (y := y) (v := 0) (by omega) (by omega) (show 0 = ((0 : Nat) : Int) from by omega) h1 hn1
  refine lv_iload hx hb dX3_empty_31 (lv_at hl 0 rfl) ?_
  refine W.widen (k := 8) (n := 48) (by decide) (by decide) (vx_ret ?_)
  exact W.iret hx hb hr (fun t ht _ => ⟨⟨_, (), rfl, ⟨kR_t (by omega) rfl, congrArg zI (rfl)⟩, _, ht, ⟨_, _, hW⟩⟩, hS.F ht⟩) hS.2.2 dX3_empty_33
set_option maxHeartbeats 4000000 in
set_option maxRecDepth 100000 in
theorem c_X3_length (l : Launch) (hfl : l.stackTraces = false) (G : XG) (o lo : Nat) (hlo : lo ≤ o) (b : XB) (lim : Int) (dif : Nat → Int) (zs : Int) (hzs : -2147483648 ≤ zs ∧ zs < 2147483648) (zq : Int) (hzq : -2147483648 ≤ zq ∧ zq < 2147483648) : MetPI l yX3_length wsX3_length (rmP 7 102) (TPc G o lo b lim dif [.ref o, .int (zI zs), .int (zI zq)]) (kR ((0 ≤ zs ∧ zs < 4) ∧ (0 ≤ zq ∧ zq < 8)) 0) (bN b zq.toNat zs.toNat : Int) (BX G o b) (xA o) := by
  refine vx_ofW (cc := cX3_length) (maxL := 3) (ret := (some .int)) (by decide) rfl ?_
  intro p e s m args below meth c s₁ B hml ht9 hv
  obtain ⟨rfl, hW, hi, hK, hT⟩ := hv
  have hx := B.exec
  have hb := B.bytes
  have hr := B.returns
  have hts := atoms_spec (ws := wsX3_length) B.pre
  have hown : s.vm.findClass RX3 = some m.cls := findClass_of_methodNamed B.named
  have hlocks := B.notSynchronized
  have hl := lv_entry ([.ref o, .int (zI zs), .int (zI zq)]) (n := 3) (Nat.le_of_ble_eq_true rfl)
  rw [lg_entry_eq]
  generalize (lg_sl ([.ref o, .int (zI zs), .int (zI zq)]) ++ List.replicate (3 - (lg_sl ([.ref o, .int (zI zs), .int (zI zq)])).length) Slot.unset).toArray = ls at hl ⊢
  have hl : lv_has ls 3 [(0, .ref o), (1, .int (zI zs)), (2, .int (zI zq))] := hl
  have hS : va_S (xA o) s.heap s.heap [] := va_S.rf
  have hF : NF s.heap s.heap := NF.rf
  have hAl : ∀ q, xA o q → lo ≤ q := fun q h => Nat.le_trans hlo h.1
  have hll := hi.l
  refine lv_iload_n hx hb dX3_length_0 rfl (lv_at hl 1 rfl) ?_
  refine vx_callv (vx_runS (As := [.int (zI zs)]) (rest := []) ⟨hx, hb, hml, hown, hts⟩ (c_X3_requireSystem l hfl lo zs (by omega)) (va_cwS 1 hts gX3_length_X3_requireSystem rfl rfl rfl (by decide +kernel) ⟨Nat.le_of_ble_eq_true rfl, Nat.le_of_ble_eq_true rfl⟩) ⟨x_blindS, fun U hU hW' => ⟨rfl, hT.to hS hAl hW' hU⟩⟩ rfl rfl hl.1 rfl (lv_room (Nat.le_of_ble_eq_true rfl)) dX3_length_1 ⟨Nat.le_of_ble_eq_true rfl, Nat.le_of_ble_eq_true rfl⟩) hS (fun q _ h => h.elim) (fun q h => h.elim) (fun q _ h => h.elim) (fun E ce q9 u t H1 locs1 ht hv9 hp9 hB9 hz9 hk9 hS hc1 hc2 hc3 => ?_) (fun u t H1 locs1 ht hv9 hp9 hB9 hz9 hk9 hS => ?_)
  · have hp9 : ¬ (0 ≤ zs ∧ zs < 4) := hp9
    exact vx_out (fun x hx9 => (ht9 x hx9).elim) hlocks hc1 hc2 hc3 (fun t9 ht99 hv99 => ⟨(), trivial, Or.inl ⟨hB9, kR_f (by omega)⟩, (hF.go hz9 (fun q hq => hk9 q hq (fun h => h))).F ht99⟩) hS.2.2 (by decide) (by decide)
  have hp1 : 0 ≤ zs ∧ zs < 4 := hp9
  have hW := hW.kept (fun a h1 h2 => hk9 a (by have := hW.lt; omega) (fun h => h))
  have hF := hF.go hz9 (fun q hq => hk9 q hq (fun h => h))
  refine lv_iload_n hx hb dX3_length_4 rfl (lv_at hl 2 rfl) ?_
  refine vx_callv (vx_runS (As := [.int (zI zq)]) (rest := []) ⟨hx, hb, hml, hown, hts⟩ (c_X3_requireQuestion l hfl lo zq (by omega)) (va_cwS 1 hts gX3_length_X3_requireQuestion rfl rfl rfl (by decide +kernel) ⟨Nat.le_of_ble_eq_true rfl, Nat.le_of_ble_eq_true rfl⟩) ⟨x_blindS, fun U hU hW' => ⟨rfl, hT.to hS hAl hW' hU⟩⟩ rfl rfl hl.1 rfl (lv_room (Nat.le_of_ble_eq_true rfl)) dX3_length_5 ⟨Nat.le_of_ble_eq_true rfl, Nat.le_of_ble_eq_true rfl⟩) hS (fun q _ h => h.elim) (fun q h => h.elim) (fun q _ h => h.elim) (fun E ce q9 u t H1 locs1 ht hv9 hp9 hB9 hz9 hk9 hS hc1 hc2 hc3 => ?_) (fun u t H1 locs1 ht hv9 hp9 hB9 hz9 hk9 hS => ?_)
  · have hp9 : ¬ (0 ≤ zq ∧ zq < 8) := hp9
    exact vx_out (fun x hx9 => (ht9 x hx9).elim) hlocks hc1 hc2 hc3 (fun t9 ht99 hv99 => ⟨(), trivial, Or.inl ⟨hB9, kR_f (by omega)⟩, (hF.go hz9 (fun q hq => hk9 q hq (fun h => h))).F ht99⟩) hS.2.2 (by decide) (by decide)
  have hp2 : 0 ≤ zq ∧ zq < 8 := hp9
  have hW := hW.kept (fun a h1 h2 => hk9 a (by have := hW.lt; omega) (fun h => h))
  have hF := hF.go hz9 (fun q hq => hk9 q hq (fun h => h))
  obtain ⟨y, rfl⟩ : ∃ y : Nat, zs = (y : Int) := ⟨zs.toNat, by omega⟩
  obtain ⟨q, rfl⟩ : ∃ q : Nat, zq = (q : Int) := ⟨zq.toNat, by omega⟩
  refine lv_aload_n hx hb dX3_length_8 rfl (lv_at hl 0 rfl) ?_
  refine x_get (ci := 3) (C := RX3) (T := TX3) (N := 3) (own := RX3) (index := 11) (v := .ref (o + 1)) hx hb hts (by decide +kernel) hown hK hW.jr rfl 0 (by decide) (by decide +kernel) rfl rfl dX3_length_9 ?_
  refine lv_iload_n hx hb dX3_length_12 rfl (lv_at hl 2 rfl) ?_
  refine x_aaldq hx hb hK hW.qs (q) (by omega) (by omega) (by decide) dX3_length_13 ?_
  refine x_getN (ci := 1) (C := RX1) (T := TX1) (N := 2) (own := RX3) (index := 44) (v := .ref (o + 2 + 15 * q + 1)) hx hb hts (by decide +kernel) hown hK (hW.q (q := q) (by omega)) rfl 0 (by decide) nk_RX3_44 rfl rfl dX3_length_14 ?_
  refine lv_iload_n hx hb dX3_length_17 rfl (lv_at hl 1 rfl) ?_
  refine x_aaldr hx hb hK (hW.rs (q := q) (by omega)) (y) (by omega) (by omega) (by decide) dX3_length_18 ?_
  refine x_getN (ci := 2) (C := RX2) (T := TX2) (N := 3) (own := RX3) (index := 48) (v := .int (zI (bN b q y : Int))) hx hb hts (by decide +kernel) hown hK (hW.r (q := q) (s := y) (by omega) (by omega)) rfl 2 (by decide) nk_RX3_48 rfl rfl dX3_length_19 ?_
  refine W.widen (k := 8) (n := 48) (by decide) (by decide) (vx_ret ?_)
  exact W.iret hx hb hr (fun t ht _ => ⟨⟨_, (), rfl, ⟨kR_t (by omega) rfl, congrArg zI (rfl)⟩, _, ht, ⟨_, _, hW⟩⟩, hS.F ht⟩) hS.2.2 dX3_length_22
set_option maxHeartbeats 4000000 in
set_option maxRecDepth 100000 in
theorem c_X3_at (l : Launch) (hfl : l.stackTraces = false) (G : XG) (o lo : Nat) (hlo : lo ≤ o) (b : XB) (lim : Int) (dif : Nat → Int) (zs : Int) (hzs : -2147483648 ≤ zs ∧ zs < 2147483648) (zq : Int) (hzq : -2147483648 ≤ zq ∧ zq < 2147483648) (zr : Int) (hzr : -2147483648 ≤ zr ∧ zr < 2147483648) : MetPI l yX3_at wsX3_at (rmP 7 102) (TPc G o lo b lim dif [.ref o, .int (zI zs), .int (zI zq), .int (zI zr)]) (kR ((0 ≤ zs ∧ zs < 4) ∧ (0 ≤ zq ∧ zq < 8) ∧ (1 ≤ zr ∧ zr ≤ 20)) 0) (dAt b zq.toNat zs.toNat zr) (BX G o b) (xA o) := by
  refine vx_ofW (cc := cX3_at) (maxL := 4) (ret := (some .int)) (by decide) rfl ?_
  intro p e s m args below meth c s₁ B hml ht9 hv
  obtain ⟨rfl, hW, hi, hK, hT⟩ := hv
  have hx := B.exec
  have hb := B.bytes
  have hr := B.returns
  have hts := atoms_spec (ws := wsX3_at) B.pre
  have hown : s.vm.findClass RX3 = some m.cls := findClass_of_methodNamed B.named
  have hlocks := B.notSynchronized
  have hl := lv_entry ([.ref o, .int (zI zs), .int (zI zq), .int (zI zr)]) (n := 4) (Nat.le_of_ble_eq_true rfl)
  rw [lg_entry_eq]
  generalize (lg_sl ([.ref o, .int (zI zs), .int (zI zq), .int (zI zr)]) ++ List.replicate (4 - (lg_sl ([.ref o, .int (zI zs), .int (zI zq), .int (zI zr)])).length) Slot.unset).toArray = ls at hl ⊢
  have hl : lv_has ls 4 [(0, .ref o), (1, .int (zI zs)), (2, .int (zI zq)), (3, .int (zI zr))] := hl
  have hS : va_S (xA o) s.heap s.heap [] := va_S.rf
  have hF : NF s.heap s.heap := NF.rf
  have hAl : ∀ q, xA o q → lo ≤ q := fun q h => Nat.le_trans hlo h.1
  have hll := hi.l
  refine lv_iload_n hx hb dX3_at_0 rfl (lv_at hl 1 rfl) ?_
  refine vx_callv (vx_runS (As := [.int (zI zs)]) (rest := []) ⟨hx, hb, hml, hown, hts⟩ (c_X3_requireSystem l hfl lo zs (by omega)) (va_cwS 1 hts gX3_at_X3_requireSystem rfl rfl rfl (by decide +kernel) ⟨Nat.le_of_ble_eq_true rfl, Nat.le_of_ble_eq_true rfl⟩) ⟨x_blindS, fun U hU hW' => ⟨rfl, hT.to hS hAl hW' hU⟩⟩ rfl rfl hl.1 rfl (lv_room (Nat.le_of_ble_eq_true rfl)) dX3_at_1 ⟨Nat.le_of_ble_eq_true rfl, Nat.le_of_ble_eq_true rfl⟩) hS (fun q _ h => h.elim) (fun q h => h.elim) (fun q _ h => h.elim) (fun E ce q9 u t H1 locs1 ht hv9 hp9 hB9 hz9 hk9 hS hc1 hc2 hc3 => ?_) (fun u t H1 locs1 ht hv9 hp9 hB9 hz9 hk9 hS => ?_)
  · have hp9 : ¬ (0 ≤ zs ∧ zs < 4) := hp9
    exact vx_out (fun x hx9 => (ht9 x hx9).elim) hlocks hc1 hc2 hc3 (fun t9 ht99 hv99 => ⟨(), trivial, Or.inl ⟨hB9, kR_f (by omega)⟩, (hF.go hz9 (fun q hq => hk9 q hq (fun h => h))).F ht99⟩) hS.2.2 (by decide) (by decide)
  have hp1 : 0 ≤ zs ∧ zs < 4 := hp9
  have hW := hW.kept (fun a h1 h2 => hk9 a (by have := hW.lt; omega) (fun h => h))
  have hF := hF.go hz9 (fun q hq => hk9 q hq (fun h => h))
  refine lv_iload_n hx hb dX3_at_4 rfl (lv_at hl 2 rfl) ?_
  refine vx_callv (vx_runS (As := [.int (zI zq)]) (rest := []) ⟨hx, hb, hml, hown, hts⟩ (c_X3_requireQuestion l hfl lo zq (by omega)) (va_cwS 1 hts gX3_at_X3_requireQuestion rfl rfl rfl (by decide +kernel) ⟨Nat.le_of_ble_eq_true rfl, Nat.le_of_ble_eq_true rfl⟩) ⟨x_blindS, fun U hU hW' => ⟨rfl, hT.to hS hAl hW' hU⟩⟩ rfl rfl hl.1 rfl (lv_room (Nat.le_of_ble_eq_true rfl)) dX3_at_5 ⟨Nat.le_of_ble_eq_true rfl, Nat.le_of_ble_eq_true rfl⟩) hS (fun q _ h => h.elim) (fun q h => h.elim) (fun q _ h => h.elim) (fun E ce q9 u t H1 locs1 ht hv9 hp9 hB9 hz9 hk9 hS hc1 hc2 hc3 => ?_) (fun u t H1 locs1 ht hv9 hp9 hB9 hz9 hk9 hS => ?_)
  · have hp9 : ¬ (0 ≤ zq ∧ zq < 8) := hp9
    exact vx_out (fun x hx9 => (ht9 x hx9).elim) hlocks hc1 hc2 hc3 (fun t9 ht99 hv99 => ⟨(), trivial, Or.inl ⟨hB9, kR_f (by omega)⟩, (hF.go hz9 (fun q hq => hk9 q hq (fun h => h))).F ht99⟩) hS.2.2 (by decide) (by decide)
  have hp2 : 0 ≤ zq ∧ zq < 8 := hp9
  have hW := hW.kept (fun a h1 h2 => hk9 a (by have := hW.lt; omega) (fun h => h))
  have hF := hF.go hz9 (fun q hq => hk9 q hq (fun h => h))
  refine lv_iload_n hx hb dX3_at_8 rfl (lv_at hl 3 rfl) ?_
  refine vx_callv (vx_runS (As := [.int (zI zr)]) (rest := []) ⟨hx, hb, hml, hown, hts⟩ (c_X3_requireOneToTwenty l hfl lo zr (by omega)) (va_cwS 1 hts gX3_at_X3_requireOneToTwenty rfl rfl rfl (by decide +kernel) ⟨Nat.le_of_ble_eq_true rfl, Nat.le_of_ble_eq_true rfl⟩) ⟨x_blindS, fun U hU hW' => ⟨rfl, hT.to hS hAl hW' hU⟩⟩ rfl rfl hl.1 rfl (lv_room (Nat.le_of_ble_eq_true rfl)) dX3_at_9 ⟨Nat.le_of_ble_eq_true rfl, Nat.le_of_ble_eq_true rfl⟩) hS (fun q _ h => h.elim) (fun q h => h.elim) (fun q _ h => h.elim) (fun E ce q9 u t H1 locs1 ht hv9 hp9 hB9 hz9 hk9 hS hc1 hc2 hc3 => ?_) (fun u t H1 locs1 ht hv9 hp9 hB9 hz9 hk9 hS => ?_)
  · have hp9 : ¬ (1 ≤ zr ∧ zr ≤ 20) := hp9
    exact vx_out (fun x hx9 => (ht9 x hx9).elim) hlocks hc1 hc2 hc3 (fun t9 ht99 hv99 => ⟨(), trivial, Or.inl ⟨hB9, kR_f (by omega)⟩, (hF.go hz9 (fun q hq => hk9 q hq (fun h => h))).F ht99⟩) hS.2.2 (by decide) (by decide)
  have hp3 : 1 ≤ zr ∧ zr ≤ 20 := hp9
  have hW := hW.kept (fun a h1 h2 => hk9 a (by have := hW.lt; omega) (fun h => h))
  have hF := hF.go hz9 (fun q hq => hk9 q hq (fun h => h))
  obtain ⟨y, rfl⟩ : ∃ y : Nat, zs = (y : Int) := ⟨zs.toNat, by omega⟩
  obtain ⟨q, rfl⟩ : ∃ q : Nat, zq = (q : Int) := ⟨zq.toNat, by omega⟩
  refine lv_aload_n hx hb dX3_at_12 rfl (lv_at hl 0 rfl) ?_
  refine x_get (ci := 3) (C := RX3) (T := TX3) (N := 3) (own := RX3) (index := 11) (v := .ref (o + 1)) hx hb hts (by decide +kernel) hown hK hW.jr rfl 0 (by decide) (by decide +kernel) rfl rfl dX3_at_13 ?_
  refine lv_iload_n hx hb dX3_at_16 rfl (lv_at hl 2 rfl) ?_
  refine x_aaldq hx hb hK hW.qs (q) (by omega) (by omega) (by decide) dX3_at_17 ?_
  refine x_getN (ci := 1) (C := RX1) (T := TX1) (N := 2) (own := RX3) (index := 44) (v := .ref (o + 2 + 15 * q + 1)) hx hb hts (by decide +kernel) hown hK (hW.q (q := q) (by omega)) rfl 0 (by decide) nk_RX3_44 rfl rfl dX3_at_18 ?_
  refine lv_iload_n hx hb dX3_at_21 rfl (lv_at hl 1 rfl) ?_
  refine x_aaldr hx hb hK (hW.rs (q := q) (by omega)) (y) (by omega) (by omega) (by decide) dX3_at_22 ?_
  refine lv_iload_n hx hb dX3_at_23 rfl (lv_at hl 3 rfl) ?_
  refine x_cI (va_runVN (As := [.int (zI zr)]) (rest := []) ⟨hx, hb, hml, hown, hts⟩ (c_X2_documentAt l G o b lim dif q y (by omega) (by omega) zr (by omega)) ⟨va_cnB 1 hts gX3_at_X2_documentAt_n78 rfl rfl rfl (x_nestM hK nk_RX3_78) (hts (.initialized RX2) (by decide +kernel)) (by decide +kernel) ⟨Nat.le_of_ble_eq_true rfl, Nat.le_of_ble_eq_true rfl⟩, hts (.instanceMethod yX2_documentAt) (by decide +kernel), hts (.selects RX2 yX2_documentAt yX2_documentAt) (by decide +kernel)⟩ (x_preV hW hi hK (hW.r (q := q) (s := y) (by omega) (by omega)) (ci := 2) (q := (RX2, TX2, 3)) rfl) rfl rfl hl.1 rfl (lv_room (Nat.le_of_ble_eq_true rfl)) dX3_at_24 ⟨Nat.le_of_ble_eq_true rfl, Nat.le_of_ble_eq_true rfl⟩) ?_
  refine W.widen (k := 8) (n := 48) (by decide) (by decide) (vx_ret ?_)
  exact W.iret hx hb hr (fun t ht _ => ⟨⟨_, (), rfl, ⟨kR_t (by omega) rfl, congrArg zI (rfl)⟩, _, ht, ⟨_, _, hW⟩⟩, hS.F ht⟩) hS.2.2 dX3_at_27
set_option maxHeartbeats 4000000 in
set_option maxRecDepth 100000 in
theorem c_X3_judge (l : Launch) (hfl : l.stackTraces = false) (G : XG) (o lo : Nat) (hlo : lo ≤ o) (b : XB) (lim : Int) (dif : Nat → Int) (zq : Int) (hzq : -2147483648 ≤ zq ∧ zq < 2147483648) (zd : Int) (hzd : -2147483648 ≤ zd ∧ zd < 2147483648) (zj : Int) (hzj : -2147483648 ≤ zj ∧ zj < 2147483648) : MetPI l yX3_judge wsX3_judge (rmP 7 102) (TPc G o lo b lim dif [.ref o, .int (zI zq), .int (zI zd), .int (zI zj)]) (kR ((0 ≤ zq ∧ zq < 8) ∧ (0 ≤ zd ∧ zd < 40) ∧ (0 ≤ zj ∧ zj ≤ 2)) 0) (bJ b zq.toNat zd.toNat : Int) (BX G o (uJ b zq.toNat zd.toNat zj.toNat)) (xA o) := by
  refine vx_ofW (cc := cX3_judge) (maxL := 6) (ret := (some .int)) (by decide) rfl ?_
  intro p e s m args below meth c s₁ B hml ht9 hv
  obtain ⟨rfl, hW, hi, hK, hT⟩ := hv
  have hx := B.exec
  have hb := B.bytes
  have hr := B.returns
  have hts := atoms_spec (ws := wsX3_judge) B.pre
  have hown : s.vm.findClass RX3 = some m.cls := findClass_of_methodNamed B.named
  have hlocks := B.notSynchronized
  have hl := lv_entry ([.ref o, .int (zI zq), .int (zI zd), .int (zI zj)]) (n := 6) (Nat.le_of_ble_eq_true rfl)
  rw [lg_entry_eq]
  generalize (lg_sl ([.ref o, .int (zI zq), .int (zI zd), .int (zI zj)]) ++ List.replicate (6 - (lg_sl ([.ref o, .int (zI zq), .int (zI zd), .int (zI zj)])).length) Slot.unset).toArray = ls at hl ⊢
  have hl : lv_has ls 6 [(0, .ref o), (1, .int (zI zq)), (2, .int (zI zd)), (3, .int (zI zj))] := hl
  have hS : va_S (xA o) s.heap s.heap [] := va_S.rf
  have hF : NF s.heap s.heap := NF.rf
  have hAl : ∀ q, xA o q → lo ≤ q := fun q h => Nat.le_trans hlo h.1
  have hll := hi.l
  refine lv_iload_n hx hb dX3_judge_0 rfl (lv_at hl 1 rfl) ?_
  refine vx_callv (vx_runS (As := [.int (zI zq)]) (rest := []) ⟨hx, hb, hml, hown, hts⟩ (c_X3_requireQuestion l hfl lo zq (by omega)) (va_cwS 1 hts gX3_judge_X3_requireQuestion rfl rfl rfl (by decide +kernel) ⟨Nat.le_of_ble_eq_true rfl, Nat.le_of_ble_eq_true rfl⟩) ⟨x_blindS, fun U hU hW' => ⟨rfl, hT.to hS hAl hW' hU⟩⟩ rfl rfl hl.1 rfl (lv_room (Nat.le_of_ble_eq_true rfl)) dX3_judge_1 ⟨Nat.le_of_ble_eq_true rfl, Nat.le_of_ble_eq_true rfl⟩) hS (fun q _ h => h.elim) (fun q h => h.elim) (fun q _ h => h.elim) (fun E ce q9 u t H1 locs1 ht hv9 hp9 hB9 hz9 hk9 hS hc1 hc2 hc3 => ?_) (fun u t H1 locs1 ht hv9 hp9 hB9 hz9 hk9 hS => ?_)
  · have hp9 : ¬ (0 ≤ zq ∧ zq < 8) := hp9
    exact vx_out (fun x hx9 => (ht9 x hx9).elim) hlocks hc1 hc2 hc3 (fun t9 ht99 hv99 => ⟨(), trivial, Or.inl ⟨hB9, kR_f (by omega)⟩, (hF.go hz9 (fun q hq => hk9 q hq (fun h => h))).F ht99⟩) hS.2.2 (by decide) (by decide)
  have hp1 : 0 ≤ zq ∧ zq < 8 := hp9
  have hW := hW.kept (fun a h1 h2 => hk9 a (by have := hW.lt; omega) (fun h => h))
  have hF := hF.go hz9 (fun q hq => hk9 q hq (fun h => h))
  refine lv_iload_n hx hb dX3_judge_4 rfl (lv_at hl 2 rfl) ?_
  refine vx_callv (vx_runS (As := [.int (zI zd)]) (rest := []) ⟨hx, hb, hml, hown, hts⟩ (c_X3_requireDocument l hfl lo zd (by omega)) (va_cwS 1 hts gX3_judge_X3_requireDocument rfl rfl rfl (by decide +kernel) ⟨Nat.le_of_ble_eq_true rfl, Nat.le_of_ble_eq_true rfl⟩) ⟨x_blindS, fun U hU hW' => ⟨rfl, hT.to hS hAl hW' hU⟩⟩ rfl rfl hl.1 rfl (lv_room (Nat.le_of_ble_eq_true rfl)) dX3_judge_5 ⟨Nat.le_of_ble_eq_true rfl, Nat.le_of_ble_eq_true rfl⟩) hS (fun q _ h => h.elim) (fun q h => h.elim) (fun q _ h => h.elim) (fun E ce q9 u t H1 locs1 ht hv9 hp9 hB9 hz9 hk9 hS hc1 hc2 hc3 => ?_) (fun u t H1 locs1 ht hv9 hp9 hB9 hz9 hk9 hS => ?_)
  · have hp9 : ¬ (0 ≤ zd ∧ zd < 40) := hp9
    exact vx_out (fun x hx9 => (ht9 x hx9).elim) hlocks hc1 hc2 hc3 (fun t9 ht99 hv99 => ⟨(), trivial, Or.inl ⟨hB9, kR_f (by omega)⟩, (hF.go hz9 (fun q hq => hk9 q hq (fun h => h))).F ht99⟩) hS.2.2 (by decide) (by decide)
  have hp2 : 0 ≤ zd ∧ zd < 40 := hp9
  have hW := hW.kept (fun a h1 h2 => hk9 a (by have := hW.lt; omega) (fun h => h))
  have hF := hF.go hz9 (fun q hq => hk9 q hq (fun h => h))
  refine lv_iload_n hx hb dX3_judge_8 rfl (lv_at hl 3 rfl) ?_
  refine x_if_eq (tgt := 32) hx hb dX3_judge_9 (by decide) (by omega) (fun h3 => ?_) (fun h4 => ?_)
  · obtain ⟨q, rfl⟩ : ∃ q : Nat, zq = (q : Int) := ⟨zq.toNat, by omega⟩
    obtain ⟨d, rfl⟩ : ∃ d : Nat, zd = (d : Int) := ⟨zd.toNat, by omega⟩
    obtain ⟨j0, rfl⟩ : ∃ j0 : Nat, zj = (j0 : Int) := ⟨zj.toNat, by omega⟩
    refine lv_aload_n hx hb dX3_judge_32 rfl (lv_at hl 0 rfl) ?_
    refine x_get (ci := 3) (C := RX3) (T := TX3) (N := 3) (own := RX3) (index := 11) (v := .ref (o + 1)) hx hb hts (by decide +kernel) hown hK hW.jr rfl 0 (by decide) (by decide +kernel) rfl rfl dX3_judge_33 ?_
    refine lv_iload_n hx hb dX3_judge_36 rfl (lv_at hl 1 rfl) ?_
    refine x_aaldq hx hb hK hW.qs (q) (by omega) (by omega) (by decide) dX3_judge_37 ?_
    refine x_getN (ci := 1) (C := RX1) (T := TX1) (N := 2) (own := RX3) (index := 83) (v := .ref (o + 2 + 15 * q + 14)) hx hb hts (by decide +kernel) hown hK (hW.q (q := q) (by omega)) rfl 1 (by decide) nk_RX3_83 rfl rfl dX3_judge_38 ?_
    refine lv_astore (lv' := [(4, .ref (o + 2 + 15 * q + 14)), (0, .ref o), (1, .int (zI (q : Int))), (2, .int (zI (d : Int))), (3, .int (zI (j0 : Int)))]) hx hb dX3_judge_41 hl (by decide) rfl (fun ls hl => ?_)
    refine lv_aload hx hb dX3_judge_43 (lv_at hl 0 rfl) ?_
    refine lv_iload_n hx hb dX3_judge_45 rfl (lv_at hl 3 rfl) ?_
    refine x_iald hx hb hK (hW.ju (q := q) (by omega)) (d) (by omega) (by omega) (by decide) dX3_judge_46 ?_
    have hv5 := hi.j q (d)
    refine lv_istore (lv' := [(5, .int (zI (bJ b q d : Int))), (4, .ref (o + 2 + 15 * q + 14)), (0, .ref o), (1, .int (zI (q : Int))), (2, .int (zI (d : Int))), (3, .int (zI (j0 : Int)))]) hx hb dX3_judge_47 hl (by decide) rfl (fun ls hl => ?_)
    refine lv_aload hx hb dX3_judge_49 (lv_at hl 1 rfl) ?_
    refine lv_iload_n hx hb dX3_judge_51 rfl (lv_at hl 4 rfl) ?_
    refine lv_iload_n hx hb dX3_judge_52 rfl (lv_at hl 5 rfl) ?_
    refine x_iast hx hb hK (hW.ju (q := q) (by omega)) hS ⟨by omega, by omega⟩ (d) (by omega) (by omega) (by decide) dX3_judge_53 (fun H1 locs1 h1 hz1 hn1 hS => ?_)
    have hW := hW.putJU (q := q) (k := d) (v := j0) (by omega) (by omega) h1 hn1
    refine lv_iload hx hb dX3_judge_54 (lv_at hl 0 rfl) ?_
    refine W.widen (k := 8) (n := 48) (by decide) (by decide) (vx_ret ?_)
    exact W.iret hx hb hr (fun t ht _ => ⟨⟨_, (), rfl, ⟨kR_t (by omega) rfl, congrArg zI (rfl)⟩, _, ht, ⟨_, _, hW⟩⟩, hS.F ht⟩) hS.2.2 dX3_judge_56
  · refine lv_iload_n hx hb dX3_judge_12 rfl (lv_at hl 3 rfl) ?_
    refine x_iconst hx hb dX3_judge_13 ?_
    refine x_icmp_eq (tgt := 32) hx hb dX3_judge_14 (by decide) (by omega) (fun h6 => ?_) (fun h7 => ?_)
    · obtain ⟨q, rfl⟩ : ∃ q : Nat, zq = (q : Int) := ⟨zq.toNat, by omega⟩
      obtain ⟨d, rfl⟩ : ∃ d : Nat, zd = (d : Int) := ⟨zd.toNat, by omega⟩
      obtain ⟨j0, rfl⟩ : ∃ j0 : Nat, zj = (j0 : Int) := ⟨zj.toNat, by omega⟩
      refine lv_aload_n hx hb dX3_judge_32 rfl (lv_at hl 0 rfl) ?_
      refine x_get (ci := 3) (C := RX3) (T := TX3) (N := 3) (own := RX3) (index := 11) (v := .ref (o + 1)) hx hb hts (by decide +kernel) hown hK hW.jr rfl 0 (by decide) (by decide +kernel) rfl rfl dX3_judge_33 ?_
      refine lv_iload_n hx hb dX3_judge_36 rfl (lv_at hl 1 rfl) ?_
      refine x_aaldq hx hb hK hW.qs (q) (by omega) (by omega) (by decide) dX3_judge_37 ?_
      refine x_getN (ci := 1) (C := RX1) (T := TX1) (N := 2) (own := RX3) (index := 83) (v := .ref (o + 2 + 15 * q + 14)) hx hb hts (by decide +kernel) hown hK (hW.q (q := q) (by omega)) rfl 1 (by decide) nk_RX3_83 rfl rfl dX3_judge_38 ?_
      refine lv_astore (lv' := [(4, .ref (o + 2 + 15 * q + 14)), (0, .ref o), (1, .int (zI (q : Int))), (2, .int (zI (d : Int))), (3, .int (zI (j0 : Int)))]) hx hb dX3_judge_41 hl (by decide) rfl (fun ls hl => ?_)
      refine lv_aload hx hb dX3_judge_43 (lv_at hl 0 rfl) ?_
      refine lv_iload_n hx hb dX3_judge_45 rfl (lv_at hl 3 rfl) ?_
      refine x_iald hx hb hK (hW.ju (q := q) (by omega)) (d) (by omega) (by omega) (by decide) dX3_judge_46 ?_
      have hv8 := hi.j q (d)
      refine lv_istore (lv' := [(5, .int (zI (bJ b q d : Int))), (4, .ref (o + 2 + 15 * q + 14)), (0, .ref o), (1, .int (zI (q : Int))), (2, .int (zI (d : Int))), (3, .int (zI (j0 : Int)))]) hx hb dX3_judge_47 hl (by decide) rfl (fun ls hl => ?_)
      refine lv_aload hx hb dX3_judge_49 (lv_at hl 1 rfl) ?_
      refine lv_iload_n hx hb dX3_judge_51 rfl (lv_at hl 4 rfl) ?_
      refine lv_iload_n hx hb dX3_judge_52 rfl (lv_at hl 5 rfl) ?_
      refine x_iast hx hb hK (hW.ju (q := q) (by omega)) hS ⟨by omega, by omega⟩ (d) (by omega) (by omega) (by decide) dX3_judge_53 (fun H1 locs1 h1 hz1 hn1 hS => ?_)
      have hW := hW.putJU (q := q) (k := d) (v := j0) (by omega) (by omega) h1 hn1
      refine lv_iload hx hb dX3_judge_54 (lv_at hl 0 rfl) ?_
      refine W.widen (k := 8) (n := 48) (by decide) (by decide) (vx_ret ?_)
      exact W.iret hx hb hr (fun t ht _ => ⟨⟨_, (), rfl, ⟨kR_t (by omega) rfl, congrArg zI (rfl)⟩, _, ht, ⟨_, _, hW⟩⟩, hS.F ht⟩) hS.2.2 dX3_judge_56
    · refine lv_iload_n hx hb dX3_judge_17 rfl (lv_at hl 3 rfl) ?_
      refine x_iconst hx hb dX3_judge_18 ?_
      refine x_icmp_eq (tgt := 32) hx hb dX3_judge_19 (by decide) (by omega) (fun h9 => ?_) (fun h10 => ?_)
      · obtain ⟨q, rfl⟩ : ∃ q : Nat, zq = (q : Int) := ⟨zq.toNat, by omega⟩
        obtain ⟨d, rfl⟩ : ∃ d : Nat, zd = (d : Int) := ⟨zd.toNat, by omega⟩
        obtain ⟨j0, rfl⟩ : ∃ j0 : Nat, zj = (j0 : Int) := ⟨zj.toNat, by omega⟩
        refine lv_aload_n hx hb dX3_judge_32 rfl (lv_at hl 0 rfl) ?_
        refine x_get (ci := 3) (C := RX3) (T := TX3) (N := 3) (own := RX3) (index := 11) (v := .ref (o + 1)) hx hb hts (by decide +kernel) hown hK hW.jr rfl 0 (by decide) (by decide +kernel) rfl rfl dX3_judge_33 ?_
        refine lv_iload_n hx hb dX3_judge_36 rfl (lv_at hl 1 rfl) ?_
        refine x_aaldq hx hb hK hW.qs (q) (by omega) (by omega) (by decide) dX3_judge_37 ?_
        refine x_getN (ci := 1) (C := RX1) (T := TX1) (N := 2) (own := RX3) (index := 83) (v := .ref (o + 2 + 15 * q + 14)) hx hb hts (by decide +kernel) hown hK (hW.q (q := q) (by omega)) rfl 1 (by decide) nk_RX3_83 rfl rfl dX3_judge_38 ?_
        refine lv_astore (lv' := [(4, .ref (o + 2 + 15 * q + 14)), (0, .ref o), (1, .int (zI (q : Int))), (2, .int (zI (d : Int))), (3, .int (zI (j0 : Int)))]) hx hb dX3_judge_41 hl (by decide) rfl (fun ls hl => ?_)
        refine lv_aload hx hb dX3_judge_43 (lv_at hl 0 rfl) ?_
        refine lv_iload_n hx hb dX3_judge_45 rfl (lv_at hl 3 rfl) ?_
        refine x_iald hx hb hK (hW.ju (q := q) (by omega)) (d) (by omega) (by omega) (by decide) dX3_judge_46 ?_
        have hv11 := hi.j q (d)
        refine lv_istore (lv' := [(5, .int (zI (bJ b q d : Int))), (4, .ref (o + 2 + 15 * q + 14)), (0, .ref o), (1, .int (zI (q : Int))), (2, .int (zI (d : Int))), (3, .int (zI (j0 : Int)))]) hx hb dX3_judge_47 hl (by decide) rfl (fun ls hl => ?_)
        refine lv_aload hx hb dX3_judge_49 (lv_at hl 1 rfl) ?_
        refine lv_iload_n hx hb dX3_judge_51 rfl (lv_at hl 4 rfl) ?_
        refine lv_iload_n hx hb dX3_judge_52 rfl (lv_at hl 5 rfl) ?_
        refine x_iast hx hb hK (hW.ju (q := q) (by omega)) hS ⟨by omega, by omega⟩ (d) (by omega) (by omega) (by decide) dX3_judge_53 (fun H1 locs1 h1 hz1 hn1 hS => ?_)
        have hW := hW.putJU (q := q) (k := d) (v := j0) (by omega) (by omega) h1 hn1
        refine lv_iload hx hb dX3_judge_54 (lv_at hl 0 rfl) ?_
        refine W.widen (k := 8) (n := 48) (by decide) (by decide) (vx_ret ?_)
        exact W.iret hx hb hr (fun t ht _ => ⟨⟨_, (), rfl, ⟨kR_t (by omega) rfl, congrArg zI (rfl)⟩, _, ht, ⟨_, _, hW⟩⟩, hS.F ht⟩) hS.2.2 dX3_judge_56
      · exact x_thrI (Ts := wsX3_judge) (lo := lo) (is := 81) (text := "judgement is none of the three constants") (rest := []) hx hb hfl hml hl hown hts (by decide +kernel) (by decide +kernel) (fun w hw => by exact List.mem_cons_of_mem _ (List.mem_append_right _ hw)) hT (List.mem_of_getElem? (i := 8) rfl) hS hAl dX3_judge_22 dX3_judge_25 dX3_judge_26 dX3_judge_28 dX3_judge_31 ht9 ⟨by decide, by decide, by decide, by decide⟩ hlocks (fun t ha hz hk => ⟨(), trivial, Or.inl ⟨rfl, kR_f (by omega)⟩, (hF.go hz hk).F rfl⟩) hS.2.2 (by decide) (by decide)
set_option maxHeartbeats 4000000 in
set_option maxRecDepth 100000 in
theorem c_X3_pool (l : Launch) (hfl : l.stackTraces = false) (G : XG) (o lo : Nat) (hlo : lo ≤ o) (b : XB) (lim : Int) (dif : Nat → Int) (zq : Int) (hzq : -2147483648 ≤ zq ∧ zq < 2147483648) (zr : Int) (hzr : -2147483648 ≤ zr ∧ zr < 2147483648) : MetPI l yX3_pool wsX3_pool (rmP 7 102) (TPc G o lo b lim dif [.ref o, .int (zI zq), .int (zI zr)]) (kR ((0 ≤ zq ∧ zq < 8) ∧ (1 ≤ zr ∧ zr ≤ 20)) 0) (poolN b zq.toNat zr : Int) (BX G o b) (xA o) := by
  refine vx_ofW (cc := cX3_pool) (maxL := 3) (ret := (some .int)) (by decide) rfl ?_
  intro p e s m args below meth c s₁ B hml ht9 hv
  obtain ⟨rfl, hW, hi, hK, hT⟩ := hv
  have hx := B.exec
  have hb := B.bytes
  have hr := B.returns
  have hts := atoms_spec (ws := wsX3_pool) B.pre
  have hown : s.vm.findClass RX3 = some m.cls := findClass_of_methodNamed B.named
  have hlocks := B.notSynchronized
  have hl := lv_entry ([.ref o, .int (zI zq), .int (zI zr)]) (n := 3) (Nat.le_of_ble_eq_true rfl)
  rw [lg_entry_eq]
  generalize (lg_sl ([.ref o, .int (zI zq), .int (zI zr)]) ++ List.replicate (3 - (lg_sl ([.ref o, .int (zI zq), .int (zI zr)])).length) Slot.unset).toArray = ls at hl ⊢
  have hl : lv_has ls 3 [(0, .ref o), (1, .int (zI zq)), (2, .int (zI zr))] := hl
  have hS : va_S (xA o) s.heap s.heap [] := va_S.rf
  have hF : NF s.heap s.heap := NF.rf
  have hAl : ∀ q, xA o q → lo ≤ q := fun q h => Nat.le_trans hlo h.1
  have hll := hi.l
  refine lv_iload_n hx hb dX3_pool_0 rfl (lv_at hl 1 rfl) ?_
  refine vx_callv (vx_runS (As := [.int (zI zq)]) (rest := []) ⟨hx, hb, hml, hown, hts⟩ (c_X3_requireQuestion l hfl lo zq (by omega)) (va_cwS 1 hts gX3_pool_X3_requireQuestion rfl rfl rfl (by decide +kernel) ⟨Nat.le_of_ble_eq_true rfl, Nat.le_of_ble_eq_true rfl⟩) ⟨x_blindS, fun U hU hW' => ⟨rfl, hT.to hS hAl hW' hU⟩⟩ rfl rfl hl.1 rfl (lv_room (Nat.le_of_ble_eq_true rfl)) dX3_pool_1 ⟨Nat.le_of_ble_eq_true rfl, Nat.le_of_ble_eq_true rfl⟩) hS (fun q _ h => h.elim) (fun q h => h.elim) (fun q _ h => h.elim) (fun E ce q9 u t H1 locs1 ht hv9 hp9 hB9 hz9 hk9 hS hc1 hc2 hc3 => ?_) (fun u t H1 locs1 ht hv9 hp9 hB9 hz9 hk9 hS => ?_)
  · have hp9 : ¬ (0 ≤ zq ∧ zq < 8) := hp9
    exact vx_out (fun x hx9 => (ht9 x hx9).elim) hlocks hc1 hc2 hc3 (fun t9 ht99 hv99 => ⟨(), trivial, Or.inl ⟨hB9, kR_f (by omega)⟩, (hF.go hz9 (fun q hq => hk9 q hq (fun h => h))).F ht99⟩) hS.2.2 (by decide) (by decide)
  have hp1 : 0 ≤ zq ∧ zq < 8 := hp9
  have hW := hW.kept (fun a h1 h2 => hk9 a (by have := hW.lt; omega) (fun h => h))
  have hF := hF.go hz9 (fun q hq => hk9 q hq (fun h => h))
  refine lv_iload_n hx hb dX3_pool_4 rfl (lv_at hl 2 rfl) ?_
  refine vx_callv (vx_runS (As := [.int (zI zr)]) (rest := []) ⟨hx, hb, hml, hown, hts⟩ (c_X3_requireOneToTwenty l hfl lo zr (by omega)) (va_cwS 1 hts gX3_pool_X3_requireOneToTwenty rfl rfl rfl (by decide +kernel) ⟨Nat.le_of_ble_eq_true rfl, Nat.le_of_ble_eq_true rfl⟩) ⟨x_blindS, fun U hU hW' => ⟨rfl, hT.to hS hAl hW' hU⟩⟩ rfl rfl hl.1 rfl (lv_room (Nat.le_of_ble_eq_true rfl)) dX3_pool_5 ⟨Nat.le_of_ble_eq_true rfl, Nat.le_of_ble_eq_true rfl⟩) hS (fun q _ h => h.elim) (fun q h => h.elim) (fun q _ h => h.elim) (fun E ce q9 u t H1 locs1 ht hv9 hp9 hB9 hz9 hk9 hS hc1 hc2 hc3 => ?_) (fun u t H1 locs1 ht hv9 hp9 hB9 hz9 hk9 hS => ?_)
  · have hp9 : ¬ (1 ≤ zr ∧ zr ≤ 20) := hp9
    exact vx_out (fun x hx9 => (ht9 x hx9).elim) hlocks hc1 hc2 hc3 (fun t9 ht99 hv99 => ⟨(), trivial, Or.inl ⟨hB9, kR_f (by omega)⟩, (hF.go hz9 (fun q hq => hk9 q hq (fun h => h))).F ht99⟩) hS.2.2 (by decide) (by decide)
  have hp2 : 1 ≤ zr ∧ zr ≤ 20 := hp9
  have hW := hW.kept (fun a h1 h2 => hk9 a (by have := hW.lt; omega) (fun h => h))
  have hF := hF.go hz9 (fun q hq => hk9 q hq (fun h => h))
  obtain ⟨q, rfl⟩ : ∃ q : Nat, zq = (q : Int) := ⟨zq.toNat, by omega⟩
  refine lv_aload_n hx hb dX3_pool_8 rfl (lv_at hl 0 rfl) ?_
  refine x_get (ci := 3) (C := RX3) (T := TX3) (N := 3) (own := RX3) (index := 11) (v := .ref (o + 1)) hx hb hts (by decide +kernel) hown hK hW.jr rfl 0 (by decide) (by decide +kernel) rfl rfl dX3_pool_9 ?_
  refine lv_iload_n hx hb dX3_pool_12 rfl (lv_at hl 1 rfl) ?_
  refine x_aaldq hx hb hK hW.qs (q) (by omega) (by omega) (by decide) dX3_pool_13 ?_
  refine lv_iload_n hx hb dX3_pool_14 rfl (lv_at hl 2 rfl) ?_
  refine x_cI (va_runVN (As := [.int (zI zr)]) (rest := []) ⟨hx, hb, hml, hown, hts⟩ (c_X1_poolSize l G o b lim dif q (by omega) zr (by omega)) ⟨va_cnB 1 hts gX3_pool_X1_poolSize_n86 rfl rfl rfl (x_nestM hK nk_RX3_86) (hts (.initialized RX1) (by decide +kernel)) (by decide +kernel) ⟨Nat.le_of_ble_eq_true rfl, Nat.le_of_ble_eq_true rfl⟩, hts (.instanceMethod yX1_poolSize) (by decide +kernel), hts (.selects RX1 yX1_poolSize yX1_poolSize) (by decide +kernel)⟩ (x_preV hW hi hK (hW.q (q := q) (by omega)) (ci := 1) (q := (RX1, TX1, 2)) rfl) rfl rfl hl.1 rfl (lv_room (Nat.le_of_ble_eq_true rfl)) dX3_pool_15 ⟨Nat.le_of_ble_eq_true rfl, Nat.le_of_ble_eq_true rfl⟩) ?_
  refine W.widen (k := 8) (n := 48) (by decide) (by decide) (vx_ret ?_)
  exact W.iret hx hb hr (fun t ht _ => ⟨⟨_, (), rfl, ⟨kR_t (by omega) rfl, congrArg zI (rfl)⟩, _, ht, ⟨_, _, hW⟩⟩, hS.F ht⟩) hS.2.2 dX3_pool_18
set_option maxHeartbeats 4000000 in
set_option maxRecDepth 100000 in
theorem c_X3_toJudge (l : Launch) (hfl : l.stackTraces = false) (G : XG) (o lo : Nat) (hlo : lo ≤ o) (b : XB) (lim : Int) (dif : Nat → Int) (zq : Int) (hzq : -2147483648 ≤ zq ∧ zq < 2147483648) (zr : Int) (hzr : -2147483648 ≤ zr ∧ zr < 2147483648) : MetPI l yX3_toJudge wsX3_toJudge (rmP 7 102) (TPc G o lo b lim dif [.ref o, .int (zI zq), .int (zI zr)]) (kR ((0 ≤ zq ∧ zq < 8) ∧ (1 ≤ zr ∧ zr ≤ 20)) 0) (fuZ b zq.toNat zr) (BX G o b) (xA o) := by
  refine vx_ofW (cc := cX3_toJudge) (maxL := 3) (ret := (some .int)) (by decide) rfl ?_
  intro p e s m args below meth c s₁ B hml ht9 hv
  obtain ⟨rfl, hW, hi, hK, hT⟩ := hv
  have hx := B.exec
  have hb := B.bytes
  have hr := B.returns
  have hts := atoms_spec (ws := wsX3_toJudge) B.pre
  have hown : s.vm.findClass RX3 = some m.cls := findClass_of_methodNamed B.named
  have hlocks := B.notSynchronized
  have hl := lv_entry ([.ref o, .int (zI zq), .int (zI zr)]) (n := 3) (Nat.le_of_ble_eq_true rfl)
  rw [lg_entry_eq]
  generalize (lg_sl ([.ref o, .int (zI zq), .int (zI zr)]) ++ List.replicate (3 - (lg_sl ([.ref o, .int (zI zq), .int (zI zr)])).length) Slot.unset).toArray = ls at hl ⊢
  have hl : lv_has ls 3 [(0, .ref o), (1, .int (zI zq)), (2, .int (zI zr))] := hl
  have hS : va_S (xA o) s.heap s.heap [] := va_S.rf
  have hF : NF s.heap s.heap := NF.rf
  have hAl : ∀ q, xA o q → lo ≤ q := fun q h => Nat.le_trans hlo h.1
  have hll := hi.l
  refine lv_iload_n hx hb dX3_toJudge_0 rfl (lv_at hl 1 rfl) ?_
  refine vx_callv (vx_runS (As := [.int (zI zq)]) (rest := []) ⟨hx, hb, hml, hown, hts⟩ (c_X3_requireQuestion l hfl lo zq (by omega)) (va_cwS 1 hts gX3_toJudge_X3_requireQuestion rfl rfl rfl (by decide +kernel) ⟨Nat.le_of_ble_eq_true rfl, Nat.le_of_ble_eq_true rfl⟩) ⟨x_blindS, fun U hU hW' => ⟨rfl, hT.to hS hAl hW' hU⟩⟩ rfl rfl hl.1 rfl (lv_room (Nat.le_of_ble_eq_true rfl)) dX3_toJudge_1 ⟨Nat.le_of_ble_eq_true rfl, Nat.le_of_ble_eq_true rfl⟩) hS (fun q _ h => h.elim) (fun q h => h.elim) (fun q _ h => h.elim) (fun E ce q9 u t H1 locs1 ht hv9 hp9 hB9 hz9 hk9 hS hc1 hc2 hc3 => ?_) (fun u t H1 locs1 ht hv9 hp9 hB9 hz9 hk9 hS => ?_)
  · have hp9 : ¬ (0 ≤ zq ∧ zq < 8) := hp9
    exact vx_out (fun x hx9 => (ht9 x hx9).elim) hlocks hc1 hc2 hc3 (fun t9 ht99 hv99 => ⟨(), trivial, Or.inl ⟨hB9, kR_f (by omega)⟩, (hF.go hz9 (fun q hq => hk9 q hq (fun h => h))).F ht99⟩) hS.2.2 (by decide) (by decide)
  have hp1 : 0 ≤ zq ∧ zq < 8 := hp9
  have hW := hW.kept (fun a h1 h2 => hk9 a (by have := hW.lt; omega) (fun h => h))
  have hF := hF.go hz9 (fun q hq => hk9 q hq (fun h => h))
  refine lv_iload_n hx hb dX3_toJudge_4 rfl (lv_at hl 2 rfl) ?_
  refine vx_callv (vx_runS (As := [.int (zI zr)]) (rest := []) ⟨hx, hb, hml, hown, hts⟩ (c_X3_requireOneToTwenty l hfl lo zr (by omega)) (va_cwS 1 hts gX3_toJudge_X3_requireOneToTwenty rfl rfl rfl (by decide +kernel) ⟨Nat.le_of_ble_eq_true rfl, Nat.le_of_ble_eq_true rfl⟩) ⟨x_blindS, fun U hU hW' => ⟨rfl, hT.to hS hAl hW' hU⟩⟩ rfl rfl hl.1 rfl (lv_room (Nat.le_of_ble_eq_true rfl)) dX3_toJudge_5 ⟨Nat.le_of_ble_eq_true rfl, Nat.le_of_ble_eq_true rfl⟩) hS (fun q _ h => h.elim) (fun q h => h.elim) (fun q _ h => h.elim) (fun E ce q9 u t H1 locs1 ht hv9 hp9 hB9 hz9 hk9 hS hc1 hc2 hc3 => ?_) (fun u t H1 locs1 ht hv9 hp9 hB9 hz9 hk9 hS => ?_)
  · have hp9 : ¬ (1 ≤ zr ∧ zr ≤ 20) := hp9
    exact vx_out (fun x hx9 => (ht9 x hx9).elim) hlocks hc1 hc2 hc3 (fun t9 ht99 hv99 => ⟨(), trivial, Or.inl ⟨hB9, kR_f (by omega)⟩, (hF.go hz9 (fun q hq => hk9 q hq (fun h => h))).F ht99⟩) hS.2.2 (by decide) (by decide)
  have hp2 : 1 ≤ zr ∧ zr ≤ 20 := hp9
  have hW := hW.kept (fun a h1 h2 => hk9 a (by have := hW.lt; omega) (fun h => h))
  have hF := hF.go hz9 (fun q hq => hk9 q hq (fun h => h))
  obtain ⟨q, rfl⟩ : ∃ q : Nat, zq = (q : Int) := ⟨zq.toNat, by omega⟩
  refine lv_aload_n hx hb dX3_toJudge_8 rfl (lv_at hl 0 rfl) ?_
  refine x_get (ci := 3) (C := RX3) (T := TX3) (N := 3) (own := RX3) (index := 11) (v := .ref (o + 1)) hx hb hts (by decide +kernel) hown hK hW.jr rfl 0 (by decide) (by decide +kernel) rfl rfl dX3_toJudge_9 ?_
  refine lv_iload_n hx hb dX3_toJudge_12 rfl (lv_at hl 1 rfl) ?_
  refine x_aaldq hx hb hK hW.qs (q) (by omega) (by omega) (by decide) dX3_toJudge_13 ?_
  refine lv_iload_n hx hb dX3_toJudge_14 rfl (lv_at hl 2 rfl) ?_
  refine x_cI (va_runVN (As := [.int (zI zr)]) (rest := []) ⟨hx, hb, hml, hown, hts⟩ (c_X1_firstUnjudged l G o b lim dif q (by omega) zr (by omega)) ⟨va_cnB 1 hts gX3_toJudge_X1_firstUnjudged_n89 rfl rfl rfl (x_nestM hK nk_RX3_89) (hts (.initialized RX1) (by decide +kernel)) (by decide +kernel) ⟨Nat.le_of_ble_eq_true rfl, Nat.le_of_ble_eq_true rfl⟩, hts (.instanceMethod yX1_firstUnjudged) (by decide +kernel), hts (.selects RX1 yX1_firstUnjudged yX1_firstUnjudged) (by decide +kernel)⟩ (x_preV hW hi hK (hW.q (q := q) (by omega)) (ci := 1) (q := (RX1, TX1, 2)) rfl) rfl rfl hl.1 rfl (lv_room (Nat.le_of_ble_eq_true rfl)) dX3_toJudge_15 ⟨Nat.le_of_ble_eq_true rfl, Nat.le_of_ble_eq_true rfl⟩) ?_
  refine W.widen (k := 8) (n := 48) (by decide) (by decide) (vx_ret ?_)
  exact W.iret hx hb hr (fun t ht _ => ⟨⟨_, (), rfl, ⟨kR_t (by omega) rfl, congrArg zI (rfl)⟩, _, ht, ⟨_, _, hW⟩⟩, hS.F ht⟩) hS.2.2 dX3_toJudge_18
set_option maxHeartbeats 4000000 in
set_option maxRecDepth 100000 in
theorem c_X3_hits (l : Launch) (hfl : l.stackTraces = false) (G : XG) (o lo : Nat) (hlo : lo ≤ o) (b : XB) (lim : Int) (dif : Nat → Int) (zs : Int) (hzs : -2147483648 ≤ zs ∧ zs < 2147483648) (zq : Int) (hzq : -2147483648 ≤ zq ∧ zq < 2147483648) (zr : Int) (hzr : -2147483648 ≤ zr ∧ zr < 2147483648) : MetPI l yX3_hits wsX3_hits (rmP 7 102) (TPc G o lo b lim dif [.ref o, .int (zI zs), .int (zI zq), .int (zI zr)]) (kR ((0 ≤ zs ∧ zs < 4) ∧ (0 ≤ zq ∧ zq < 8) ∧ (1 ≤ zr ∧ zr ≤ 20)) 0) (relN b zq.toNat zs.toNat 0 zr.toNat : Int) (BX G o b) (xA o) := by
  refine vx_ofW (cc := cX3_hits) (maxL := 4) (ret := (some .int)) (by decide) rfl ?_
  intro p e s m args below meth c s₁ B hml ht9 hv
  obtain ⟨rfl, hW, hi, hK, hT⟩ := hv
  have hx := B.exec
  have hb := B.bytes
  have hr := B.returns
  have hts := atoms_spec (ws := wsX3_hits) B.pre
  have hown : s.vm.findClass RX3 = some m.cls := findClass_of_methodNamed B.named
  have hlocks := B.notSynchronized
  have hl := lv_entry ([.ref o, .int (zI zs), .int (zI zq), .int (zI zr)]) (n := 4) (Nat.le_of_ble_eq_true rfl)
  rw [lg_entry_eq]
  generalize (lg_sl ([.ref o, .int (zI zs), .int (zI zq), .int (zI zr)]) ++ List.replicate (4 - (lg_sl ([.ref o, .int (zI zs), .int (zI zq), .int (zI zr)])).length) Slot.unset).toArray = ls at hl ⊢
  have hl : lv_has ls 4 [(0, .ref o), (1, .int (zI zs)), (2, .int (zI zq)), (3, .int (zI zr))] := hl
  have hS : va_S (xA o) s.heap s.heap [] := va_S.rf
  have hF : NF s.heap s.heap := NF.rf
  have hAl : ∀ q, xA o q → lo ≤ q := fun q h => Nat.le_trans hlo h.1
  have hll := hi.l
  refine lv_iload_n hx hb dX3_hits_0 rfl (lv_at hl 1 rfl) ?_
  refine vx_callv (vx_runS (As := [.int (zI zs)]) (rest := []) ⟨hx, hb, hml, hown, hts⟩ (c_X3_requireSystem l hfl lo zs (by omega)) (va_cwS 1 hts gX3_hits_X3_requireSystem rfl rfl rfl (by decide +kernel) ⟨Nat.le_of_ble_eq_true rfl, Nat.le_of_ble_eq_true rfl⟩) ⟨x_blindS, fun U hU hW' => ⟨rfl, hT.to hS hAl hW' hU⟩⟩ rfl rfl hl.1 rfl (lv_room (Nat.le_of_ble_eq_true rfl)) dX3_hits_1 ⟨Nat.le_of_ble_eq_true rfl, Nat.le_of_ble_eq_true rfl⟩) hS (fun q _ h => h.elim) (fun q h => h.elim) (fun q _ h => h.elim) (fun E ce q9 u t H1 locs1 ht hv9 hp9 hB9 hz9 hk9 hS hc1 hc2 hc3 => ?_) (fun u t H1 locs1 ht hv9 hp9 hB9 hz9 hk9 hS => ?_)
  · have hp9 : ¬ (0 ≤ zs ∧ zs < 4) := hp9
    exact vx_out (fun x hx9 => (ht9 x hx9).elim) hlocks hc1 hc2 hc3 (fun t9 ht99 hv99 => ⟨(), trivial, Or.inl ⟨hB9, kR_f (by omega)⟩, (hF.go hz9 (fun q hq => hk9 q hq (fun h => h))).F ht99⟩) hS.2.2 (by decide) (by decide)
  have hp1 : 0 ≤ zs ∧ zs < 4 := hp9
  have hW := hW.kept (fun a h1 h2 => hk9 a (by have := hW.lt; omega) (fun h => h))
  have hF := hF.go hz9 (fun q hq => hk9 q hq (fun h => h))
  refine lv_iload_n hx hb dX3_hits_4 rfl (lv_at hl 2 rfl) ?_
  refine vx_callv (vx_runS (As := [.int (zI zq)]) (rest := []) ⟨hx, hb, hml, hown, hts⟩ (c_X3_requireQuestion l hfl lo zq (by omega)) (va_cwS 1 hts gX3_hits_X3_requireQuestion rfl rfl rfl (by decide +kernel) ⟨Nat.le_of_ble_eq_true rfl, Nat.le_of_ble_eq_true rfl⟩) ⟨x_blindS, fun U hU hW' => ⟨rfl, hT.to hS hAl hW' hU⟩⟩ rfl rfl hl.1 rfl (lv_room (Nat.le_of_ble_eq_true rfl)) dX3_hits_5 ⟨Nat.le_of_ble_eq_true rfl, Nat.le_of_ble_eq_true rfl⟩) hS (fun q _ h => h.elim) (fun q h => h.elim) (fun q _ h => h.elim) (fun E ce q9 u t H1 locs1 ht hv9 hp9 hB9 hz9 hk9 hS hc1 hc2 hc3 => ?_) (fun u t H1 locs1 ht hv9 hp9 hB9 hz9 hk9 hS => ?_)
  · have hp9 : ¬ (0 ≤ zq ∧ zq < 8) := hp9
    exact vx_out (fun x hx9 => (ht9 x hx9).elim) hlocks hc1 hc2 hc3 (fun t9 ht99 hv99 => ⟨(), trivial, Or.inl ⟨hB9, kR_f (by omega)⟩, (hF.go hz9 (fun q hq => hk9 q hq (fun h => h))).F ht99⟩) hS.2.2 (by decide) (by decide)
  have hp2 : 0 ≤ zq ∧ zq < 8 := hp9
  have hW := hW.kept (fun a h1 h2 => hk9 a (by have := hW.lt; omega) (fun h => h))
  have hF := hF.go hz9 (fun q hq => hk9 q hq (fun h => h))
  refine lv_iload_n hx hb dX3_hits_8 rfl (lv_at hl 3 rfl) ?_
  refine vx_callv (vx_runS (As := [.int (zI zr)]) (rest := []) ⟨hx, hb, hml, hown, hts⟩ (c_X3_requireOneToTwenty l hfl lo zr (by omega)) (va_cwS 1 hts gX3_hits_X3_requireOneToTwenty rfl rfl rfl (by decide +kernel) ⟨Nat.le_of_ble_eq_true rfl, Nat.le_of_ble_eq_true rfl⟩) ⟨x_blindS, fun U hU hW' => ⟨rfl, hT.to hS hAl hW' hU⟩⟩ rfl rfl hl.1 rfl (lv_room (Nat.le_of_ble_eq_true rfl)) dX3_hits_9 ⟨Nat.le_of_ble_eq_true rfl, Nat.le_of_ble_eq_true rfl⟩) hS (fun q _ h => h.elim) (fun q h => h.elim) (fun q _ h => h.elim) (fun E ce q9 u t H1 locs1 ht hv9 hp9 hB9 hz9 hk9 hS hc1 hc2 hc3 => ?_) (fun u t H1 locs1 ht hv9 hp9 hB9 hz9 hk9 hS => ?_)
  · have hp9 : ¬ (1 ≤ zr ∧ zr ≤ 20) := hp9
    exact vx_out (fun x hx9 => (ht9 x hx9).elim) hlocks hc1 hc2 hc3 (fun t9 ht99 hv99 => ⟨(), trivial, Or.inl ⟨hB9, kR_f (by omega)⟩, (hF.go hz9 (fun q hq => hk9 q hq (fun h => h))).F ht99⟩) hS.2.2 (by decide) (by decide)
  have hp3 : 1 ≤ zr ∧ zr ≤ 20 := hp9
  have hW := hW.kept (fun a h1 h2 => hk9 a (by have := hW.lt; omega) (fun h => h))
  have hF := hF.go hz9 (fun q hq => hk9 q hq (fun h => h))
  obtain ⟨y, rfl⟩ : ∃ y : Nat, zs = (y : Int) := ⟨zs.toNat, by omega⟩
  obtain ⟨q, rfl⟩ : ∃ q : Nat, zq = (q : Int) := ⟨zq.toNat, by omega⟩
  obtain ⟨d, rfl⟩ : ∃ d : Nat, zr = (d : Int) := ⟨zr.toNat, by omega⟩
  refine lv_aload_n hx hb dX3_hits_12 rfl (lv_at hl 0 rfl) ?_
  refine lv_iload_n hx hb dX3_hits_13 rfl (lv_at hl 1 rfl) ?_
  refine lv_iload_n hx hb dX3_hits_14 rfl (lv_at hl 2 rfl) ?_
  refine lv_iload_n hx hb dX3_hits_15 rfl (lv_at hl 3 rfl) ?_
  refine x_cI (va_runV (As := [.int (zI (y : Int)), .int (zI (q : Int)), .int (zI (d : Int))]) (rest := []) ⟨hx, hb, hml, hown, hts⟩ (c_X3_hitsAsItStands l G o b lim dif (q) (y) (by omega) (by omega) (y : Int) (q : Int) (d : Int) (d) (by omega) (by omega) (by omega) (by omega)) (cwV 3 hts gX3_hits_X3_hitsAsItStands rfl rfl rfl (by decide +kernel) ⟨Nat.le_of_ble_eq_true rfl, Nat.le_of_ble_eq_true rfl⟩) (x_preV hW hi hK hW.jr (ci := 3) (q := (RX3, TX3, 3)) rfl) rfl rfl hl.1 rfl (lv_room (Nat.le_of_ble_eq_true rfl)) dX3_hits_16 ⟨Nat.le_of_ble_eq_true rfl, Nat.le_of_ble_eq_true rfl⟩) ?_
  refine W.widen (k := 8) (n := 48) (by decide) (by decide) (vx_ret ?_)
  exact W.iret hx hb hr (fun t ht _ => ⟨⟨_, (), rfl, ⟨kR_t (by omega) rfl, congrArg zI (rfl)⟩, _, ht, ⟨_, _, hW⟩⟩, hS.F ht⟩) hS.2.2 dX3_hits_19
