theorem MW.th {G : XG} {o : Nat} {b : XB} {th ov un th' : Int} {H : Heap} (h : MW G o b th ov un H) (e : th = th') : MW G o b th' ov un H := e ▸ h
theorem MW.ou {G : XG} {o : Nat} {b : XB} {th ov un ov' un' : Int} {H : Heap} (h : MW G o b th ov un H) (e : ov = ov') (e2 : un = un') : MW G o b th ov' un' H := e ▸ e2 ▸ h
theorem if0_t {α : Type} {x y : α} : (if (0 : Int) = 0 then x else y) = x := if_pos rfl
theorem if0_1 {α : Type} {x y : α} : (if (1 : Int) = 0 then x else y) = y := if_neg (by decide)
theorem if0_2 {α : Type} {x y : α} : (if (2 : Int) = 0 then x else y) = y := if_neg (by decide)
theorem no1 {P : Prop} (h : (1 : Int) = 0) : P := absurd h (by decide)
theorem no2 {P : Prop} (h : (2 : Int) = 0) : P := absurd h (by decide)
set_option maxHeartbeats 4000000 in
set_option maxRecDepth 100000 in
theorem c_X4_in (l : Launch) (zv : Int) (hzv : -2147483648 ≤ zv ∧ zv < 2147483648) (zl : Int) (hzl : -2147483648 ≤ zl ∧ zl < 2147483648) (zh : Int) (hzh : -2147483648 ≤ zh ∧ zh < 2147483648) : MetI l yX4_in wsX4_in (rmF 0 0) (SPc [.int (zI zv), .int (zI zl), .int (zI zh)]) (bI (zl ≤ zv ∧ zv ≤ zh)) := by
  refine Met.ofW (cc := cX4_in) (maxL := 3) (ret := (some .boolean)) (by decide) rfl ?_
  intro p e s m args below meth c s₁ B hml hv
  obtain ⟨rfl, -⟩ := hv
  have hx := B.exec
  have hb := B.bytes
  have hr := B.returns
  have hts := atoms_spec (ws := wsX4_in) B.pre
  have hown : s.vm.findClass RX4 = some m.cls := findClass_of_methodNamed B.named
  have hlocks := B.notSynchronized
  have hl := lv_entry ([.int (zI zv), .int (zI zl), .int (zI zh)]) (n := 3) (Nat.le_of_ble_eq_true rfl)
  rw [lg_entry_eq]
  generalize (lg_sl ([.int (zI zv), .int (zI zl), .int (zI zh)]) ++ List.replicate (3 - (lg_sl ([.int (zI zv), .int (zI zl), .int (zI zh)])).length) Slot.unset).toArray = ls at hl ⊢
  have hl : lv_has ls 3 [(0, .int (zI zv)), (1, .int (zI zl)), (2, .int (zI zh))] := hl
  refine lv_iload_n hx hb dX4_in_0 rfl (lv_at hl 0 rfl) ?_
  refine lv_iload_n hx hb dX4_in_1 rfl (lv_at hl 1 rfl) ?_
  refine x_icmp_lt (tgt := 14) hx hb dX4_in_2 (by decide) (by omega) (fun h1 => ?_) (fun h2 => ?_)
  · refine x_iconst hx hb dX4_in_14 ?_
    exact x_retB hx hb hr (⟨(bI_f (by omega)).symm, by omega, by omega⟩) dX4_in_15 hlocks
  · refine lv_iload_n hx hb dX4_in_5 rfl (lv_at hl 0 rfl) ?_
    refine lv_iload_n hx hb dX4_in_6 rfl (lv_at hl 2 rfl) ?_
    refine x_icmp_gt (tgt := 14) hx hb dX4_in_7 (by decide) (by omega) (fun h3 => ?_) (fun h4 => ?_)
    · refine x_iconst hx hb dX4_in_14 ?_
      exact x_retB hx hb hr (⟨(bI_f (by omega)).symm, by omega, by omega⟩) dX4_in_15 hlocks
    · refine x_iconst hx hb dX4_in_10 ?_
      refine lv_goto (tgt := 15) hx hb dX4_in_11 (by decide) ?_
      exact x_retB hx hb hr (⟨(bI_t (by omega)).symm, by omega, by omega⟩) dX4_in_15 hlocks
set_option maxHeartbeats 4000000 in
set_option maxRecDepth 100000 in
theorem c_X4_thrown (l : Launch) (G : XG) (o : Nat) (b : XB) (th ov un : Int) : MetI l yX4_thrown wsX4_thrown (rmF 0 0) (MPc G o b th ov un [.ref o]) th := by
  refine Met.ofW (cc := cX4_thrown) (maxL := 1) (ret := (some .int)) (by decide) rfl ?_
  intro p e s m args below meth c s₁ B hml hv
  obtain ⟨rfl, hW, hi, hK⟩ := hv
  have hx := B.exec
  have hb := B.bytes
  have hr := B.returns
  have hts := atoms_spec (ws := wsX4_thrown) B.pre
  have hown : s.vm.findClass RX4 = some m.cls := findClass_of_methodNamed B.named
  have hlocks := B.notSynchronized
  have hl := lv_entry ([.ref o]) (n := 1) (Nat.le_of_ble_eq_true rfl)
  rw [lg_entry_eq]
  generalize (lg_sl ([.ref o]) ++ List.replicate (1 - (lg_sl ([.ref o])).length) Slot.unset).toArray = ls at hl ⊢
  have hl : lv_has ls 1 [(0, .ref o)] := hl
  refine lv_aload_n hx hb dX4_thrown_0 rfl (lv_at hl 0 rfl) ?_
  refine x_get (ci := 4) (C := RX4) (T := TX4) (N := 10) (own := RX4) (index := 28) (v := .int (zI th)) hx hb hts (by decide +kernel) hown hK hW.ob rfl 9 (by decide) (by decide +kernel) rfl rfl dX4_thrown_1 ?_
  exact x_retI hx hb hr (rfl) dX4_thrown_4 hlocks
set_option maxHeartbeats 4000000 in
set_option maxRecDepth 100000 in
theorem c_X4_fails (l : Launch) (G : XG) (o : Nat) (b : XB) (th ov un : Int) (zs : Int) : MetWI l yX4_fails wsX4_fails (rmF 0 0) (MPc G o b th ov un [.ref o, .int (zI zs)]) 0 (fun H => MW G o b zs ov un H) (mA o) := by
  refine Met.ofW (cc := cX4_fails) (maxL := 2) (ret := (some .int)) (by decide) rfl ?_
  intro p e s m args below meth c s₁ B hml hv
  obtain ⟨rfl, hW, hi, hK⟩ := hv
  have hx := B.exec
  have hb := B.bytes
  have hr := B.returns
  have hts := atoms_spec (ws := wsX4_fails) B.pre
  have hown : s.vm.findClass RX4 = some m.cls := findClass_of_methodNamed B.named
  have hlocks := B.notSynchronized
  have hl := lv_entry ([.ref o, .int (zI zs)]) (n := 2) (Nat.le_of_ble_eq_true rfl)
  rw [lg_entry_eq]
  generalize (lg_sl ([.ref o, .int (zI zs)]) ++ List.replicate (2 - (lg_sl ([.ref o, .int (zI zs)])).length) Slot.unset).toArray = ls at hl ⊢
  have hl : lv_has ls 2 [(0, .ref o), (1, .int (zI zs))] := hl
  have hS : va_S (mA o) s.heap s.heap [] := va_S.rf
  refine lv_aload_n hx hb dX4_fails_0 rfl (lv_at hl 0 rfl) ?_
  refine lv_iload_n hx hb dX4_fails_1 rfl (lv_at hl 1 rfl) ?_
  refine x_put (ci := 4) (C := RX4) (T := TX4) (N := 10) (own := RX4) (index := 28) hx hb hts (by decide +kernel) tyX4 tyX4_ok nmX4 hown hK hW.ob hS ⟨by omega, by omega⟩ rfl 9 (by decide) (by decide +kernel) rfl rfl rfl rfl (Nat.le_of_ble_eq_true rfl) dX4_fails_2 (fun H1 locs1 h1 hz1 hn1 hS => ?_)
  have hW := hW.putO h1 hn1
  refine x_iconst hx hb dX4_fails_5 ?_
  exact W.iret hx hb hr (fun t ht _ => ⟨⟨_, (), rfl, congrArg zI (rfl), _, ht, hW⟩, hS.F ht⟩) hS.2.2 dX4_fails_6
set_option maxHeartbeats 4000000 in
set_option maxRecDepth 100000 in
theorem c_X4_isRun (l : Launch) (G : XG) (o : Nat) (b : XB) (th ov un : Int) (zs : Int) (hzs : -2147483648 ≤ zs ∧ zs < 2147483648) (zq : Int) (hzq : -2147483648 ≤ zq ∧ zq < 2147483648) : MetWI l yX4_isRun wsX4_isRun (rmF 1 22) (MPc G o b th ov un [.ref o, .int (zI zs), .int (zI zq)]) (bI ((0 ≤ zs ∧ zs < 4) ∧ (0 ≤ zq ∧ zq < 8))) (fun H => MW G o b (kR ((0 ≤ zs ∧ zs < 4) ∧ (0 ≤ zq ∧ zq < 8)) 0) ov un H) (mA o) := by
  refine Met.ofW (cc := cX4_isRun) (maxL := 3) (ret := (some .boolean)) (by decide) rfl ?_
  intro p e s m args below meth c s₁ B hml hv
  obtain ⟨rfl, hW, hi, hK⟩ := hv
  have hx := B.exec
  have hb := B.bytes
  have hr := B.returns
  have hts := atoms_spec (ws := wsX4_isRun) B.pre
  have hown : s.vm.findClass RX4 = some m.cls := findClass_of_methodNamed B.named
  have hlocks := B.notSynchronized
  have hl := lv_entry ([.ref o, .int (zI zs), .int (zI zq)]) (n := 3) (Nat.le_of_ble_eq_true rfl)
  rw [lg_entry_eq]
  generalize (lg_sl ([.ref o, .int (zI zs), .int (zI zq)]) ++ List.replicate (3 - (lg_sl ([.ref o, .int (zI zs), .int (zI zq)])).length) Slot.unset).toArray = ls at hl ⊢
  have hl : lv_has ls 3 [(0, .ref o), (1, .int (zI zs)), (2, .int (zI zq))] := hl
  have hS : va_S (mA o) s.heap s.heap [] := va_S.rf
  refine lv_aload_n hx hb dX4_isRun_0 rfl (lv_at hl 0 rfl) ?_
  refine lv_iload_n hx hb dX4_isRun_1 rfl (lv_at hl 1 rfl) ?_
  refine x_iconst hx hb dX4_isRun_2 ?_
  refine x_iconst hx hb dX4_isRun_3 ?_
  refine x_cI (va_runS (As := [.int (zI zs), .int (zI 0), .int (zI 3)]) (rest := [.ref o]) ⟨hx, hb, hml, hown, hts⟩ (c_X4_in l zs (by omega) 0 (by omega) 3 (by omega)) (va_cwS 3 hts gX4_isRun_X4_in rfl rfl rfl (by decide +kernel) ⟨Nat.le_of_ble_eq_true rfl, Nat.le_of_ble_eq_true rfl⟩) x_preS rfl rfl hl.1 rfl (lv_room (Nat.le_of_ble_eq_true rfl)) dX4_isRun_4 ⟨Nat.le_of_ble_eq_true rfl, Nat.le_of_ble_eq_true rfl⟩) ?_
  refine x_ifB_eq (tgt := 24) hx hb dX4_isRun_7 (by decide) (fun h1 => ?_) (fun h2 => ?_)
  · refine x_iconst hx hb dX4_isRun_24 ?_
    refine x_put (ci := 4) (C := RX4) (T := TX4) (N := 10) (own := RX4) (index := 28) hx hb hts (by decide +kernel) tyX4 tyX4_ok nmX4 hown hK hW.ob hS ⟨by omega, by omega⟩ rfl 9 (by decide) (by decide +kernel) rfl rfl rfl rfl (Nat.le_of_ble_eq_true rfl) dX4_isRun_25 (fun H1 locs1 h1 hz1 hn1 hS => ?_)
    have hW := hW.putO h1 hn1
    refine lv_aload_n hx hb dX4_isRun_28 rfl (lv_at hl 0 rfl) ?_
    refine x_get (ci := 4) (C := RX4) (T := TX4) (N := 10) (own := RX4) (index := 28) (v := .int (zI 1)) hx hb hts (by decide +kernel) hown hK hW.ob rfl 9 (by decide) (by decide +kernel) rfl rfl dX4_isRun_29 ?_
    refine x_if_ne (tgt := 39) hx hb dX4_isRun_32 (by decide) (by omega) (fun h3 => ?_) (fun h4 => ?_)
    · refine x_iconst hx hb dX4_isRun_39 ?_
      have hW := hW.th (kR_f (P := (0 ≤ zs ∧ zs < 4) ∧ (0 ≤ zq ∧ zq < 8)) (n := 0) (by omega)).symm
      exact W.zret hx hb hr (x_nar (by omega)) (fun t ht _ => ⟨⟨_, (), rfl, congrArg zI ((bI_f (by omega)).symm), _, ht, hW⟩, hS.F ht⟩) hS.2.2 dX4_isRun_40
    · exact absurd h4 (by omega)
  · refine lv_iload_n hx hb dX4_isRun_10 rfl (lv_at hl 2 rfl) ?_
    refine x_iconst hx hb dX4_isRun_11 ?_
    refine lv_bipush (v := zI 7) hx hb dX4_isRun_12 (by decide +kernel) ?_
    refine x_cI (va_runS (As := [.int (zI zq), .int (zI 0), .int (zI 7)]) (rest := [.ref o]) ⟨hx, hb, hml, hown, hts⟩ (c_X4_in l zq (by omega) 0 (by omega) 7 (by omega)) (va_cwS 3 hts gX4_isRun_X4_in rfl rfl rfl (by decide +kernel) ⟨Nat.le_of_ble_eq_true rfl, Nat.le_of_ble_eq_true rfl⟩) x_preS rfl rfl hl.1 rfl (lv_room (Nat.le_of_ble_eq_true rfl)) dX4_isRun_14 ⟨Nat.le_of_ble_eq_true rfl, Nat.le_of_ble_eq_true rfl⟩) ?_
    refine x_ifB_eq (tgt := 24) hx hb dX4_isRun_17 (by decide) (fun h5 => ?_) (fun h6 => ?_)
    · refine x_iconst hx hb dX4_isRun_24 ?_
      refine x_put (ci := 4) (C := RX4) (T := TX4) (N := 10) (own := RX4) (index := 28) hx hb hts (by decide +kernel) tyX4 tyX4_ok nmX4 hown hK hW.ob hS ⟨by omega, by omega⟩ rfl 9 (by decide) (by decide +kernel) rfl rfl rfl rfl (Nat.le_of_ble_eq_true rfl) dX4_isRun_25 (fun H1 locs1 h1 hz1 hn1 hS => ?_)
      have hW := hW.putO h1 hn1
      refine lv_aload_n hx hb dX4_isRun_28 rfl (lv_at hl 0 rfl) ?_
      refine x_get (ci := 4) (C := RX4) (T := TX4) (N := 10) (own := RX4) (index := 28) (v := .int (zI 1)) hx hb hts (by decide +kernel) hown hK hW.ob rfl 9 (by decide) (by decide +kernel) rfl rfl dX4_isRun_29 ?_
      refine x_if_ne (tgt := 39) hx hb dX4_isRun_32 (by decide) (by omega) (fun h7 => ?_) (fun h8 => ?_)
      · refine x_iconst hx hb dX4_isRun_39 ?_
        have hW := hW.th (kR_f (P := (0 ≤ zs ∧ zs < 4) ∧ (0 ≤ zq ∧ zq < 8)) (n := 0) (by omega)).symm
        exact W.zret hx hb hr (x_nar (by omega)) (fun t ht _ => ⟨⟨_, (), rfl, congrArg zI ((bI_f (by omega)).symm), _, ht, hW⟩, hS.F ht⟩) hS.2.2 dX4_isRun_40
      · exact absurd h8 (by omega)
    · refine x_iconst hx hb dX4_isRun_20 ?_
      refine lv_goto (tgt := 25) hx hb dX4_isRun_21 (by decide) ?_
      refine x_put (ci := 4) (C := RX4) (T := TX4) (N := 10) (own := RX4) (index := 28) hx hb hts (by decide +kernel) tyX4 tyX4_ok nmX4 hown hK hW.ob hS ⟨by omega, by omega⟩ rfl 9 (by decide) (by decide +kernel) rfl rfl rfl rfl (Nat.le_of_ble_eq_true rfl) dX4_isRun_25 (fun H1 locs1 h1 hz1 hn1 hS => ?_)
      have hW := hW.putO h1 hn1
      refine lv_aload_n hx hb dX4_isRun_28 rfl (lv_at hl 0 rfl) ?_
      refine x_get (ci := 4) (C := RX4) (T := TX4) (N := 10) (own := RX4) (index := 28) (v := .int (zI 0)) hx hb hts (by decide +kernel) hown hK hW.ob rfl 9 (by decide) (by decide +kernel) rfl rfl dX4_isRun_29 ?_
      refine x_if_ne (tgt := 39) hx hb dX4_isRun_32 (by decide) (by omega) (fun h9 => ?_) (fun h10 => ?_)
      · exact absurd h9 (by omega)
      · refine x_iconst hx hb dX4_isRun_35 ?_
        refine lv_goto (tgt := 40) hx hb dX4_isRun_36 (by decide) ?_
        have hW := hW.th (kR_t (P := (0 ≤ zs ∧ zs < 4) ∧ (0 ≤ zq ∧ zq < 8)) (n := 0) (by omega) rfl).symm
        exact W.zret hx hb hr (x_nar (by omega)) (fun t ht _ => ⟨⟨_, (), rfl, congrArg zI ((bI_t (by omega)).symm), _, ht, hW⟩, hS.F ht⟩) hS.2.2 dX4_isRun_40
set_option maxHeartbeats 4000000 in
set_option maxRecDepth 100000 in
theorem c_X4_isDeep (l : Launch) (G : XG) (o : Nat) (b : XB) (th ov un : Int) (zs : Int) (hzs : -2147483648 ≤ zs ∧ zs < 2147483648) (zq : Int) (hzq : -2147483648 ≤ zq ∧ zq < 2147483648) (zr : Int) (hzr : -2147483648 ≤ zr ∧ zr < 2147483648) : MetWI l yX4_isDeep wsX4_isDeep (rmF 2 44) (MPc G o b th ov un [.ref o, .int (zI zs), .int (zI zq), .int (zI zr)]) (bI ((0 ≤ zs ∧ zs < 4) ∧ (0 ≤ zq ∧ zq < 8) ∧ (1 ≤ zr ∧ zr ≤ 20))) (fun H => MW G o b (kR ((0 ≤ zs ∧ zs < 4) ∧ (0 ≤ zq ∧ zq < 8) ∧ (1 ≤ zr ∧ zr ≤ 20)) 0) ov un H) (mA o) := by
  refine Met.ofW (cc := cX4_isDeep) (maxL := 4) (ret := (some .boolean)) (by decide) rfl ?_
  intro p e s m args below meth c s₁ B hml hv
  obtain ⟨rfl, hW, hi, hK⟩ := hv
  have hx := B.exec
  have hb := B.bytes
  have hr := B.returns
  have hts := atoms_spec (ws := wsX4_isDeep) B.pre
  have hown : s.vm.findClass RX4 = some m.cls := findClass_of_methodNamed B.named
  have hlocks := B.notSynchronized
  have hl := lv_entry ([.ref o, .int (zI zs), .int (zI zq), .int (zI zr)]) (n := 4) (Nat.le_of_ble_eq_true rfl)
  rw [lg_entry_eq]
  generalize (lg_sl ([.ref o, .int (zI zs), .int (zI zq), .int (zI zr)]) ++ List.replicate (4 - (lg_sl ([.ref o, .int (zI zs), .int (zI zq), .int (zI zr)])).length) Slot.unset).toArray = ls at hl ⊢
  have hl : lv_has ls 4 [(0, .ref o), (1, .int (zI zs)), (2, .int (zI zq)), (3, .int (zI zr))] := hl
  have hS : va_S (mA o) s.heap s.heap [] := va_S.rf
  refine lv_aload_n hx hb dX4_isDeep_0 rfl (lv_at hl 0 rfl) ?_
  refine lv_iload_n hx hb dX4_isDeep_1 rfl (lv_at hl 1 rfl) ?_
  refine lv_iload_n hx hb dX4_isDeep_2 rfl (lv_at hl 2 rfl) ?_
  refine x_wI (va_runV (As := [.int (zI zs), .int (zI zq)]) (rest := []) ⟨hx, hb, hml, hown, hts⟩ (c_X4_isRun l G o b th ov un zs (by omega) zq (by omega)) (cwV 2 hts gX4_isDeep_X4_isRun rfl rfl rfl (by decide +kernel) ⟨Nat.le_of_ble_eq_true rfl, Nat.le_of_ble_eq_true rfl⟩) (x_preM hW hi hK) rfl rfl hl.1 rfl (lv_room (Nat.le_of_ble_eq_true rfl)) dX4_isDeep_3 ⟨Nat.le_of_ble_eq_true rfl, Nat.le_of_ble_eq_true rfl⟩) hS (fun q _ h => h) (fun q h => h) (fun H1 locs1 hW1 hz1 hk1 hS => ?_)
  have hW := hW1
  refine x_ifB_eq (tgt := 28) hx hb dX4_isDeep_6 (by decide) (fun h1 => ?_) (fun h2 => ?_)
  · replace hW := hW.th (kR_f h1)
    refine lv_aload_n hx hb dX4_isDeep_28 rfl (lv_at hl 0 rfl) ?_
    refine x_get (ci := 4) (C := RX4) (T := TX4) (N := 10) (own := RX4) (index := 28) (v := .int (zI 1)) hx hb hts (by decide +kernel) hown hK hW.ob rfl 9 (by decide) (by decide +kernel) rfl rfl dX4_isDeep_29 ?_
    refine x_if_ne (tgt := 39) hx hb dX4_isDeep_32 (by decide) (by omega) (fun h3 => ?_) (fun h4 => ?_)
    · refine x_iconst hx hb dX4_isDeep_39 ?_
      have hW := hW.th (kR_f (P := (0 ≤ zs ∧ zs < 4) ∧ (0 ≤ zq ∧ zq < 8) ∧ (1 ≤ zr ∧ zr ≤ 20)) (n := 0) (by omega)).symm
      exact W.zret hx hb hr (x_nar (by omega)) (fun t ht _ => ⟨⟨_, (), rfl, congrArg zI ((bI_f (by omega)).symm), _, ht, hW⟩, hS.F ht⟩) hS.2.2 dX4_isDeep_40
    · exact absurd h4 (by omega)
  · refine lv_aload_n hx hb dX4_isDeep_9 rfl (lv_at hl 0 rfl) ?_
    refine lv_iload_n hx hb dX4_isDeep_10 rfl (lv_at hl 3 rfl) ?_
    refine x_iconst hx hb dX4_isDeep_11 ?_
    refine lv_bipush (v := zI 20) hx hb dX4_isDeep_12 (by decide +kernel) ?_
    refine x_cI (va_runS (As := [.int (zI zr), .int (zI 1), .int (zI 20)]) (rest := [.ref o]) ⟨hx, hb, hml, hown, hts⟩ (c_X4_in l zr (by omega) 1 (by omega) 20 (by omega)) (va_cwS 3 hts gX4_isDeep_X4_in rfl rfl rfl (by decide +kernel) ⟨Nat.le_of_ble_eq_true rfl, Nat.le_of_ble_eq_true rfl⟩) x_preS rfl rfl hl.1 rfl (lv_room (Nat.le_of_ble_eq_true rfl)) dX4_isDeep_14 ⟨Nat.le_of_ble_eq_true rfl, Nat.le_of_ble_eq_true rfl⟩) ?_
    refine x_ifB_eq (tgt := 24) hx hb dX4_isDeep_17 (by decide) (fun h5 => ?_) (fun h6 => ?_)
    · refine x_iconst hx hb dX4_isDeep_24 ?_
      refine x_put (ci := 4) (C := RX4) (T := TX4) (N := 10) (own := RX4) (index := 28) hx hb hts (by decide +kernel) tyX4 tyX4_ok nmX4 hown hK hW.ob hS ⟨by omega, by omega⟩ rfl 9 (by decide) (by decide +kernel) rfl rfl rfl rfl (Nat.le_of_ble_eq_true rfl) dX4_isDeep_25 (fun H1 locs1 h1 hz1 hn1 hS => ?_)
      have hW := hW.putO h1 hn1
      refine lv_aload_n hx hb dX4_isDeep_28 rfl (lv_at hl 0 rfl) ?_
      refine x_get (ci := 4) (C := RX4) (T := TX4) (N := 10) (own := RX4) (index := 28) (v := .int (zI 1)) hx hb hts (by decide +kernel) hown hK hW.ob rfl 9 (by decide) (by decide +kernel) rfl rfl dX4_isDeep_29 ?_
      refine x_if_ne (tgt := 39) hx hb dX4_isDeep_32 (by decide) (by omega) (fun h7 => ?_) (fun h8 => ?_)
      · refine x_iconst hx hb dX4_isDeep_39 ?_
        have hW := hW.th (kR_f (P := (0 ≤ zs ∧ zs < 4) ∧ (0 ≤ zq ∧ zq < 8) ∧ (1 ≤ zr ∧ zr ≤ 20)) (n := 0) (by omega)).symm
        exact W.zret hx hb hr (x_nar (by omega)) (fun t ht _ => ⟨⟨_, (), rfl, congrArg zI ((bI_f (by omega)).symm), _, ht, hW⟩, hS.F ht⟩) hS.2.2 dX4_isDeep_40
      · exact absurd h8 (by omega)
    · refine x_iconst hx hb dX4_isDeep_20 ?_
      refine lv_goto (tgt := 25) hx hb dX4_isDeep_21 (by decide) ?_
      refine x_put (ci := 4) (C := RX4) (T := TX4) (N := 10) (own := RX4) (index := 28) hx hb hts (by decide +kernel) tyX4 tyX4_ok nmX4 hown hK hW.ob hS ⟨by omega, by omega⟩ rfl 9 (by decide) (by decide +kernel) rfl rfl rfl rfl (Nat.le_of_ble_eq_true rfl) dX4_isDeep_25 (fun H1 locs1 h1 hz1 hn1 hS => ?_)
      have hW := hW.putO h1 hn1
      refine lv_aload_n hx hb dX4_isDeep_28 rfl (lv_at hl 0 rfl) ?_
      refine x_get (ci := 4) (C := RX4) (T := TX4) (N := 10) (own := RX4) (index := 28) (v := .int (zI 0)) hx hb hts (by decide +kernel) hown hK hW.ob rfl 9 (by decide) (by decide +kernel) rfl rfl dX4_isDeep_29 ?_
      refine x_if_ne (tgt := 39) hx hb dX4_isDeep_32 (by decide) (by omega) (fun h9 => ?_) (fun h10 => ?_)
      · exact absurd h9 (by omega)
      · refine x_iconst hx hb dX4_isDeep_35 ?_
        refine lv_goto (tgt := 40) hx hb dX4_isDeep_36 (by decide) ?_
        have hW := hW.th (kR_t (P := (0 ≤ zs ∧ zs < 4) ∧ (0 ≤ zq ∧ zq < 8) ∧ (1 ≤ zr ∧ zr ≤ 20)) (n := 0) (by omega) rfl).symm
        exact W.zret hx hb hr (x_nar (by omega)) (fun t ht _ => ⟨⟨_, (), rfl, congrArg zI ((bI_t (by omega)).symm), _, ht, hW⟩, hS.F ht⟩) hS.2.2 dX4_isDeep_40
set_option maxHeartbeats 4000000 in
set_option maxRecDepth 100000 in
theorem c_X4_isPool (l : Launch) (G : XG) (o : Nat) (b : XB) (th ov un : Int) (zq : Int) (hzq : -2147483648 ≤ zq ∧ zq < 2147483648) (zr : Int) (hzr : -2147483648 ≤ zr ∧ zr < 2147483648) : MetWI l yX4_isPool wsX4_isPool (rmF 1 22) (MPc G o b th ov un [.ref o, .int (zI zq), .int (zI zr)]) (bI ((0 ≤ zq ∧ zq < 8) ∧ (1 ≤ zr ∧ zr ≤ 20))) (fun H => MW G o b (kR ((0 ≤ zq ∧ zq < 8) ∧ (1 ≤ zr ∧ zr ≤ 20)) 0) ov un H) (mA o) := by
  refine Met.ofW (cc := cX4_isPool) (maxL := 3) (ret := (some .boolean)) (by decide) rfl ?_
  intro p e s m args below meth c s₁ B hml hv
  obtain ⟨rfl, hW, hi, hK⟩ := hv
  have hx := B.exec
  have hb := B.bytes
  have hr := B.returns
  have hts := atoms_spec (ws := wsX4_isPool) B.pre
  have hown : s.vm.findClass RX4 = some m.cls := findClass_of_methodNamed B.named
  have hlocks := B.notSynchronized
  have hl := lv_entry ([.ref o, .int (zI zq), .int (zI zr)]) (n := 3) (Nat.le_of_ble_eq_true rfl)
  rw [lg_entry_eq]
  generalize (lg_sl ([.ref o, .int (zI zq), .int (zI zr)]) ++ List.replicate (3 - (lg_sl ([.ref o, .int (zI zq), .int (zI zr)])).length) Slot.unset).toArray = ls at hl ⊢
  have hl : lv_has ls 3 [(0, .ref o), (1, .int (zI zq)), (2, .int (zI zr))] := hl
  have hS : va_S (mA o) s.heap s.heap [] := va_S.rf
  refine lv_aload_n hx hb dX4_isPool_0 rfl (lv_at hl 0 rfl) ?_
  refine lv_iload_n hx hb dX4_isPool_1 rfl (lv_at hl 1 rfl) ?_
  refine x_iconst hx hb dX4_isPool_2 ?_
  refine lv_bipush (v := zI 7) hx hb dX4_isPool_3 (by decide +kernel) ?_
  refine x_cI (va_runS (As := [.int (zI zq), .int (zI 0), .int (zI 7)]) (rest := [.ref o]) ⟨hx, hb, hml, hown, hts⟩ (c_X4_in l zq (by omega) 0 (by omega) 7 (by omega)) (va_cwS 3 hts gX4_isPool_X4_in rfl rfl rfl (by decide +kernel) ⟨Nat.le_of_ble_eq_true rfl, Nat.le_of_ble_eq_true rfl⟩) x_preS rfl rfl hl.1 rfl (lv_room (Nat.le_of_ble_eq_true rfl)) dX4_isPool_5 ⟨Nat.le_of_ble_eq_true rfl, Nat.le_of_ble_eq_true rfl⟩) ?_
  refine x_ifB_eq (tgt := 25) hx hb dX4_isPool_8 (by decide) (fun h1 => ?_) (fun h2 => ?_)
  · refine x_iconst hx hb dX4_isPool_25 ?_
    refine x_put (ci := 4) (C := RX4) (T := TX4) (N := 10) (own := RX4) (index := 28) hx hb hts (by decide +kernel) tyX4 tyX4_ok nmX4 hown hK hW.ob hS ⟨by omega, by omega⟩ rfl 9 (by decide) (by decide +kernel) rfl rfl rfl rfl (Nat.le_of_ble_eq_true rfl) dX4_isPool_26 (fun H1 locs1 h1 hz1 hn1 hS => ?_)
    have hW := hW.putO h1 hn1
    refine lv_aload_n hx hb dX4_isPool_29 rfl (lv_at hl 0 rfl) ?_
    refine x_get (ci := 4) (C := RX4) (T := TX4) (N := 10) (own := RX4) (index := 28) (v := .int (zI 1)) hx hb hts (by decide +kernel) hown hK hW.ob rfl 9 (by decide) (by decide +kernel) rfl rfl dX4_isPool_30 ?_
    refine x_if_ne (tgt := 40) hx hb dX4_isPool_33 (by decide) (by omega) (fun h3 => ?_) (fun h4 => ?_)
    · refine x_iconst hx hb dX4_isPool_40 ?_
      have hW := hW.th (kR_f (P := (0 ≤ zq ∧ zq < 8) ∧ (1 ≤ zr ∧ zr ≤ 20)) (n := 0) (by omega)).symm
      exact W.zret hx hb hr (x_nar (by omega)) (fun t ht _ => ⟨⟨_, (), rfl, congrArg zI ((bI_f (by omega)).symm), _, ht, hW⟩, hS.F ht⟩) hS.2.2 dX4_isPool_41
    · exact absurd h4 (by omega)
  · refine lv_iload_n hx hb dX4_isPool_11 rfl (lv_at hl 2 rfl) ?_
    refine x_iconst hx hb dX4_isPool_12 ?_
    refine lv_bipush (v := zI 20) hx hb dX4_isPool_13 (by decide +kernel) ?_
    refine x_cI (va_runS (As := [.int (zI zr), .int (zI 1), .int (zI 20)]) (rest := [.ref o]) ⟨hx, hb, hml, hown, hts⟩ (c_X4_in l zr (by omega) 1 (by omega) 20 (by omega)) (va_cwS 3 hts gX4_isPool_X4_in rfl rfl rfl (by decide +kernel) ⟨Nat.le_of_ble_eq_true rfl, Nat.le_of_ble_eq_true rfl⟩) x_preS rfl rfl hl.1 rfl (lv_room (Nat.le_of_ble_eq_true rfl)) dX4_isPool_15 ⟨Nat.le_of_ble_eq_true rfl, Nat.le_of_ble_eq_true rfl⟩) ?_
    refine x_ifB_eq (tgt := 25) hx hb dX4_isPool_18 (by decide) (fun h5 => ?_) (fun h6 => ?_)
    · refine x_iconst hx hb dX4_isPool_25 ?_
      refine x_put (ci := 4) (C := RX4) (T := TX4) (N := 10) (own := RX4) (index := 28) hx hb hts (by decide +kernel) tyX4 tyX4_ok nmX4 hown hK hW.ob hS ⟨by omega, by omega⟩ rfl 9 (by decide) (by decide +kernel) rfl rfl rfl rfl (Nat.le_of_ble_eq_true rfl) dX4_isPool_26 (fun H1 locs1 h1 hz1 hn1 hS => ?_)
      have hW := hW.putO h1 hn1
      refine lv_aload_n hx hb dX4_isPool_29 rfl (lv_at hl 0 rfl) ?_
      refine x_get (ci := 4) (C := RX4) (T := TX4) (N := 10) (own := RX4) (index := 28) (v := .int (zI 1)) hx hb hts (by decide +kernel) hown hK hW.ob rfl 9 (by decide) (by decide +kernel) rfl rfl dX4_isPool_30 ?_
      refine x_if_ne (tgt := 40) hx hb dX4_isPool_33 (by decide) (by omega) (fun h7 => ?_) (fun h8 => ?_)
      · refine x_iconst hx hb dX4_isPool_40 ?_
        have hW := hW.th (kR_f (P := (0 ≤ zq ∧ zq < 8) ∧ (1 ≤ zr ∧ zr ≤ 20)) (n := 0) (by omega)).symm
        exact W.zret hx hb hr (x_nar (by omega)) (fun t ht _ => ⟨⟨_, (), rfl, congrArg zI ((bI_f (by omega)).symm), _, ht, hW⟩, hS.F ht⟩) hS.2.2 dX4_isPool_41
      · exact absurd h8 (by omega)
    · refine x_iconst hx hb dX4_isPool_21 ?_
      refine lv_goto (tgt := 26) hx hb dX4_isPool_22 (by decide) ?_
      refine x_put (ci := 4) (C := RX4) (T := TX4) (N := 10) (own := RX4) (index := 28) hx hb hts (by decide +kernel) tyX4 tyX4_ok nmX4 hown hK hW.ob hS ⟨by omega, by omega⟩ rfl 9 (by decide) (by decide +kernel) rfl rfl rfl rfl (Nat.le_of_ble_eq_true rfl) dX4_isPool_26 (fun H1 locs1 h1 hz1 hn1 hS => ?_)
      have hW := hW.putO h1 hn1
      refine lv_aload_n hx hb dX4_isPool_29 rfl (lv_at hl 0 rfl) ?_
      refine x_get (ci := 4) (C := RX4) (T := TX4) (N := 10) (own := RX4) (index := 28) (v := .int (zI 0)) hx hb hts (by decide +kernel) hown hK hW.ob rfl 9 (by decide) (by decide +kernel) rfl rfl dX4_isPool_30 ?_
      refine x_if_ne (tgt := 40) hx hb dX4_isPool_33 (by decide) (by omega) (fun h9 => ?_) (fun h10 => ?_)
      · exact absurd h9 (by omega)
      · refine x_iconst hx hb dX4_isPool_36 ?_
        refine lv_goto (tgt := 41) hx hb dX4_isPool_37 (by decide) ?_
        have hW := hW.th (kR_t (P := (0 ≤ zq ∧ zq < 8) ∧ (1 ≤ zr ∧ zr ≤ 20)) (n := 0) (by omega) rfl).symm
        exact W.zret hx hb hr (x_nar (by omega)) (fun t ht _ => ⟨⟨_, (), rfl, congrArg zI ((bI_t (by omega)).symm), _, ht, hW⟩, hS.F ht⟩) hS.2.2 dX4_isPool_41
set_option maxHeartbeats 4000000 in
set_option maxRecDepth 100000 in
theorem c_X4_isRank (l : Launch) (G : XG) (o : Nat) (b : XB) (th ov un : Int) (zr : Int) (hzr : -2147483648 ≤ zr ∧ zr < 2147483648) : MetWI l yX4_isRank wsX4_isRank (rmF 1 22) (MPc G o b th ov un [.ref o, .int (zI zr)]) (bI (1 ≤ zr ∧ zr ≤ (bL b : Int))) (fun H => MW G o b (kR (1 ≤ zr ∧ zr ≤ (bL b : Int)) 0) ov un H) (mA o) := by
  refine Met.ofW (cc := cX4_isRank) (maxL := 2) (ret := (some .boolean)) (by decide) rfl ?_
  intro p e s m args below meth c s₁ B hml hv
  obtain ⟨rfl, hW, hi, hK⟩ := hv
  have hx := B.exec
  have hb := B.bytes
  have hr := B.returns
  have hts := atoms_spec (ws := wsX4_isRank) B.pre
  have hown : s.vm.findClass RX4 = some m.cls := findClass_of_methodNamed B.named
  have hlocks := B.notSynchronized
  have hl := lv_entry ([.ref o, .int (zI zr)]) (n := 2) (Nat.le_of_ble_eq_true rfl)
  rw [lg_entry_eq]
  generalize (lg_sl ([.ref o, .int (zI zr)]) ++ List.replicate (2 - (lg_sl ([.ref o, .int (zI zr)])).length) Slot.unset).toArray = ls at hl ⊢
  have hl : lv_has ls 2 [(0, .ref o), (1, .int (zI zr))] := hl
  have hS : va_S (mA o) s.heap s.heap [] := va_S.rf
  have hll := hi.l
  refine lv_aload_n hx hb dX4_isRank_0 rfl (lv_at hl 0 rfl) ?_
  refine lv_iload_n hx hb dX4_isRank_1 rfl (lv_at hl 1 rfl) ?_
  refine x_iconst hx hb dX4_isRank_2 ?_
  refine lv_aload_n hx hb dX4_isRank_3 rfl (lv_at hl 0 rfl) ?_
  refine x_get (ci := 4) (C := RX4) (T := TX4) (N := 10) (own := RX4) (index := 98) (v := .int (zI (bL b : Int))) hx hb hts (by decide +kernel) hown hK hW.ob rfl 3 (by decide) (by decide +kernel) rfl rfl dX4_isRank_4 ?_
  refine x_cI (va_runS (As := [.int (zI zr), .int (zI 1), .int (zI (bL b : Int))]) (rest := [.ref o]) ⟨hx, hb, hml, hown, hts⟩ (c_X4_in l zr (by omega) 1 (by omega) (bL b : Int) (by omega)) (va_cwS 3 hts gX4_isRank_X4_in rfl rfl rfl (by decide +kernel) ⟨Nat.le_of_ble_eq_true rfl, Nat.le_of_ble_eq_true rfl⟩) x_preS rfl rfl hl.1 rfl (lv_room (Nat.le_of_ble_eq_true rfl)) dX4_isRank_7 ⟨Nat.le_of_ble_eq_true rfl, Nat.le_of_ble_eq_true rfl⟩) ?_
  refine x_ifB_eq (tgt := 17) hx hb dX4_isRank_10 (by decide) (fun h1 => ?_) (fun h2 => ?_)
  · refine x_iconst hx hb dX4_isRank_17 ?_
    refine x_put (ci := 4) (C := RX4) (T := TX4) (N := 10) (own := RX4) (index := 28) hx hb hts (by decide +kernel) tyX4 tyX4_ok nmX4 hown hK hW.ob hS ⟨by omega, by omega⟩ rfl 9 (by decide) (by decide +kernel) rfl rfl rfl rfl (Nat.le_of_ble_eq_true rfl) dX4_isRank_18 (fun H1 locs1 h1 hz1 hn1 hS => ?_)
    have hW := hW.putO h1 hn1
    refine lv_aload_n hx hb dX4_isRank_21 rfl (lv_at hl 0 rfl) ?_
    refine x_get (ci := 4) (C := RX4) (T := TX4) (N := 10) (own := RX4) (index := 28) (v := .int (zI 1)) hx hb hts (by decide +kernel) hown hK hW.ob rfl 9 (by decide) (by decide +kernel) rfl rfl dX4_isRank_22 ?_
    refine x_if_ne (tgt := 32) hx hb dX4_isRank_25 (by decide) (by omega) (fun h3 => ?_) (fun h4 => ?_)
    · refine x_iconst hx hb dX4_isRank_32 ?_
      have hW := hW.th (kR_f (P := 1 ≤ zr ∧ zr ≤ (bL b : Int)) (n := 0) (by omega)).symm
      exact W.zret hx hb hr (x_nar (by omega)) (fun t ht _ => ⟨⟨_, (), rfl, congrArg zI ((bI_f (by omega)).symm), _, ht, hW⟩, hS.F ht⟩) hS.2.2 dX4_isRank_33
    · exact absurd h4 (by omega)
  · refine x_iconst hx hb dX4_isRank_13 ?_
    refine lv_goto (tgt := 18) hx hb dX4_isRank_14 (by decide) ?_
    refine x_put (ci := 4) (C := RX4) (T := TX4) (N := 10) (own := RX4) (index := 28) hx hb hts (by decide +kernel) tyX4 tyX4_ok nmX4 hown hK hW.ob hS ⟨by omega, by omega⟩ rfl 9 (by decide) (by decide +kernel) rfl rfl rfl rfl (Nat.le_of_ble_eq_true rfl) dX4_isRank_18 (fun H1 locs1 h1 hz1 hn1 hS => ?_)
    have hW := hW.putO h1 hn1
    refine lv_aload_n hx hb dX4_isRank_21 rfl (lv_at hl 0 rfl) ?_
    refine x_get (ci := 4) (C := RX4) (T := TX4) (N := 10) (own := RX4) (index := 28) (v := .int (zI 0)) hx hb hts (by decide +kernel) hown hK hW.ob rfl 9 (by decide) (by decide +kernel) rfl rfl dX4_isRank_22 ?_
    refine x_if_ne (tgt := 32) hx hb dX4_isRank_25 (by decide) (by omega) (fun h5 => ?_) (fun h6 => ?_)
    · exact absurd h5 (by omega)
    · refine x_iconst hx hb dX4_isRank_28 ?_
      refine lv_goto (tgt := 33) hx hb dX4_isRank_29 (by decide) ?_
      have hW := hW.th (kR_t (P := 1 ≤ zr ∧ zr ≤ (bL b : Int)) (n := 0) (by omega) rfl).symm
      exact W.zret hx hb hr (x_nar (by omega)) (fun t ht _ => ⟨⟨_, (), rfl, congrArg zI ((bI_t (by omega)).symm), _, ht, hW⟩, hS.F ht⟩) hS.2.2 dX4_isRank_33
set_option maxHeartbeats 4000000 in
set_option maxRecDepth 100000 in
theorem c_X4_isTest (l : Launch) (G : XG) (o : Nat) (b : XB) (th ov un : Int) (z1 : Int) (hz1 : -2147483648 ≤ z1 ∧ z1 < 2147483648) (z2 : Int) (hz2 : -2147483648 ≤ z2 ∧ z2 < 2147483648) (zr : Int) (hzr : -2147483648 ≤ zr ∧ zr < 2147483648) : MetWI l yX4_isTest wsX4_isTest (rmF 1 22) (MPc G o b th ov un [.ref o, .int (zI z1), .int (zI z2), .int (zI zr)]) (bI ((0 ≤ z1 ∧ z1 < 4) ∧ (0 ≤ z2 ∧ z2 < 4) ∧ (1 ≤ zr ∧ zr ≤ 20))) (fun H => MW G o b (kR ((0 ≤ z1 ∧ z1 < 4) ∧ (0 ≤ z2 ∧ z2 < 4) ∧ (1 ≤ zr ∧ zr ≤ 20)) 0) ov un H) (mA o) := by
  refine Met.ofW (cc := cX4_isTest) (maxL := 4) (ret := (some .boolean)) (by decide) rfl ?_
  intro p e s m args below meth c s₁ B hml hv
  obtain ⟨rfl, hW, hi, hK⟩ := hv
  have hx := B.exec
  have hb := B.bytes
  have hr := B.returns
  have hts := atoms_spec (ws := wsX4_isTest) B.pre
  have hown : s.vm.findClass RX4 = some m.cls := findClass_of_methodNamed B.named
  have hlocks := B.notSynchronized
  have hl := lv_entry ([.ref o, .int (zI z1), .int (zI z2), .int (zI zr)]) (n := 4) (Nat.le_of_ble_eq_true rfl)
  rw [lg_entry_eq]
  generalize (lg_sl ([.ref o, .int (zI z1), .int (zI z2), .int (zI zr)]) ++ List.replicate (4 - (lg_sl ([.ref o, .int (zI z1), .int (zI z2), .int (zI zr)])).length) Slot.unset).toArray = ls at hl ⊢
  have hl : lv_has ls 4 [(0, .ref o), (1, .int (zI z1)), (2, .int (zI z2)), (3, .int (zI zr))] := hl
  have hS : va_S (mA o) s.heap s.heap [] := va_S.rf
  refine lv_aload_n hx hb dX4_isTest_0 rfl (lv_at hl 0 rfl) ?_
  refine lv_iload_n hx hb dX4_isTest_1 rfl (lv_at hl 1 rfl) ?_
  refine x_iconst hx hb dX4_isTest_2 ?_
  refine x_iconst hx hb dX4_isTest_3 ?_
  refine x_cI (va_runS (As := [.int (zI z1), .int (zI 0), .int (zI 3)]) (rest := [.ref o]) ⟨hx, hb, hml, hown, hts⟩ (c_X4_in l z1 (by omega) 0 (by omega) 3 (by omega)) (va_cwS 3 hts gX4_isTest_X4_in rfl rfl rfl (by decide +kernel) ⟨Nat.le_of_ble_eq_true rfl, Nat.le_of_ble_eq_true rfl⟩) x_preS rfl rfl hl.1 rfl (lv_room (Nat.le_of_ble_eq_true rfl)) dX4_isTest_4 ⟨Nat.le_of_ble_eq_true rfl, Nat.le_of_ble_eq_true rfl⟩) ?_
  refine x_ifB_eq (tgt := 33) hx hb dX4_isTest_7 (by decide) (fun h1 => ?_) (fun h2 => ?_)
  · refine x_iconst hx hb dX4_isTest_33 ?_
    refine x_put (ci := 4) (C := RX4) (T := TX4) (N := 10) (own := RX4) (index := 28) hx hb hts (by decide +kernel) tyX4 tyX4_ok nmX4 hown hK hW.ob hS ⟨by omega, by omega⟩ rfl 9 (by decide) (by decide +kernel) rfl rfl rfl rfl (Nat.le_of_ble_eq_true rfl) dX4_isTest_34 (fun H1 locs1 h1 hz1 hn1 hS => ?_)
    have hW := hW.putO h1 hn1
    refine lv_aload_n hx hb dX4_isTest_37 rfl (lv_at hl 0 rfl) ?_
    refine x_get (ci := 4) (C := RX4) (T := TX4) (N := 10) (own := RX4) (index := 28) (v := .int (zI 1)) hx hb hts (by decide +kernel) hown hK hW.ob rfl 9 (by decide) (by decide +kernel) rfl rfl dX4_isTest_38 ?_
    refine x_if_ne (tgt := 48) hx hb dX4_isTest_41 (by decide) (by omega) (fun h3 => ?_) (fun h4 => ?_)
    · refine x_iconst hx hb dX4_isTest_48 ?_
      have hW := hW.th (kR_f (P := (0 ≤ z1 ∧ z1 < 4) ∧ (0 ≤ z2 ∧ z2 < 4) ∧ (1 ≤ zr ∧ zr ≤ 20)) (n := 0) (by omega)).symm
      exact W.zret hx hb hr (x_nar (by omega)) (fun t ht _ => ⟨⟨_, (), rfl, congrArg zI ((bI_f (by omega)).symm), _, ht, hW⟩, hS.F ht⟩) hS.2.2 dX4_isTest_49
    · exact absurd h4 (by omega)
  · refine lv_iload_n hx hb dX4_isTest_10 rfl (lv_at hl 2 rfl) ?_
    refine x_iconst hx hb dX4_isTest_11 ?_
    refine x_iconst hx hb dX4_isTest_12 ?_
    refine x_cI (va_runS (As := [.int (zI z2), .int (zI 0), .int (zI 3)]) (rest := [.ref o]) ⟨hx, hb, hml, hown, hts⟩ (c_X4_in l z2 (by omega) 0 (by omega) 3 (by omega)) (va_cwS 3 hts gX4_isTest_X4_in rfl rfl rfl (by decide +kernel) ⟨Nat.le_of_ble_eq_true rfl, Nat.le_of_ble_eq_true rfl⟩) x_preS rfl rfl hl.1 rfl (lv_room (Nat.le_of_ble_eq_true rfl)) dX4_isTest_13 ⟨Nat.le_of_ble_eq_true rfl, Nat.le_of_ble_eq_true rfl⟩) ?_
    refine x_ifB_eq (tgt := 33) hx hb dX4_isTest_16 (by decide) (fun h5 => ?_) (fun h6 => ?_)
    · refine x_iconst hx hb dX4_isTest_33 ?_
      refine x_put (ci := 4) (C := RX4) (T := TX4) (N := 10) (own := RX4) (index := 28) hx hb hts (by decide +kernel) tyX4 tyX4_ok nmX4 hown hK hW.ob hS ⟨by omega, by omega⟩ rfl 9 (by decide) (by decide +kernel) rfl rfl rfl rfl (Nat.le_of_ble_eq_true rfl) dX4_isTest_34 (fun H1 locs1 h1 hz1 hn1 hS => ?_)
      have hW := hW.putO h1 hn1
      refine lv_aload_n hx hb dX4_isTest_37 rfl (lv_at hl 0 rfl) ?_
      refine x_get (ci := 4) (C := RX4) (T := TX4) (N := 10) (own := RX4) (index := 28) (v := .int (zI 1)) hx hb hts (by decide +kernel) hown hK hW.ob rfl 9 (by decide) (by decide +kernel) rfl rfl dX4_isTest_38 ?_
      refine x_if_ne (tgt := 48) hx hb dX4_isTest_41 (by decide) (by omega) (fun h7 => ?_) (fun h8 => ?_)
      · refine x_iconst hx hb dX4_isTest_48 ?_
        have hW := hW.th (kR_f (P := (0 ≤ z1 ∧ z1 < 4) ∧ (0 ≤ z2 ∧ z2 < 4) ∧ (1 ≤ zr ∧ zr ≤ 20)) (n := 0) (by omega)).symm
        exact W.zret hx hb hr (x_nar (by omega)) (fun t ht _ => ⟨⟨_, (), rfl, congrArg zI ((bI_f (by omega)).symm), _, ht, hW⟩, hS.F ht⟩) hS.2.2 dX4_isTest_49
      · exact absurd h8 (by omega)
    · refine lv_iload_n hx hb dX4_isTest_19 rfl (lv_at hl 3 rfl) ?_
      refine x_iconst hx hb dX4_isTest_20 ?_
      refine lv_bipush (v := zI 20) hx hb dX4_isTest_21 (by decide +kernel) ?_
      refine x_cI (va_runS (As := [.int (zI zr), .int (zI 1), .int (zI 20)]) (rest := [.ref o]) ⟨hx, hb, hml, hown, hts⟩ (c_X4_in l zr (by omega) 1 (by omega) 20 (by omega)) (va_cwS 3 hts gX4_isTest_X4_in rfl rfl rfl (by decide +kernel) ⟨Nat.le_of_ble_eq_true rfl, Nat.le_of_ble_eq_true rfl⟩) x_preS rfl rfl hl.1 rfl (lv_room (Nat.le_of_ble_eq_true rfl)) dX4_isTest_23 ⟨Nat.le_of_ble_eq_true rfl, Nat.le_of_ble_eq_true rfl⟩) ?_
      refine x_ifB_eq (tgt := 33) hx hb dX4_isTest_26 (by decide) (fun h9 => ?_) (fun h10 => ?_)
      · refine x_iconst hx hb dX4_isTest_33 ?_
        refine x_put (ci := 4) (C := RX4) (T := TX4) (N := 10) (own := RX4) (index := 28) hx hb hts (by decide +kernel) tyX4 tyX4_ok nmX4 hown hK hW.ob hS ⟨by omega, by omega⟩ rfl 9 (by decide) (by decide +kernel) rfl rfl rfl rfl (Nat.le_of_ble_eq_true rfl) dX4_isTest_34 (fun H1 locs1 h1 hz1 hn1 hS => ?_)
        have hW := hW.putO h1 hn1
        refine lv_aload_n hx hb dX4_isTest_37 rfl (lv_at hl 0 rfl) ?_
        refine x_get (ci := 4) (C := RX4) (T := TX4) (N := 10) (own := RX4) (index := 28) (v := .int (zI 1)) hx hb hts (by decide +kernel) hown hK hW.ob rfl 9 (by decide) (by decide +kernel) rfl rfl dX4_isTest_38 ?_
        refine x_if_ne (tgt := 48) hx hb dX4_isTest_41 (by decide) (by omega) (fun h11 => ?_) (fun h12 => ?_)
        · refine x_iconst hx hb dX4_isTest_48 ?_
          have hW := hW.th (kR_f (P := (0 ≤ z1 ∧ z1 < 4) ∧ (0 ≤ z2 ∧ z2 < 4) ∧ (1 ≤ zr ∧ zr ≤ 20)) (n := 0) (by omega)).symm
          exact W.zret hx hb hr (x_nar (by omega)) (fun t ht _ => ⟨⟨_, (), rfl, congrArg zI ((bI_f (by omega)).symm), _, ht, hW⟩, hS.F ht⟩) hS.2.2 dX4_isTest_49
        · exact absurd h12 (by omega)
      · refine x_iconst hx hb dX4_isTest_29 ?_
        refine lv_goto (tgt := 34) hx hb dX4_isTest_30 (by decide) ?_
        refine x_put (ci := 4) (C := RX4) (T := TX4) (N := 10) (own := RX4) (index := 28) hx hb hts (by decide +kernel) tyX4 tyX4_ok nmX4 hown hK hW.ob hS ⟨by omega, by omega⟩ rfl 9 (by decide) (by decide +kernel) rfl rfl rfl rfl (Nat.le_of_ble_eq_true rfl) dX4_isTest_34 (fun H1 locs1 h1 hz1 hn1 hS => ?_)
        have hW := hW.putO h1 hn1
        refine lv_aload_n hx hb dX4_isTest_37 rfl (lv_at hl 0 rfl) ?_
        refine x_get (ci := 4) (C := RX4) (T := TX4) (N := 10) (own := RX4) (index := 28) (v := .int (zI 0)) hx hb hts (by decide +kernel) hown hK hW.ob rfl 9 (by decide) (by decide +kernel) rfl rfl dX4_isTest_38 ?_
        refine x_if_ne (tgt := 48) hx hb dX4_isTest_41 (by decide) (by omega) (fun h13 => ?_) (fun h14 => ?_)
        · exact absurd h13 (by omega)
        · refine x_iconst hx hb dX4_isTest_44 ?_
          refine lv_goto (tgt := 49) hx hb dX4_isTest_45 (by decide) ?_
          have hW := hW.th (kR_t (P := (0 ≤ z1 ∧ z1 < 4) ∧ (0 ≤ z2 ∧ z2 < 4) ∧ (1 ≤ zr ∧ zr ≤ 20)) (n := 0) (by omega) rfl).symm
          exact W.zret hx hb hr (x_nar (by omega)) (fun t ht _ => ⟨⟨_, (), rfl, congrArg zI ((bI_t (by omega)).symm), _, ht, hW⟩, hS.F ht⟩) hS.2.2 dX4_isTest_49
