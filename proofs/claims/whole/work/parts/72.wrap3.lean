def oK_cross (b : XB) (z1 z2 zq zl : Int) : Int := (kR ((0 ≤ z1 ∧ z1 < 4) ∧ (0 ≤ z2 ∧ z2 < 4) ∧ (0 ≤ zq ∧ zq < 8) ∧ (1 ≤ zl ∧ zl ≤ 20) ∧ ¬ z1 = z2) 0)
def oV_cross (b : XB) (z1 z2 zq zl : Int) : Int := (bL (crB b zq.toNat z1.toNat z2.toNat zl) : Int)
def oB_cross (b : XB) (z1 z2 zq zl : Int) : XB := (crB b zq.toNat z1.toNat z2.toNat zl)
set_option maxHeartbeats 4000000 in
set_option maxRecDepth 100000 in
theorem c_L_cross (l : Launch) (hfl : l.stackTraces = false) (G : XG) (o oj lo : Nat) (hlo : lo ≤ o) (hoj : o + 127 ≤ oj) (b : XB) (z1 : Int) (hz1 : -2147483648 ≤ z1 ∧ z1 < 2147483648) (z2 : Int) (hz2 : -2147483648 ≤ z2 ∧ z2 < 2147483648) (zq : Int) (hzq : -2147483648 ≤ zq ∧ zq < 2147483648) (zl : Int) (hzl : -2147483648 ≤ zl ∧ zl < 2147483648) : MetW l yL_cross wsL_cross (rmP 8 128) G o oj lo b [.ref o, .int (zI z1), .int (zI z2), .int (zI zq), .int (zI zl), .ref oj] (oK_cross b z1 z2 zq zl) ((zI (oV_cross b z1 z2 zq zl)).toInt64) (oB_cross b z1 z2 zq zl) := by
  refine x_ofWH (cc := cL_cross) (maxL := 7) (ret := some .int) (hh := [(0, 14, 17, 13)]) (by decide) rfl ?_
  intro p e s m args below meth c s₁ B hml hv
  obtain ⟨rfl, ⟨lim, dif, hW⟩, ⟨w, hJ⟩, hi, hK, hT, hN⟩ := hv
  have hx := B.exec
  have hb := B.bytes
  have hr := B.returns
  have hts := atoms_spec (ws := wsL_cross) B.pre
  have hown : s.vm.findClass RL = some m.cls := findClass_of_methodNamed B.named
  have hlocks := B.notSynchronized
  have htab : c.exceptionTable.toList = tableOf [(0, 14, 17, 13)] := vx_table (x := yL_cross) B (hts _ List.mem_cons_self)
  have hl := lv_entry ([.ref o, .int (zI z1), .int (zI z2), .int (zI zq), .int (zI zl), .ref oj]) (n := 7) (Nat.le_of_ble_eq_true rfl)
  rw [lg_entry_eq]
  generalize (lg_sl ([.ref o, .int (zI z1), .int (zI z2), .int (zI zq), .int (zI zl), .ref oj]) ++ List.replicate (7 - (lg_sl ([.ref o, .int (zI z1), .int (zI z2), .int (zI zq), .int (zI zl), .ref oj])).length) Slot.unset).toArray = ls at hl ⊢
  have hl : lv_has ls 7 [(0, .ref o), (1, .int (zI z1)), (2, .int (zI z2)), (3, .int (zI zq)), (4, .int (zI zl)), (5, .ref oj)] := hl
  have hS : va_S (xB o oj) s.heap s.heap [] := va_S.rf
  have hA : ∀ q, xB o oj q → lo ≤ q := fun q h => by rcases h with h | h <;> omega
  have hWlt := hW.lt
  refine lv_aload hx hb dL_cross_0 (lv_at hl 5 rfl) ?_
  refine x_iconst hx hb dL_cross_2 ?_
  refine lv_aload_n hx hb dL_cross_3 rfl (lv_at hl 0 rfl) ?_
  refine lv_iload_n hx hb dL_cross_4 rfl (lv_at hl 1 rfl) ?_
  refine lv_iload_n hx hb dL_cross_5 rfl (lv_at hl 2 rfl) ?_
  refine lv_iload_n hx hb dL_cross_6 rfl (lv_at hl 3 rfl) ?_
  refine lv_iload hx hb dL_cross_7 (lv_at hl 4 rfl) ?_
  refine vx_calli (vx_runV (As := [.int (zI z1), .int (zI z2), .int (zI zq), .int (zI zl)]) (rest := [.int (zI 0), .ref oj]) ⟨hx, hb, hml, hown, hts⟩ (c_X3_cross l hfl G o lo hlo b lim dif z1 hz1 z2 hz2 zq hzq zl hzl) (cwV 4 hts gL_cross_X3_cross rfl rfl rfl (by decide +kernel) ⟨Nat.le_of_ble_eq_true rfl, Nat.le_of_ble_eq_true rfl⟩) (x_preT hW hi hK hT hS hA hW.jr (ci := 3) (q := (RX3, TX3, 3)) rfl) rfl rfl hl.1 rfl (lv_room (Nat.le_of_ble_eq_true rfl)) dL_cross_9 ⟨Nat.le_of_ble_eq_true rfl, Nat.le_of_ble_eq_true rfl⟩) hS (fun q _ h => Or.inl h) (fun q h => Or.inl h) (fun q _ h => h.elim) (fun E ce q9 u t H1 locs1 ht _ _ hbx hz hk hS hcell hcv hcl => ?_) (fun r u t H1 locs1 ht _ hp hB hz hk hS => ?_)
  · have hJ1 := hJ.kept (hk _ hJ.lt (fun x => x))
    have hX1 : BX G o b H1 := ⟨lim, dif, hW.kept (fun a h1 h2 => hk a (by omega) (fun x => x))⟩
    rcases hbx with ⟨rfl, hk1⟩ | ⟨rfl, hk1⟩
    · refine vx_catch (name := nIA) hown [] _ _ htab (fun z hz => by cases hz) (by decide) (by decide) (hts (.classLink RL 13 nIA) (by decide +kernel)) (va_Nw.use rfl (hT.2.2.2 (.castable nIA nIA) (List.mem_of_getElem? (i := 3) rfl))) hcell hcv hcl ?_
      refine lv_astore (lv' := _) hx hb dL_cross_17 hl (by decide) rfl (fun ls hl => ?_)
      refine x_iconst hx hb dL_cross_19 ?_
      exact W.iret hx hb hr (fun t ht2 _ => ⟨⟨_, (), rfl, congrArg zI hk1.symm, H1, ht2, w_no hk1 (by decide) hX1, w, hJ1, fun h => absurd (hk1.symm.trans h) (by decide)⟩, hS.F ht2⟩) hS.2.2 dL_cross_20
    · exact (kR_2 hk1).elim
  · obtain ⟨hk0, rfl⟩ := hp
    obtain ⟨Hx, e1, hX⟩ := hB
    have e2 : Hx = H1 := e1.symm.trans ht
    subst e2
    have hJ1 := hJ.kept (hk _ hJ.lt (fun (h : o ≤ oj ∧ oj < o + 127) => by omega))
    refine lv_i2l hx hb dL_cross_12 rfl ?_
    refine x_last hx hb hK hJ1 hS (Or.inr rfl) dL_cross_13 (fun H2 locs2 h2 zz2 nn2 hS => ?_)
    refine lv_goto (tgt := 21) hx hb dL_cross_14 (by decide) ?_
    refine x_iconst hx hb dL_cross_21 ?_
    have hX2 : BX G o (oB_cross b z1 z2 zq zl) H2 := by
      obtain ⟨lim2, dif2, hX⟩ := hX
      exact ⟨lim2, dif2, hX.kept (fun a h1 h2 => nn2 a (by omega))⟩
    exact W.iret hx hb hr (fun t ht2 _ => ⟨⟨_, (), rfl, congrArg zI hk0.symm, H2, ht2, w_yes hk0 hX2, _, h2, fun _ => rfl⟩, hS.F ht2⟩) hS.2.2 dL_cross_22
def oK_crossed (b : XB) (zr : Int) : Int := (kR (1 ≤ zr ∧ zr ≤ (bL b : Int)) 0)
def oV_crossed (b : XB) (zr : Int) : Int := (bLD b (zr.toNat - 1) : Int)
def oB_crossed (b : XB) (zr : Int) : XB := b
set_option maxHeartbeats 4000000 in
set_option maxRecDepth 100000 in
theorem c_L_crossed (l : Launch) (hfl : l.stackTraces = false) (G : XG) (o oj lo : Nat) (hlo : lo ≤ o) (hoj : o + 127 ≤ oj) (b : XB) (zr : Int) (hzr : -2147483648 ≤ zr ∧ zr < 2147483648) : MetW l yL_crossed wsL_crossed (rmP 8 124) G o oj lo b [.ref o, .int (zI zr), .ref oj] (oK_crossed b zr) ((zI (oV_crossed b zr)).toInt64) (oB_crossed b zr) := by
  refine x_ofWH (cc := cL_crossed) (maxL := 4) (ret := some .int) (hh := [(0, 9, 12, 13)]) (by decide) rfl ?_
  intro p e s m args below meth c s₁ B hml hv
  obtain ⟨rfl, ⟨lim, dif, hW⟩, ⟨w, hJ⟩, hi, hK, hT, hN⟩ := hv
  have hx := B.exec
  have hb := B.bytes
  have hr := B.returns
  have hts := atoms_spec (ws := wsL_crossed) B.pre
  have hown : s.vm.findClass RL = some m.cls := findClass_of_methodNamed B.named
  have hlocks := B.notSynchronized
  have htab : c.exceptionTable.toList = tableOf [(0, 9, 12, 13)] := vx_table (x := yL_crossed) B (hts _ List.mem_cons_self)
  have hl := lv_entry ([.ref o, .int (zI zr), .ref oj]) (n := 4) (Nat.le_of_ble_eq_true rfl)
  rw [lg_entry_eq]
  generalize (lg_sl ([.ref o, .int (zI zr), .ref oj]) ++ List.replicate (4 - (lg_sl ([.ref o, .int (zI zr), .ref oj])).length) Slot.unset).toArray = ls at hl ⊢
  have hl : lv_has ls 4 [(0, .ref o), (1, .int (zI zr)), (2, .ref oj)] := hl
  have hS : va_S (xB o oj) s.heap s.heap [] := va_S.rf
  have hA : ∀ q, xB o oj q → lo ≤ q := fun q h => by rcases h with h | h <;> omega
  have hWlt := hW.lt
  refine lv_aload_n hx hb dL_crossed_0 rfl (lv_at hl 2 rfl) ?_
  refine x_iconst hx hb dL_crossed_1 ?_
  refine lv_aload_n hx hb dL_crossed_2 rfl (lv_at hl 0 rfl) ?_
  refine lv_iload_n hx hb dL_crossed_3 rfl (lv_at hl 1 rfl) ?_
  refine vx_calli (vx_runV (As := [.int (zI zr)]) (rest := [.int (zI 0), .ref oj]) ⟨hx, hb, hml, hown, hts⟩ (c_X3_crossed l hfl G o lo hlo b lim dif zr hzr) (cwV 1 hts gL_crossed_X3_crossed rfl rfl rfl (by decide +kernel) ⟨Nat.le_of_ble_eq_true rfl, Nat.le_of_ble_eq_true rfl⟩) (x_preT hW hi hK hT hS hA hW.jr (ci := 3) (q := (RX3, TX3, 3)) rfl) rfl rfl hl.1 rfl (lv_room (Nat.le_of_ble_eq_true rfl)) dL_crossed_4 ⟨Nat.le_of_ble_eq_true rfl, Nat.le_of_ble_eq_true rfl⟩) hS (fun q _ h => Or.inl h) (fun q h => Or.inl h) (fun q _ h => h.elim) (fun E ce q9 u t H1 locs1 ht _ _ hbx hz hk hS hcell hcv hcl => ?_) (fun r u t H1 locs1 ht _ hp hB hz hk hS => ?_)
  · have hJ1 := hJ.kept (hk _ hJ.lt (fun x => x))
    have hX1 : BX G o b H1 := ⟨lim, dif, hW.kept (fun a h1 h2 => hk a (by omega) (fun x => x))⟩
    rcases hbx with ⟨rfl, hk1⟩ | ⟨rfl, hk1⟩
    · refine vx_catch (name := nIA) hown [] _ _ htab (fun z hz => by cases hz) (by decide) (by decide) (hts (.classLink RL 13 nIA) (by decide +kernel)) (va_Nw.use rfl (hT.2.2.2 (.castable nIA nIA) (List.mem_of_getElem? (i := 3) rfl))) hcell hcv hcl ?_
      refine lv_astore_n (lv' := _) hx hb dL_crossed_12 rfl hl (by decide) rfl (fun ls hl => ?_)
      refine x_iconst hx hb dL_crossed_13 ?_
      exact W.iret hx hb hr (fun t ht2 _ => ⟨⟨_, (), rfl, congrArg zI hk1.symm, H1, ht2, w_no hk1 (by decide) hX1, w, hJ1, fun h => absurd (hk1.symm.trans h) (by decide)⟩, hS.F ht2⟩) hS.2.2 dL_crossed_14
    · exact (kR_2 hk1).elim
  · obtain ⟨hk0, rfl⟩ := hp
    obtain ⟨Hx, e1, hX⟩ := hB
    have e2 : Hx = H1 := e1.symm.trans ht
    subst e2
    have hJ1 := hJ.kept (hk _ hJ.lt (fun (h : o ≤ oj ∧ oj < o + 127) => by omega))
    refine lv_i2l hx hb dL_crossed_7 rfl ?_
    refine x_last hx hb hK hJ1 hS (Or.inr rfl) dL_crossed_8 (fun H2 locs2 h2 zz2 nn2 hS => ?_)
    refine lv_goto (tgt := 15) hx hb dL_crossed_9 (by decide) ?_
    refine x_iconst hx hb dL_crossed_15 ?_
    have hX2 : BX G o (oB_crossed b zr) H2 := by
      obtain ⟨lim2, dif2, hX⟩ := hX
      exact ⟨lim2, dif2, hX.kept (fun a h1 h2 => nn2 a (by omega))⟩
    exact W.iret hx hb hr (fun t ht2 _ => ⟨⟨_, (), rfl, congrArg zI hk0.symm, H2, ht2, w_yes hk0 hX2, _, h2, fun _ => rfl⟩, hS.F ht2⟩) hS.2.2 dL_crossed_16
def oK_click (b : XB) (zr : Int) : Int := (kR (1 ≤ zr ∧ zr ≤ (bL b : Int)) (kClkN b (zr.toNat - 1)))
def oV_click (b : XB) (zr : Int) : Int := (bLG b (zr.toNat - 1) : Int)
def oB_click (b : XB) (zr : Int) : XB := (uLC b (zr.toNat - 1) 1)
set_option maxHeartbeats 4000000 in
set_option maxRecDepth 100000 in
theorem c_L_click (l : Launch) (hfl : l.stackTraces = false) (G : XG) (o oj lo : Nat) (hlo : lo ≤ o) (hoj : o + 127 ≤ oj) (b : XB) (zr : Int) (hzr : -2147483648 ≤ zr ∧ zr < 2147483648) : MetW l yL_click wsL_click (rmP 8 124) G o oj lo b [.ref o, .int (zI zr), .ref oj] (oK_click b zr) ((zI (oV_click b zr)).toInt64) (oB_click b zr) := by
  refine x_ofWH (cc := cL_click) (maxL := 4) (ret := some .int) (hh := [(0, 9, 12, 13), (0, 9, 15, 15)]) (by decide) rfl ?_
  intro p e s m args below meth c s₁ B hml hv
  obtain ⟨rfl, ⟨lim, dif, hW⟩, ⟨w, hJ⟩, hi, hK, hT, hN⟩ := hv
  have hx := B.exec
  have hb := B.bytes
  have hr := B.returns
  have hts := atoms_spec (ws := wsL_click) B.pre
  have hown : s.vm.findClass RL = some m.cls := findClass_of_methodNamed B.named
  have hlocks := B.notSynchronized
  have htab : c.exceptionTable.toList = tableOf [(0, 9, 12, 13), (0, 9, 15, 15)] := vx_table (x := yL_click) B (hts _ List.mem_cons_self)
  have hl := lv_entry ([.ref o, .int (zI zr), .ref oj]) (n := 4) (Nat.le_of_ble_eq_true rfl)
  rw [lg_entry_eq]
  generalize (lg_sl ([.ref o, .int (zI zr), .ref oj]) ++ List.replicate (4 - (lg_sl ([.ref o, .int (zI zr), .ref oj])).length) Slot.unset).toArray = ls at hl ⊢
  have hl : lv_has ls 4 [(0, .ref o), (1, .int (zI zr)), (2, .ref oj)] := hl
  have hS : va_S (xB o oj) s.heap s.heap [] := va_S.rf
  have hA : ∀ q, xB o oj q → lo ≤ q := fun q h => by rcases h with h | h <;> omega
  have hWlt := hW.lt
  refine lv_aload_n hx hb dL_click_0 rfl (lv_at hl 2 rfl) ?_
  refine x_iconst hx hb dL_click_1 ?_
  refine lv_aload_n hx hb dL_click_2 rfl (lv_at hl 0 rfl) ?_
  refine lv_iload_n hx hb dL_click_3 rfl (lv_at hl 1 rfl) ?_
  refine vx_calli (vx_runV (As := [.int (zI zr)]) (rest := [.int (zI 0), .ref oj]) ⟨hx, hb, hml, hown, hts⟩ (c_X3_click l hfl G o lo hlo b lim dif zr hzr) (cwV 1 hts gL_click_X3_click rfl rfl rfl (by decide +kernel) ⟨Nat.le_of_ble_eq_true rfl, Nat.le_of_ble_eq_true rfl⟩) (x_preT hW hi hK hT hS hA hW.jr (ci := 3) (q := (RX3, TX3, 3)) rfl) rfl rfl hl.1 rfl (lv_room (Nat.le_of_ble_eq_true rfl)) dL_click_4 ⟨Nat.le_of_ble_eq_true rfl, Nat.le_of_ble_eq_true rfl⟩) hS (fun q _ h => Or.inl h) (fun q h => Or.inl h) (fun q _ h => h.elim) (fun E ce q9 u t H1 locs1 ht _ _ hbx hz hk hS hcell hcv hcl => ?_) (fun r u t H1 locs1 ht _ hp hB hz hk hS => ?_)
  · have hJ1 := hJ.kept (hk _ hJ.lt (fun x => x))
    have hX1 : BX G o b H1 := ⟨lim, dif, hW.kept (fun a h1 h2 => hk a (by omega) (fun x => x))⟩
    rcases hbx with ⟨rfl, hk1⟩ | ⟨rfl, hk1⟩
    · refine vx_catch (name := nIA) hown [] _ _ htab (fun z hz => by cases hz) (by decide) (by decide) (hts (.classLink RL 13 nIA) (by decide +kernel)) (va_Nw.use rfl (hT.2.2.2 (.castable nIA nIA) (List.mem_of_getElem? (i := 3) rfl))) hcell hcv hcl ?_
      refine lv_astore_n (lv' := _) hx hb dL_click_12 rfl hl (by decide) rfl (fun ls hl => ?_)
      refine x_iconst hx hb dL_click_13 ?_
      exact W.iret hx hb hr (fun t ht2 _ => ⟨⟨_, (), rfl, congrArg zI hk1.symm, H1, ht2, w_no hk1 (by decide) hX1, w, hJ1, fun h => absurd (hk1.symm.trans h) (by decide)⟩, hS.F ht2⟩) hS.2.2 dL_click_14
    · refine vx_catch (name := nIS) hown [⟨0, 9, 12, 13⟩] _ _ htab (fun z hz => by rcases List.mem_singleton.mp hz with rfl; exact Or.inr ⟨by decide, nIA, hts (.classLink RL 13 nIA) (by decide +kernel), hN⟩) (by decide) (by decide) (hts (.classLink RL 15 nIS) (by decide +kernel)) (va_Nw.use rfl (hT.2.2.2 (.castable nIS nIS) (List.mem_of_getElem? (i := 4) rfl))) hcell hcv hcl ?_
      refine lv_astore_n (lv' := _) hx hb dL_click_15 rfl hl (by decide) rfl (fun ls hl => ?_)
      refine x_iconst hx hb dL_click_16 ?_
      exact W.iret hx hb hr (fun t ht2 _ => ⟨⟨_, (), rfl, congrArg zI hk1.symm, H1, ht2, w_no hk1 (by decide) hX1, w, hJ1, fun h => absurd (hk1.symm.trans h) (by decide)⟩, hS.F ht2⟩) hS.2.2 dL_click_17
  · obtain ⟨hk0, rfl⟩ := hp
    obtain ⟨Hx, e1, hX⟩ := hB
    have e2 : Hx = H1 := e1.symm.trans ht
    subst e2
    have hJ1 := hJ.kept (hk _ hJ.lt (fun (h : o ≤ oj ∧ oj < o + 127) => by omega))
    refine lv_i2l hx hb dL_click_7 rfl ?_
    refine x_last hx hb hK hJ1 hS (Or.inr rfl) dL_click_8 (fun H2 locs2 h2 zz2 nn2 hS => ?_)
    refine lv_goto (tgt := 18) hx hb dL_click_9 (by decide) ?_
    refine x_iconst hx hb dL_click_18 ?_
    have hX2 : BX G o (oB_click b zr) H2 := by
      obtain ⟨lim2, dif2, hX⟩ := hX
      exact ⟨lim2, dif2, hX.kept (fun a h1 h2 => nn2 a (by omega))⟩
    exact W.iret hx hb hr (fun t ht2 _ => ⟨⟨_, (), rfl, congrArg zI hk0.symm, H2, ht2, w_yes hk0 hX2, _, h2, fun _ => rfl⟩, hS.F ht2⟩) hS.2.2 dL_click_19
def oK_credit (b : XB) (zs : Int) : Int := (kR (0 ≤ zs ∧ zs < 4) 0)
def oV_credit (b : XB) (zs : Int) : Int := (cfN b zs : Int)
def oB_credit (b : XB) (zs : Int) : XB := b
set_option maxHeartbeats 4000000 in
set_option maxRecDepth 100000 in
theorem c_L_credit (l : Launch) (hfl : l.stackTraces = false) (G : XG) (o oj lo : Nat) (hlo : lo ≤ o) (hoj : o + 127 ≤ oj) (b : XB) (zs : Int) (hzs : -2147483648 ≤ zs ∧ zs < 2147483648) : MetW l yL_credit wsL_credit (rmP 8 123) G o oj lo b [.ref o, .int (zI zs), .ref oj] (oK_credit b zs) ((zI (oV_credit b zs)).toInt64) (oB_credit b zs) := by
  refine x_ofWH (cc := cL_credit) (maxL := 4) (ret := some .int) (hh := [(0, 9, 12, 13)]) (by decide) rfl ?_
  intro p e s m args below meth c s₁ B hml hv
  obtain ⟨rfl, ⟨lim, dif, hW⟩, ⟨w, hJ⟩, hi, hK, hT, hN⟩ := hv
  have hx := B.exec
  have hb := B.bytes
  have hr := B.returns
  have hts := atoms_spec (ws := wsL_credit) B.pre
  have hown : s.vm.findClass RL = some m.cls := findClass_of_methodNamed B.named
  have hlocks := B.notSynchronized
  have htab : c.exceptionTable.toList = tableOf [(0, 9, 12, 13)] := vx_table (x := yL_credit) B (hts _ List.mem_cons_self)
  have hl := lv_entry ([.ref o, .int (zI zs), .ref oj]) (n := 4) (Nat.le_of_ble_eq_true rfl)
  rw [lg_entry_eq]
  generalize (lg_sl ([.ref o, .int (zI zs), .ref oj]) ++ List.replicate (4 - (lg_sl ([.ref o, .int (zI zs), .ref oj])).length) Slot.unset).toArray = ls at hl ⊢
  have hl : lv_has ls 4 [(0, .ref o), (1, .int (zI zs)), (2, .ref oj)] := hl
  have hS : va_S (xB o oj) s.heap s.heap [] := va_S.rf
  have hA : ∀ q, xB o oj q → lo ≤ q := fun q h => by rcases h with h | h <;> omega
  have hWlt := hW.lt
  refine lv_aload_n hx hb dL_credit_0 rfl (lv_at hl 2 rfl) ?_
  refine x_iconst hx hb dL_credit_1 ?_
  refine lv_aload_n hx hb dL_credit_2 rfl (lv_at hl 0 rfl) ?_
  refine lv_iload_n hx hb dL_credit_3 rfl (lv_at hl 1 rfl) ?_
  refine vx_calli (vx_runV (As := [.int (zI zs)]) (rest := [.int (zI 0), .ref oj]) ⟨hx, hb, hml, hown, hts⟩ (c_X3_credit l hfl G o lo hlo b lim dif zs hzs) (cwV 1 hts gL_credit_X3_credit rfl rfl rfl (by decide +kernel) ⟨Nat.le_of_ble_eq_true rfl, Nat.le_of_ble_eq_true rfl⟩) (x_preT hW hi hK hT hS hA hW.jr (ci := 3) (q := (RX3, TX3, 3)) rfl) rfl rfl hl.1 rfl (lv_room (Nat.le_of_ble_eq_true rfl)) dL_credit_4 ⟨Nat.le_of_ble_eq_true rfl, Nat.le_of_ble_eq_true rfl⟩) hS (fun q _ h => Or.inl h) (fun q h => Or.inl h) (fun q _ h => h.elim) (fun E ce q9 u t H1 locs1 ht _ _ hbx hz hk hS hcell hcv hcl => ?_) (fun r u t H1 locs1 ht _ hp hB hz hk hS => ?_)
  · have hJ1 := hJ.kept (hk _ hJ.lt (fun x => x))
    have hX1 : BX G o b H1 := ⟨lim, dif, hW.kept (fun a h1 h2 => hk a (by omega) (fun x => x))⟩
    rcases hbx with ⟨rfl, hk1⟩ | ⟨rfl, hk1⟩
    · refine vx_catch (name := nIA) hown [] _ _ htab (fun z hz => by cases hz) (by decide) (by decide) (hts (.classLink RL 13 nIA) (by decide +kernel)) (va_Nw.use rfl (hT.2.2.2 (.castable nIA nIA) (List.mem_of_getElem? (i := 3) rfl))) hcell hcv hcl ?_
      refine lv_astore_n (lv' := _) hx hb dL_credit_12 rfl hl (by decide) rfl (fun ls hl => ?_)
      refine x_iconst hx hb dL_credit_13 ?_
      exact W.iret hx hb hr (fun t ht2 _ => ⟨⟨_, (), rfl, congrArg zI hk1.symm, H1, ht2, w_no hk1 (by decide) hX1, w, hJ1, fun h => absurd (hk1.symm.trans h) (by decide)⟩, hS.F ht2⟩) hS.2.2 dL_credit_14
    · exact (kR_2 hk1).elim
  · obtain ⟨hk0, rfl⟩ := hp
    obtain ⟨Hx, e1, hX⟩ := hB
    have e2 : Hx = H1 := e1.symm.trans ht
    subst e2
    have hJ1 := hJ.kept (hk _ hJ.lt (fun (h : o ≤ oj ∧ oj < o + 127) => by omega))
    refine lv_i2l hx hb dL_credit_7 rfl ?_
    refine x_last hx hb hK hJ1 hS (Or.inr rfl) dL_credit_8 (fun H2 locs2 h2 zz2 nn2 hS => ?_)
    refine lv_goto (tgt := 15) hx hb dL_credit_9 (by decide) ?_
    refine x_iconst hx hb dL_credit_15 ?_
    have hX2 : BX G o (oB_credit b zs) H2 := by
      obtain ⟨lim2, dif2, hX⟩ := hX
      exact ⟨lim2, dif2, hX.kept (fun a h1 h2 => nn2 a (by omega))⟩
    exact W.iret hx hb hr (fun t ht2 _ => ⟨⟨_, (), rfl, congrArg zI hk0.symm, H2, ht2, w_yes hk0 hX2, _, h2, fun _ => rfl⟩, hS.F ht2⟩) hS.2.2 dL_credit_16
def oK_sum (b : XB) (z1 z2 zr : Int) : Int := (kR ((0 ≤ z1 ∧ z1 < 4) ∧ (0 ≤ z2 ∧ z2 < 4) ∧ (1 ≤ zr ∧ zr ≤ 20)) 0)
def oV_sum (b : XB) (z1 z2 zr : Int) : Int := (sxZ (dfZ b z1.toNat z2.toNat zr.toNat) 0)
def oB_sum (b : XB) (z1 z2 zr : Int) : XB := b
set_option maxHeartbeats 4000000 in
set_option maxRecDepth 100000 in
theorem c_L_sum (l : Launch) (hfl : l.stackTraces = false) (G : XG) (o oj lo : Nat) (hlo : lo ≤ o) (hoj : o + 127 ≤ oj) (b : XB) (z1 : Int) (hz1 : -2147483648 ≤ z1 ∧ z1 < 2147483648) (z2 : Int) (hz2 : -2147483648 ≤ z2 ∧ z2 < 2147483648) (zr : Int) (hzr : -2147483648 ≤ zr ∧ zr < 2147483648) : MetW l yL_sum wsL_sum (rmP 8 140) G o oj lo b [.ref o, .int (zI z1), .int (zI z2), .int (zI zr), .ref oj] (oK_sum b z1 z2 zr) ((zI (oV_sum b z1 z2 zr)).toInt64) (oB_sum b z1 z2 zr) := by
  refine x_ofWH (cc := cL_sum) (maxL := 6) (ret := some .int) (hh := [(0, 12, 15, 13)]) (by decide) rfl ?_
  intro p e s m args below meth c s₁ B hml hv
  obtain ⟨rfl, ⟨lim, dif, hW⟩, ⟨w, hJ⟩, hi, hK, hT, hN⟩ := hv
  have hx := B.exec
  have hb := B.bytes
  have hr := B.returns
  have hts := atoms_spec (ws := wsL_sum) B.pre
  have hown : s.vm.findClass RL = some m.cls := findClass_of_methodNamed B.named
  have hlocks := B.notSynchronized
  have htab : c.exceptionTable.toList = tableOf [(0, 12, 15, 13)] := vx_table (x := yL_sum) B (hts _ List.mem_cons_self)
  have hl := lv_entry ([.ref o, .int (zI z1), .int (zI z2), .int (zI zr), .ref oj]) (n := 6) (Nat.le_of_ble_eq_true rfl)
  rw [lg_entry_eq]
  generalize (lg_sl ([.ref o, .int (zI z1), .int (zI z2), .int (zI zr), .ref oj]) ++ List.replicate (6 - (lg_sl ([.ref o, .int (zI z1), .int (zI z2), .int (zI zr), .ref oj])).length) Slot.unset).toArray = ls at hl ⊢
  have hl : lv_has ls 6 [(0, .ref o), (1, .int (zI z1)), (2, .int (zI z2)), (3, .int (zI zr)), (4, .ref oj)] := hl
  have hS : va_S (xB o oj) s.heap s.heap [] := va_S.rf
  have hA : ∀ q, xB o oj q → lo ≤ q := fun q h => by rcases h with h | h <;> omega
  have hWlt := hW.lt
  refine lv_aload hx hb dL_sum_0 (lv_at hl 4 rfl) ?_
  refine x_iconst hx hb dL_sum_2 ?_
  refine lv_aload_n hx hb dL_sum_3 rfl (lv_at hl 0 rfl) ?_
  refine lv_iload_n hx hb dL_sum_4 rfl (lv_at hl 1 rfl) ?_
  refine lv_iload_n hx hb dL_sum_5 rfl (lv_at hl 2 rfl) ?_
  refine lv_iload_n hx hb dL_sum_6 rfl (lv_at hl 3 rfl) ?_
  refine vx_calli (vx_runV (As := [.int (zI z1), .int (zI z2), .int (zI zr)]) (rest := [.int (zI 0), .ref oj]) ⟨hx, hb, hml, hown, hts⟩ (c_X3_sum l hfl G o lo hlo b lim dif z1 hz1 z2 hz2 zr hzr) (cwV 3 hts gL_sum_X3_sum rfl rfl rfl (by decide +kernel) ⟨Nat.le_of_ble_eq_true rfl, Nat.le_of_ble_eq_true rfl⟩) (x_preT hW hi hK hT hS hA hW.jr (ci := 3) (q := (RX3, TX3, 3)) rfl) rfl rfl hl.1 rfl (lv_room (Nat.le_of_ble_eq_true rfl)) dL_sum_7 ⟨Nat.le_of_ble_eq_true rfl, Nat.le_of_ble_eq_true rfl⟩) hS (fun q _ h => Or.inl h) (fun q h => Or.inl h) (fun q _ h => h.elim) (fun E ce q9 u t H1 locs1 ht _ _ hbx hz hk hS hcell hcv hcl => ?_) (fun r u t H1 locs1 ht _ hp hB hz hk hS => ?_)
  · have hJ1 := hJ.kept (hk _ hJ.lt (fun x => x))
    have hX1 : BX G o b H1 := ⟨lim, dif, hW.kept (fun a h1 h2 => hk a (by omega) (fun x => x))⟩
    rcases hbx with ⟨rfl, hk1⟩ | ⟨rfl, hk1⟩
    · refine vx_catch (name := nIA) hown [] _ _ htab (fun z hz => by cases hz) (by decide) (by decide) (hts (.classLink RL 13 nIA) (by decide +kernel)) (va_Nw.use rfl (hT.2.2.2 (.castable nIA nIA) (List.mem_of_getElem? (i := 3) rfl))) hcell hcv hcl ?_
      refine lv_astore (lv' := _) hx hb dL_sum_15 hl (by decide) rfl (fun ls hl => ?_)
      refine x_iconst hx hb dL_sum_17 ?_
      exact W.iret hx hb hr (fun t ht2 _ => ⟨⟨_, (), rfl, congrArg zI hk1.symm, H1, ht2, w_no hk1 (by decide) hX1, w, hJ1, fun h => absurd (hk1.symm.trans h) (by decide)⟩, hS.F ht2⟩) hS.2.2 dL_sum_18
    · exact (kR_2 hk1).elim
  · obtain ⟨hk0, rfl⟩ := hp
    obtain ⟨Hx, e1, hX⟩ := hB
    have e2 : Hx = H1 := e1.symm.trans ht
    subst e2
    have hJ1 := hJ.kept (hk _ hJ.lt (fun (h : o ≤ oj ∧ oj < o + 127) => by omega))
    refine lv_i2l hx hb dL_sum_10 rfl ?_
    refine x_last hx hb hK hJ1 hS (Or.inr rfl) dL_sum_11 (fun H2 locs2 h2 zz2 nn2 hS => ?_)
    refine lv_goto (tgt := 19) hx hb dL_sum_12 (by decide) ?_
    refine x_iconst hx hb dL_sum_19 ?_
    have hX2 : BX G o (oB_sum b z1 z2 zr) H2 := by
      obtain ⟨lim2, dif2, hX⟩ := hX
      exact ⟨lim2, dif2, hX.kept (fun a h1 h2 => nn2 a (by omega))⟩
    exact W.iret hx hb hr (fun t ht2 _ => ⟨⟨_, (), rfl, congrArg zI hk0.symm, H2, ht2, w_yes hk0 hX2, _, h2, fun _ => rfl⟩, hS.F ht2⟩) hS.2.2 dL_sum_20
def oK_test (b : XB) (z1 z2 zr : Int) : Int := (kR ((0 ≤ z1 ∧ z1 < 4) ∧ (0 ≤ z2 ∧ z2 < 4) ∧ (1 ≤ zr ∧ zr ≤ 20)) 0)
def oV_test (b : XB) (z1 z2 zr : Int) : Int := (tsN (dfZ b z1.toNat z2.toNat zr.toNat) : Int)
def oB_test (b : XB) (z1 z2 zr : Int) : XB := b
set_option maxHeartbeats 4000000 in
set_option maxRecDepth 100000 in
theorem c_L_test (l : Launch) (hfl : l.stackTraces = false) (G : XG) (o oj lo : Nat) (hlo : lo ≤ o) (hoj : o + 127 ≤ oj) (b : XB) (z1 : Int) (hz1 : -2147483648 ≤ z1 ∧ z1 < 2147483648) (z2 : Int) (hz2 : -2147483648 ≤ z2 ∧ z2 < 2147483648) (zr : Int) (hzr : -2147483648 ≤ zr ∧ zr < 2147483648) : MetW l yL_test wsL_test (rmP 8 143) G o oj lo b [.ref o, .int (zI z1), .int (zI z2), .int (zI zr), .ref oj] (oK_test b z1 z2 zr) ((zI (oV_test b z1 z2 zr)).toInt64) (oB_test b z1 z2 zr) := by
  refine x_ofWH (cc := cL_test) (maxL := 6) (ret := some .int) (hh := [(0, 12, 15, 13)]) (by decide) rfl ?_
  intro p e s m args below meth c s₁ B hml hv
  obtain ⟨rfl, ⟨lim, dif, hW⟩, ⟨w, hJ⟩, hi, hK, hT, hN⟩ := hv
  have hx := B.exec
  have hb := B.bytes
  have hr := B.returns
  have hts := atoms_spec (ws := wsL_test) B.pre
  have hown : s.vm.findClass RL = some m.cls := findClass_of_methodNamed B.named
  have hlocks := B.notSynchronized
  have htab : c.exceptionTable.toList = tableOf [(0, 12, 15, 13)] := vx_table (x := yL_test) B (hts _ List.mem_cons_self)
  have hl := lv_entry ([.ref o, .int (zI z1), .int (zI z2), .int (zI zr), .ref oj]) (n := 6) (Nat.le_of_ble_eq_true rfl)
  rw [lg_entry_eq]
  generalize (lg_sl ([.ref o, .int (zI z1), .int (zI z2), .int (zI zr), .ref oj]) ++ List.replicate (6 - (lg_sl ([.ref o, .int (zI z1), .int (zI z2), .int (zI zr), .ref oj])).length) Slot.unset).toArray = ls at hl ⊢
  have hl : lv_has ls 6 [(0, .ref o), (1, .int (zI z1)), (2, .int (zI z2)), (3, .int (zI zr)), (4, .ref oj)] := hl
  have hS : va_S (xB o oj) s.heap s.heap [] := va_S.rf
  have hA : ∀ q, xB o oj q → lo ≤ q := fun q h => by rcases h with h | h <;> omega
  have hWlt := hW.lt
  refine lv_aload hx hb dL_test_0 (lv_at hl 4 rfl) ?_
  refine x_iconst hx hb dL_test_2 ?_
  refine lv_aload_n hx hb dL_test_3 rfl (lv_at hl 0 rfl) ?_
  refine lv_iload_n hx hb dL_test_4 rfl (lv_at hl 1 rfl) ?_
  refine lv_iload_n hx hb dL_test_5 rfl (lv_at hl 2 rfl) ?_
  refine lv_iload_n hx hb dL_test_6 rfl (lv_at hl 3 rfl) ?_
  refine vx_calli (vx_runV (As := [.int (zI z1), .int (zI z2), .int (zI zr)]) (rest := [.int (zI 0), .ref oj]) ⟨hx, hb, hml, hown, hts⟩ (c_X3_test l hfl G o lo hlo b lim dif z1 hz1 z2 hz2 zr hzr) (cwV 3 hts gL_test_X3_test rfl rfl rfl (by decide +kernel) ⟨Nat.le_of_ble_eq_true rfl, Nat.le_of_ble_eq_true rfl⟩) (x_preT hW hi hK hT hS hA hW.jr (ci := 3) (q := (RX3, TX3, 3)) rfl) rfl rfl hl.1 rfl (lv_room (Nat.le_of_ble_eq_true rfl)) dL_test_7 ⟨Nat.le_of_ble_eq_true rfl, Nat.le_of_ble_eq_true rfl⟩) hS (fun q _ h => Or.inl h) (fun q h => Or.inl h) (fun q _ h => h.elim) (fun E ce q9 u t H1 locs1 ht _ _ hbx hz hk hS hcell hcv hcl => ?_) (fun r u t H1 locs1 ht _ hp hB hz hk hS => ?_)
  · have hJ1 := hJ.kept (hk _ hJ.lt (fun x => x))
    have hX1 : BX G o b H1 := ⟨lim, dif, hW.kept (fun a h1 h2 => hk a (by omega) (fun x => x))⟩
    rcases hbx with ⟨rfl, hk1⟩ | ⟨rfl, hk1⟩
    · refine vx_catch (name := nIA) hown [] _ _ htab (fun z hz => by cases hz) (by decide) (by decide) (hts (.classLink RL 13 nIA) (by decide +kernel)) (va_Nw.use rfl (hT.2.2.2 (.castable nIA nIA) (List.mem_of_getElem? (i := 3) rfl))) hcell hcv hcl ?_
      refine lv_astore (lv' := _) hx hb dL_test_15 hl (by decide) rfl (fun ls hl => ?_)
      refine x_iconst hx hb dL_test_17 ?_
      exact W.iret hx hb hr (fun t ht2 _ => ⟨⟨_, (), rfl, congrArg zI hk1.symm, H1, ht2, w_no hk1 (by decide) hX1, w, hJ1, fun h => absurd (hk1.symm.trans h) (by decide)⟩, hS.F ht2⟩) hS.2.2 dL_test_18
    · exact (kR_2 hk1).elim
  · obtain ⟨hk0, rfl⟩ := hp
    obtain ⟨Hx, e1, hX⟩ := hB
    have e2 : Hx = H1 := e1.symm.trans ht
    subst e2
    have hJ1 := hJ.kept (hk _ hJ.lt (fun (h : o ≤ oj ∧ oj < o + 127) => by omega))
    refine lv_i2l hx hb dL_test_10 rfl ?_
    refine x_last hx hb hK hJ1 hS (Or.inr rfl) dL_test_11 (fun H2 locs2 h2 zz2 nn2 hS => ?_)
    refine lv_goto (tgt := 19) hx hb dL_test_12 (by decide) ?_
    refine x_iconst hx hb dL_test_19 ?_
    have hX2 : BX G o (oB_test b z1 z2 zr) H2 := by
      obtain ⟨lim2, dif2, hX⟩ := hX
      exact ⟨lim2, dif2, hX.kept (fun a h1 h2 => nn2 a (by omega))⟩
    exact W.iret hx hb hr (fun t ht2 _ => ⟨⟨_, (), rfl, congrArg zI hk0.symm, H2, ht2, w_yes hk0 hX2, _, h2, fun _ => rfl⟩, hS.F ht2⟩) hS.2.2 dL_test_20
