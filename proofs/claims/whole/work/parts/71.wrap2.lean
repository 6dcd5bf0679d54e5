def oK_precisionDenominator (b : XB) (zs zq zr : Int) : Int := (kR ((0 ≤ zs ∧ zs < 4) ∧ (0 ≤ zq ∧ zq < 8) ∧ (1 ≤ zr ∧ zr ≤ 20)) 0)
def oV_precisionDenominator (b : XB) (zs zq zr : Int) : Int := (redN (232792560 * zr).toNat (mhZ b zq.toNat zs.toNat zr).toNat : Int)
def oB_precisionDenominator (b : XB) (zs zq zr : Int) : XB := b
set_option maxHeartbeats 4000000 in
set_option maxRecDepth 100000 in
theorem c_L_precisionDenominator (l : Launch) (hfl : l.stackTraces = false) (G : XG) (o oj lo : Nat) (hlo : lo ≤ o) (hoj : o + 127 ≤ oj) (b : XB) (zs : Int) (hzs : -2147483648 ≤ zs ∧ zs < 2147483648) (zq : Int) (hzq : -2147483648 ≤ zq ∧ zq < 2147483648) (zr : Int) (hzr : -2147483648 ≤ zr ∧ zr < 2147483648) : MetW l yL_precisionDenominator wsL_precisionDenominator (rmP 8 125) G o oj lo b [.ref o, .int (zI zs), .int (zI zq), .int (zI zr), .ref oj] (oK_precisionDenominator b zs zq zr) (lI (oV_precisionDenominator b zs zq zr)) (oB_precisionDenominator b zs zq zr) := by
  refine x_ofWH (cc := cL_precisionDenominator) (maxL := 6) (ret := some .int) (hh := [(0, 11, 14, 13)]) (by decide) rfl ?_
  intro p e s m args below meth c s₁ B hml hv
  obtain ⟨rfl, ⟨lim, dif, hW⟩, ⟨w, hJ⟩, hi, hK, hT, hN⟩ := hv
  have hx := B.exec
  have hb := B.bytes
  have hr := B.returns
  have hts := atoms_spec (ws := wsL_precisionDenominator) B.pre
  have hown : s.vm.findClass RL = some m.cls := findClass_of_methodNamed B.named
  have hlocks := B.notSynchronized
  have htab : c.exceptionTable.toList = tableOf [(0, 11, 14, 13)] := vx_table (x := yL_precisionDenominator) B (hts _ List.mem_cons_self)
  have hl := lv_entry ([.ref o, .int (zI zs), .int (zI zq), .int (zI zr), .ref oj]) (n := 6) (Nat.le_of_ble_eq_true rfl)
  rw [lg_entry_eq]
  generalize (lg_sl ([.ref o, .int (zI zs), .int (zI zq), .int (zI zr), .ref oj]) ++ List.replicate (6 - (lg_sl ([.ref o, .int (zI zs), .int (zI zq), .int (zI zr), .ref oj])).length) Slot.unset).toArray = ls at hl ⊢
  have hl : lv_has ls 6 [(0, .ref o), (1, .int (zI zs)), (2, .int (zI zq)), (3, .int (zI zr)), (4, .ref oj)] := hl
  have hS : va_S (xB o oj) s.heap s.heap [] := va_S.rf
  have hA : ∀ q, xB o oj q → lo ≤ q := fun q h => by rcases h with h | h <;> omega
  have hWlt := hW.lt
  refine lv_aload hx hb dL_precisionDenominator_0 (lv_at hl 4 rfl) ?_
  refine x_iconst hx hb dL_precisionDenominator_2 ?_
  refine lv_aload_n hx hb dL_precisionDenominator_3 rfl (lv_at hl 0 rfl) ?_
  refine lv_iload_n hx hb dL_precisionDenominator_4 rfl (lv_at hl 1 rfl) ?_
  refine lv_iload_n hx hb dL_precisionDenominator_5 rfl (lv_at hl 2 rfl) ?_
  refine lv_iload_n hx hb dL_precisionDenominator_6 rfl (lv_at hl 3 rfl) ?_
  refine vx_calll (vx_runV (As := [.int (zI zs), .int (zI zq), .int (zI zr)]) (rest := [.int (zI 0), .ref oj]) ⟨hx, hb, hml, hown, hts⟩ (c_X3_precisionDenominator l hfl G o lo hlo b lim dif zs hzs zq hzq zr hzr) (cwV 3 hts gL_precisionDenominator_X3_precisionDenominator rfl rfl rfl (by decide +kernel) ⟨Nat.le_of_ble_eq_true rfl, Nat.le_of_ble_eq_true rfl⟩) (x_preT hW hi hK hT hS hA hW.jr (ci := 3) (q := (RX3, TX3, 3)) rfl) rfl rfl hl.1 rfl (lv_room (Nat.le_of_ble_eq_true rfl)) dL_precisionDenominator_7 ⟨Nat.le_of_ble_eq_true rfl, Nat.le_of_ble_eq_true rfl⟩) hS (fun q _ h => Or.inl h) (fun q h => Or.inl h) (fun q _ h => h.elim) (fun E ce q9 u t H1 locs1 ht _ _ hbx hz hk hS hcell hcv hcl => ?_) (fun r u t H1 locs1 ht _ hp hB hz hk hS => ?_)
  · have hJ1 := hJ.kept (hk _ hJ.lt (fun x => x))
    have hX1 : BX G o b H1 := ⟨lim, dif, hW.kept (fun a h1 h2 => hk a (by omega) (fun x => x))⟩
    rcases hbx with ⟨rfl, hk1⟩ | ⟨rfl, hk1⟩
    · refine vx_catch (name := nIA) hown [] _ _ htab (fun z hz => by cases hz) (by decide) (by decide) (hts (.classLink RL 13 nIA) (by decide +kernel)) (va_Nw.use rfl (hT.2.2.2 (.castable nIA nIA) (List.mem_of_getElem? (i := 3) rfl))) hcell hcv hcl ?_
      refine lv_astore (lv' := _) hx hb dL_precisionDenominator_14 hl (by decide) rfl (fun ls hl => ?_)
      refine x_iconst hx hb dL_precisionDenominator_16 ?_
      exact W.iret hx hb hr (fun t ht2 _ => ⟨⟨_, (), rfl, congrArg zI hk1.symm, H1, ht2, w_no hk1 (by decide) hX1, w, hJ1, fun h => absurd (hk1.symm.trans h) (by decide)⟩, hS.F ht2⟩) hS.2.2 dL_precisionDenominator_17
    · exact (kR_2 hk1).elim
  · obtain ⟨hk0, rfl⟩ := hp
    obtain ⟨Hx, e1, hX⟩ := hB
    have e2 : Hx = H1 := e1.symm.trans ht
    subst e2
    have hJ1 := hJ.kept (hk _ hJ.lt (fun (h : o ≤ oj ∧ oj < o + 127) => by omega))
    refine x_last hx hb hK hJ1 hS (Or.inr rfl) dL_precisionDenominator_10 (fun H2 locs2 h2 zz2 nn2 hS => ?_)
    refine lv_goto (tgt := 18) hx hb dL_precisionDenominator_11 (by decide) ?_
    refine x_iconst hx hb dL_precisionDenominator_18 ?_
    have hX2 : BX G o (oB_precisionDenominator b zs zq zr) H2 := by
      obtain ⟨lim2, dif2, hX⟩ := hX
      exact ⟨lim2, dif2, hX.kept (fun a h1 h2 => nn2 a (by omega))⟩
    exact W.iret hx hb hr (fun t ht2 _ => ⟨⟨_, (), rfl, congrArg zI hk0.symm, H2, ht2, w_yes hk0 hX2, _, h2, fun _ => rfl⟩, hS.F ht2⟩) hS.2.2 dL_precisionDenominator_19
def oK_reciprocalNumerator (b : XB) (zs zq : Int) : Int := (kR ((0 ≤ zs ∧ zs < 4) ∧ (0 ≤ zq ∧ zq < 8)) 0)
def oV_reciprocalNumerator (b : XB) (zs zq : Int) : Int := (redN (rpZ b zq.toNat zs.toNat).toNat (rwZ b zq.toNat zs.toNat).toNat : Int)
def oB_reciprocalNumerator (b : XB) (zs zq : Int) : XB := b
set_option maxHeartbeats 4000000 in
set_option maxRecDepth 100000 in
theorem c_L_reciprocalNumerator (l : Launch) (hfl : l.stackTraces = false) (G : XG) (o oj lo : Nat) (hlo : lo ≤ o) (hoj : o + 127 ≤ oj) (b : XB) (zs : Int) (hzs : -2147483648 ≤ zs ∧ zs < 2147483648) (zq : Int) (hzq : -2147483648 ≤ zq ∧ zq < 2147483648) : MetW l yL_reciprocalNumerator wsL_reciprocalNumerator (rmP 8 125) G o oj lo b [.ref o, .int (zI zs), .int (zI zq), .ref oj] (oK_reciprocalNumerator b zs zq) (lI (oV_reciprocalNumerator b zs zq)) (oB_reciprocalNumerator b zs zq) := by
  refine x_ofWH (cc := cL_reciprocalNumerator) (maxL := 5) (ret := some .int) (hh := [(0, 9, 12, 13)]) (by decide) rfl ?_
  intro p e s m args below meth c s₁ B hml hv
  obtain ⟨rfl, ⟨lim, dif, hW⟩, ⟨w, hJ⟩, hi, hK, hT, hN⟩ := hv
  have hx := B.exec
  have hb := B.bytes
  have hr := B.returns
  have hts := atoms_spec (ws := wsL_reciprocalNumerator) B.pre
  have hown : s.vm.findClass RL = some m.cls := findClass_of_methodNamed B.named
  have hlocks := B.notSynchronized
  have htab : c.exceptionTable.toList = tableOf [(0, 9, 12, 13)] := vx_table (x := yL_reciprocalNumerator) B (hts _ List.mem_cons_self)
  have hl := lv_entry ([.ref o, .int (zI zs), .int (zI zq), .ref oj]) (n := 5) (Nat.le_of_ble_eq_true rfl)
  rw [lg_entry_eq]
  generalize (lg_sl ([.ref o, .int (zI zs), .int (zI zq), .ref oj]) ++ List.replicate (5 - (lg_sl ([.ref o, .int (zI zs), .int (zI zq), .ref oj])).length) Slot.unset).toArray = ls at hl ⊢
  have hl : lv_has ls 5 [(0, .ref o), (1, .int (zI zs)), (2, .int (zI zq)), (3, .ref oj)] := hl
  have hS : va_S (xB o oj) s.heap s.heap [] := va_S.rf
  have hA : ∀ q, xB o oj q → lo ≤ q := fun q h => by rcases h with h | h <;> omega
  have hWlt := hW.lt
  refine lv_aload_n hx hb dL_reciprocalNumerator_0 rfl (lv_at hl 3 rfl) ?_
  refine x_iconst hx hb dL_reciprocalNumerator_1 ?_
  refine lv_aload_n hx hb dL_reciprocalNumerator_2 rfl (lv_at hl 0 rfl) ?_
  refine lv_iload_n hx hb dL_reciprocalNumerator_3 rfl (lv_at hl 1 rfl) ?_
  refine lv_iload_n hx hb dL_reciprocalNumerator_4 rfl (lv_at hl 2 rfl) ?_
  refine vx_calll (vx_runV (As := [.int (zI zs), .int (zI zq)]) (rest := [.int (zI 0), .ref oj]) ⟨hx, hb, hml, hown, hts⟩ (c_X3_reciprocalNumerator l hfl G o lo hlo b lim dif zs hzs zq hzq) (cwV 2 hts gL_reciprocalNumerator_X3_reciprocalNumerator rfl rfl rfl (by decide +kernel) ⟨Nat.le_of_ble_eq_true rfl, Nat.le_of_ble_eq_true rfl⟩) (x_preT hW hi hK hT hS hA hW.jr (ci := 3) (q := (RX3, TX3, 3)) rfl) rfl rfl hl.1 rfl (lv_room (Nat.le_of_ble_eq_true rfl)) dL_reciprocalNumerator_5 ⟨Nat.le_of_ble_eq_true rfl, Nat.le_of_ble_eq_true rfl⟩) hS (fun q _ h => Or.inl h) (fun q h => Or.inl h) (fun q _ h => h.elim) (fun E ce q9 u t H1 locs1 ht _ _ hbx hz hk hS hcell hcv hcl => ?_) (fun r u t H1 locs1 ht _ hp hB hz hk hS => ?_)
  · have hJ1 := hJ.kept (hk _ hJ.lt (fun x => x))
    have hX1 : BX G o b H1 := ⟨lim, dif, hW.kept (fun a h1 h2 => hk a (by omega) (fun x => x))⟩
    rcases hbx with ⟨rfl, hk1⟩ | ⟨rfl, hk1⟩
    · refine vx_catch (name := nIA) hown [] _ _ htab (fun z hz => by cases hz) (by decide) (by decide) (hts (.classLink RL 13 nIA) (by decide +kernel)) (va_Nw.use rfl (hT.2.2.2 (.castable nIA nIA) (List.mem_of_getElem? (i := 3) rfl))) hcell hcv hcl ?_
      refine lv_astore (lv' := _) hx hb dL_reciprocalNumerator_12 hl (by decide) rfl (fun ls hl => ?_)
      refine x_iconst hx hb dL_reciprocalNumerator_14 ?_
      exact W.iret hx hb hr (fun t ht2 _ => ⟨⟨_, (), rfl, congrArg zI hk1.symm, H1, ht2, w_no hk1 (by decide) hX1, w, hJ1, fun h => absurd (hk1.symm.trans h) (by decide)⟩, hS.F ht2⟩) hS.2.2 dL_reciprocalNumerator_15
    · exact (kR_2 hk1).elim
  · obtain ⟨hk0, rfl⟩ := hp
    obtain ⟨Hx, e1, hX⟩ := hB
    have e2 : Hx = H1 := e1.symm.trans ht
    subst e2
    have hJ1 := hJ.kept (hk _ hJ.lt (fun (h : o ≤ oj ∧ oj < o + 127) => by omega))
    refine x_last hx hb hK hJ1 hS (Or.inr rfl) dL_reciprocalNumerator_8 (fun H2 locs2 h2 zz2 nn2 hS => ?_)
    refine lv_goto (tgt := 16) hx hb dL_reciprocalNumerator_9 (by decide) ?_
    refine x_iconst hx hb dL_reciprocalNumerator_16 ?_
    have hX2 : BX G o (oB_reciprocalNumerator b zs zq) H2 := by
      obtain ⟨lim2, dif2, hX⟩ := hX
      exact ⟨lim2, dif2, hX.kept (fun a h1 h2 => nn2 a (by omega))⟩
    exact W.iret hx hb hr (fun t ht2 _ => ⟨⟨_, (), rfl, congrArg zI hk0.symm, H2, ht2, w_yes hk0 hX2, _, h2, fun _ => rfl⟩, hS.F ht2⟩) hS.2.2 dL_reciprocalNumerator_17
def oK_reciprocalDenominator (b : XB) (zs zq : Int) : Int := (kR ((0 ≤ zs ∧ zs < 4) ∧ (0 ≤ zq ∧ zq < 8)) 0)
def oV_reciprocalDenominator (b : XB) (zs zq : Int) : Int := (redN (rwZ b zq.toNat zs.toNat).toNat (rpZ b zq.toNat zs.toNat).toNat : Int)
def oB_reciprocalDenominator (b : XB) (zs zq : Int) : XB := b
set_option maxHeartbeats 4000000 in
set_option maxRecDepth 100000 in
theorem c_L_reciprocalDenominator (l : Launch) (hfl : l.stackTraces = false) (G : XG) (o oj lo : Nat) (hlo : lo ≤ o) (hoj : o + 127 ≤ oj) (b : XB) (zs : Int) (hzs : -2147483648 ≤ zs ∧ zs < 2147483648) (zq : Int) (hzq : -2147483648 ≤ zq ∧ zq < 2147483648) : MetW l yL_reciprocalDenominator wsL_reciprocalDenominator (rmP 8 125) G o oj lo b [.ref o, .int (zI zs), .int (zI zq), .ref oj] (oK_reciprocalDenominator b zs zq) (lI (oV_reciprocalDenominator b zs zq)) (oB_reciprocalDenominator b zs zq) := by
  refine x_ofWH (cc := cL_reciprocalDenominator) (maxL := 5) (ret := some .int) (hh := [(0, 9, 12, 13)]) (by decide) rfl ?_
  intro p e s m args below meth c s₁ B hml hv
  obtain ⟨rfl, ⟨lim, dif, hW⟩, ⟨w, hJ⟩, hi, hK, hT, hN⟩ := hv
  have hx := B.exec
  have hb := B.bytes
  have hr := B.returns
  have hts := atoms_spec (ws := wsL_reciprocalDenominator) B.pre
  have hown : s.vm.findClass RL = some m.cls := findClass_of_methodNamed B.named
  have hlocks := B.notSynchronized
  have htab : c.exceptionTable.toList = tableOf [(0, 9, 12, 13)] := vx_table (x := yL_reciprocalDenominator) B (hts _ List.mem_cons_self)
  have hl := lv_entry ([.ref o, .int (zI zs), .int (zI zq), .ref oj]) (n := 5) (Nat.le_of_ble_eq_true rfl)
  rw [lg_entry_eq]
  generalize (lg_sl ([.ref o, .int (zI zs), .int (zI zq), .ref oj]) ++ List.replicate (5 - (lg_sl ([.ref o, .int (zI zs), .int (zI zq), .ref oj])).length) Slot.unset).toArray = ls at hl ⊢
  have hl : lv_has ls 5 [(0, .ref o), (1, .int (zI zs)), (2, .int (zI zq)), (3, .ref oj)] := hl
  have hS : va_S (xB o oj) s.heap s.heap [] := va_S.rf
  have hA : ∀ q, xB o oj q → lo ≤ q := fun q h => by rcases h with h | h <;> omega
  have hWlt := hW.lt
  refine lv_aload_n hx hb dL_reciprocalDenominator_0 rfl (lv_at hl 3 rfl) ?_
  refine x_iconst hx hb dL_reciprocalDenominator_1 ?_
  refine lv_aload_n hx hb dL_reciprocalDenominator_2 rfl (lv_at hl 0 rfl) ?_
  refine lv_iload_n hx hb dL_reciprocalDenominator_3 rfl (lv_at hl 1 rfl) ?_
  refine lv_iload_n hx hb dL_reciprocalDenominator_4 rfl (lv_at hl 2 rfl) ?_
  refine vx_calll (vx_runV (As := [.int (zI zs), .int (zI zq)]) (rest := [.int (zI 0), .ref oj]) ⟨hx, hb, hml, hown, hts⟩ (c_X3_reciprocalDenominator l hfl G o lo hlo b lim dif zs hzs zq hzq) (cwV 2 hts gL_reciprocalDenominator_X3_reciprocalDenominator rfl rfl rfl (by decide +kernel) ⟨Nat.le_of_ble_eq_true rfl, Nat.le_of_ble_eq_true rfl⟩) (x_preT hW hi hK hT hS hA hW.jr (ci := 3) (q := (RX3, TX3, 3)) rfl) rfl rfl hl.1 rfl (lv_room (Nat.le_of_ble_eq_true rfl)) dL_reciprocalDenominator_5 ⟨Nat.le_of_ble_eq_true rfl, Nat.le_of_ble_eq_true rfl⟩) hS (fun q _ h => Or.inl h) (fun q h => Or.inl h) (fun q _ h => h.elim) (fun E ce q9 u t H1 locs1 ht _ _ hbx hz hk hS hcell hcv hcl => ?_) (fun r u t H1 locs1 ht _ hp hB hz hk hS => ?_)
  · have hJ1 := hJ.kept (hk _ hJ.lt (fun x => x))
    have hX1 : BX G o b H1 := ⟨lim, dif, hW.kept (fun a h1 h2 => hk a (by omega) (fun x => x))⟩
    rcases hbx with ⟨rfl, hk1⟩ | ⟨rfl, hk1⟩
    · refine vx_catch (name := nIA) hown [] _ _ htab (fun z hz => by cases hz) (by decide) (by decide) (hts (.classLink RL 13 nIA) (by decide +kernel)) (va_Nw.use rfl (hT.2.2.2 (.castable nIA nIA) (List.mem_of_getElem? (i := 3) rfl))) hcell hcv hcl ?_
      refine lv_astore (lv' := _) hx hb dL_reciprocalDenominator_12 hl (by decide) rfl (fun ls hl => ?_)
      refine x_iconst hx hb dL_reciprocalDenominator_14 ?_
      exact W.iret hx hb hr (fun t ht2 _ => ⟨⟨_, (), rfl, congrArg zI hk1.symm, H1, ht2, w_no hk1 (by decide) hX1, w, hJ1, fun h => absurd (hk1.symm.trans h) (by decide)⟩, hS.F ht2⟩) hS.2.2 dL_reciprocalDenominator_15
    · exact (kR_2 hk1).elim
  · obtain ⟨hk0, rfl⟩ := hp
    obtain ⟨Hx, e1, hX⟩ := hB
    have e2 : Hx = H1 := e1.symm.trans ht
    subst e2
    have hJ1 := hJ.kept (hk _ hJ.lt (fun (h : o ≤ oj ∧ oj < o + 127) => by omega))
    refine x_last hx hb hK hJ1 hS (Or.inr rfl) dL_reciprocalDenominator_8 (fun H2 locs2 h2 zz2 nn2 hS => ?_)
    refine lv_goto (tgt := 16) hx hb dL_reciprocalDenominator_9 (by decide) ?_
    refine x_iconst hx hb dL_reciprocalDenominator_16 ?_
    have hX2 : BX G o (oB_reciprocalDenominator b zs zq) H2 := by
      obtain ⟨lim2, dif2, hX⟩ := hX
      exact ⟨lim2, dif2, hX.kept (fun a h1 h2 => nn2 a (by omega))⟩
    exact W.iret hx hb hr (fun t ht2 _ => ⟨⟨_, (), rfl, congrArg zI hk0.symm, H2, ht2, w_yes hk0 hX2, _, h2, fun _ => rfl⟩, hS.F ht2⟩) hS.2.2 dL_reciprocalDenominator_17
def oK_meanNumerator (b : XB) (zs zr : Int) : Int := (kR ((0 ≤ zs ∧ zs < 4) ∧ (1 ≤ zr ∧ zr ≤ 20)) 0)
def oV_meanNumerator (b : XB) (zs zr : Int) : Int := (redN (shP b zs.toNat zr).toNat (swZ b zs.toNat zr).toNat : Int)
def oB_meanNumerator (b : XB) (zs zr : Int) : XB := b
set_option maxHeartbeats 4000000 in
set_option maxRecDepth 100000 in
theorem c_L_meanNumerator (l : Launch) (hfl : l.stackTraces = false) (G : XG) (o oj lo : Nat) (hlo : lo ≤ o) (hoj : o + 127 ≤ oj) (b : XB) (zs : Int) (hzs : -2147483648 ≤ zs ∧ zs < 2147483648) (zr : Int) (hzr : -2147483648 ≤ zr ∧ zr < 2147483648) : MetW l yL_meanNumerator wsL_meanNumerator (rmP 8 124) G o oj lo b [.ref o, .int (zI zs), .int (zI zr), .ref oj] (oK_meanNumerator b zs zr) (lI (oV_meanNumerator b zs zr)) (oB_meanNumerator b zs zr) := by
  refine x_ofWH (cc := cL_meanNumerator) (maxL := 5) (ret := some .int) (hh := [(0, 9, 12, 13)]) (by decide) rfl ?_
  intro p e s m args below meth c s₁ B hml hv
  obtain ⟨rfl, ⟨lim, dif, hW⟩, ⟨w, hJ⟩, hi, hK, hT, hN⟩ := hv
  have hx := B.exec
  have hb := B.bytes
  have hr := B.returns
  have hts := atoms_spec (ws := wsL_meanNumerator) B.pre
  have hown : s.vm.findClass RL = some m.cls := findClass_of_methodNamed B.named
  have hlocks := B.notSynchronized
  have htab : c.exceptionTable.toList = tableOf [(0, 9, 12, 13)] := vx_table (x := yL_meanNumerator) B (hts _ List.mem_cons_self)
  have hl := lv_entry ([.ref o, .int (zI zs), .int (zI zr), .ref oj]) (n := 5) (Nat.le_of_ble_eq_true rfl)
  rw [lg_entry_eq]
  generalize (lg_sl ([.ref o, .int (zI zs), .int (zI zr), .ref oj]) ++ List.replicate (5 - (lg_sl ([.ref o, .int (zI zs), .int (zI zr), .ref oj])).length) Slot.unset).toArray = ls at hl ⊢
  have hl : lv_has ls 5 [(0, .ref o), (1, .int (zI zs)), (2, .int (zI zr)), (3, .ref oj)] := hl
  have hS : va_S (xB o oj) s.heap s.heap [] := va_S.rf
  have hA : ∀ q, xB o oj q → lo ≤ q := fun q h => by rcases h with h | h <;> omega
  have hWlt := hW.lt
  refine lv_aload_n hx hb dL_meanNumerator_0 rfl (lv_at hl 3 rfl) ?_
  refine x_iconst hx hb dL_meanNumerator_1 ?_
  refine lv_aload_n hx hb dL_meanNumerator_2 rfl (lv_at hl 0 rfl) ?_
  refine lv_iload_n hx hb dL_meanNumerator_3 rfl (lv_at hl 1 rfl) ?_
  refine lv_iload_n hx hb dL_meanNumerator_4 rfl (lv_at hl 2 rfl) ?_
  refine vx_calll (vx_runV (As := [.int (zI zs), .int (zI zr)]) (rest := [.int (zI 0), .ref oj]) ⟨hx, hb, hml, hown, hts⟩ (c_X3_meanNumerator l hfl G o lo hlo b lim dif zs hzs zr hzr) (cwV 2 hts gL_meanNumerator_X3_meanNumerator rfl rfl rfl (by decide +kernel) ⟨Nat.le_of_ble_eq_true rfl, Nat.le_of_ble_eq_true rfl⟩) (x_preT hW hi hK hT hS hA hW.jr (ci := 3) (q := (RX3, TX3, 3)) rfl) rfl rfl hl.1 rfl (lv_room (Nat.le_of_ble_eq_true rfl)) dL_meanNumerator_5 ⟨Nat.le_of_ble_eq_true rfl, Nat.le_of_ble_eq_true rfl⟩) hS (fun q _ h => Or.inl h) (fun q h => Or.inl h) (fun q _ h => h.elim) (fun E ce q9 u t H1 locs1 ht _ _ hbx hz hk hS hcell hcv hcl => ?_) (fun r u t H1 locs1 ht _ hp hB hz hk hS => ?_)
  · have hJ1 := hJ.kept (hk _ hJ.lt (fun x => x))
    have hX1 : BX G o b H1 := ⟨lim, dif, hW.kept (fun a h1 h2 => hk a (by omega) (fun x => x))⟩
    rcases hbx with ⟨rfl, hk1⟩ | ⟨rfl, hk1⟩
    · refine vx_catch (name := nIA) hown [] _ _ htab (fun z hz => by cases hz) (by decide) (by decide) (hts (.classLink RL 13 nIA) (by decide +kernel)) (va_Nw.use rfl (hT.2.2.2 (.castable nIA nIA) (List.mem_of_getElem? (i := 3) rfl))) hcell hcv hcl ?_
      refine lv_astore (lv' := _) hx hb dL_meanNumerator_12 hl (by decide) rfl (fun ls hl => ?_)
      refine x_iconst hx hb dL_meanNumerator_14 ?_
      exact W.iret hx hb hr (fun t ht2 _ => ⟨⟨_, (), rfl, congrArg zI hk1.symm, H1, ht2, w_no hk1 (by decide) hX1, w, hJ1, fun h => absurd (hk1.symm.trans h) (by decide)⟩, hS.F ht2⟩) hS.2.2 dL_meanNumerator_15
    · exact (kR_2 hk1).elim
  · obtain ⟨hk0, rfl⟩ := hp
    obtain ⟨Hx, e1, hX⟩ := hB
    have e2 : Hx = H1 := e1.symm.trans ht
    subst e2
    have hJ1 := hJ.kept (hk _ hJ.lt (fun (h : o ≤ oj ∧ oj < o + 127) => by omega))
    refine x_last hx hb hK hJ1 hS (Or.inr rfl) dL_meanNumerator_8 (fun H2 locs2 h2 zz2 nn2 hS => ?_)
    refine lv_goto (tgt := 16) hx hb dL_meanNumerator_9 (by decide) ?_
    refine x_iconst hx hb dL_meanNumerator_16 ?_
    have hX2 : BX G o (oB_meanNumerator b zs zr) H2 := by
      obtain ⟨lim2, dif2, hX⟩ := hX
      exact ⟨lim2, dif2, hX.kept (fun a h1 h2 => nn2 a (by omega))⟩
    exact W.iret hx hb hr (fun t ht2 _ => ⟨⟨_, (), rfl, congrArg zI hk0.symm, H2, ht2, w_yes hk0 hX2, _, h2, fun _ => rfl⟩, hS.F ht2⟩) hS.2.2 dL_meanNumerator_17
def oK_meanDenominator (b : XB) (zs zr : Int) : Int := (kR ((0 ≤ zs ∧ zs < 4) ∧ (1 ≤ zr ∧ zr ≤ 20)) 0)
def oV_meanDenominator (b : XB) (zs zr : Int) : Int := (redN (swZ b zs.toNat zr).toNat (shP b zs.toNat zr).toNat : Int)
def oB_meanDenominator (b : XB) (zs zr : Int) : XB := b
set_option maxHeartbeats 4000000 in
set_option maxRecDepth 100000 in
theorem c_L_meanDenominator (l : Launch) (hfl : l.stackTraces = false) (G : XG) (o oj lo : Nat) (hlo : lo ≤ o) (hoj : o + 127 ≤ oj) (b : XB) (zs : Int) (hzs : -2147483648 ≤ zs ∧ zs < 2147483648) (zr : Int) (hzr : -2147483648 ≤ zr ∧ zr < 2147483648) : MetW l yL_meanDenominator wsL_meanDenominator (rmP 8 124) G o oj lo b [.ref o, .int (zI zs), .int (zI zr), .ref oj] (oK_meanDenominator b zs zr) (lI (oV_meanDenominator b zs zr)) (oB_meanDenominator b zs zr) := by
  refine x_ofWH (cc := cL_meanDenominator) (maxL := 5) (ret := some .int) (hh := [(0, 9, 12, 13)]) (by decide) rfl ?_
  intro p e s m args below meth c s₁ B hml hv
  obtain ⟨rfl, ⟨lim, dif, hW⟩, ⟨w, hJ⟩, hi, hK, hT, hN⟩ := hv
  have hx := B.exec
  have hb := B.bytes
  have hr := B.returns
  have hts := atoms_spec (ws := wsL_meanDenominator) B.pre
  have hown : s.vm.findClass RL = some m.cls := findClass_of_methodNamed B.named
  have hlocks := B.notSynchronized
  have htab : c.exceptionTable.toList = tableOf [(0, 9, 12, 13)] := vx_table (x := yL_meanDenominator) B (hts _ List.mem_cons_self)
  have hl := lv_entry ([.ref o, .int (zI zs), .int (zI zr), .ref oj]) (n := 5) (Nat.le_of_ble_eq_true rfl)
  rw [lg_entry_eq]
  generalize (lg_sl ([.ref o, .int (zI zs), .int (zI zr), .ref oj]) ++ List.replicate (5 - (lg_sl ([.ref o, .int (zI zs), .int (zI zr), .ref oj])).length) Slot.unset).toArray = ls at hl ⊢
  have hl : lv_has ls 5 [(0, .ref o), (1, .int (zI zs)), (2, .int (zI zr)), (3, .ref oj)] := hl
  have hS : va_S (xB o oj) s.heap s.heap [] := va_S.rf
  have hA : ∀ q, xB o oj q → lo ≤ q := fun q h => by rcases h with h | h <;> omega
  have hWlt := hW.lt
  refine lv_aload_n hx hb dL_meanDenominator_0 rfl (lv_at hl 3 rfl) ?_
  refine x_iconst hx hb dL_meanDenominator_1 ?_
  refine lv_aload_n hx hb dL_meanDenominator_2 rfl (lv_at hl 0 rfl) ?_
  refine lv_iload_n hx hb dL_meanDenominator_3 rfl (lv_at hl 1 rfl) ?_
  refine lv_iload_n hx hb dL_meanDenominator_4 rfl (lv_at hl 2 rfl) ?_
  refine vx_calll (vx_runV (As := [.int (zI zs), .int (zI zr)]) (rest := [.int (zI 0), .ref oj]) ⟨hx, hb, hml, hown, hts⟩ (c_X3_meanDenominator l hfl G o lo hlo b lim dif zs hzs zr hzr) (cwV 2 hts gL_meanDenominator_X3_meanDenominator rfl rfl rfl (by decide +kernel) ⟨Nat.le_of_ble_eq_true rfl, Nat.le_of_ble_eq_true rfl⟩) (x_preT hW hi hK hT hS hA hW.jr (ci := 3) (q := (RX3, TX3, 3)) rfl) rfl rfl hl.1 rfl (lv_room (Nat.le_of_ble_eq_true rfl)) dL_meanDenominator_5 ⟨Nat.le_of_ble_eq_true rfl, Nat.le_of_ble_eq_true rfl⟩) hS (fun q _ h => Or.inl h) (fun q h => Or.inl h) (fun q _ h => h.elim) (fun E ce q9 u t H1 locs1 ht _ _ hbx hz hk hS hcell hcv hcl => ?_) (fun r u t H1 locs1 ht _ hp hB hz hk hS => ?_)
  · have hJ1 := hJ.kept (hk _ hJ.lt (fun x => x))
    have hX1 : BX G o b H1 := ⟨lim, dif, hW.kept (fun a h1 h2 => hk a (by omega) (fun x => x))⟩
    rcases hbx with ⟨rfl, hk1⟩ | ⟨rfl, hk1⟩
    · refine vx_catch (name := nIA) hown [] _ _ htab (fun z hz => by cases hz) (by decide) (by decide) (hts (.classLink RL 13 nIA) (by decide +kernel)) (va_Nw.use rfl (hT.2.2.2 (.castable nIA nIA) (List.mem_of_getElem? (i := 3) rfl))) hcell hcv hcl ?_
      refine lv_astore (lv' := _) hx hb dL_meanDenominator_12 hl (by decide) rfl (fun ls hl => ?_)
      refine x_iconst hx hb dL_meanDenominator_14 ?_
      exact W.iret hx hb hr (fun t ht2 _ => ⟨⟨_, (), rfl, congrArg zI hk1.symm, H1, ht2, w_no hk1 (by decide) hX1, w, hJ1, fun h => absurd (hk1.symm.trans h) (by decide)⟩, hS.F ht2⟩) hS.2.2 dL_meanDenominator_15
    · exact (kR_2 hk1).elim
  · obtain ⟨hk0, rfl⟩ := hp
    obtain ⟨Hx, e1, hX⟩ := hB
    have e2 : Hx = H1 := e1.symm.trans ht
    subst e2
    have hJ1 := hJ.kept (hk _ hJ.lt (fun (h : o ≤ oj ∧ oj < o + 127) => by omega))
    refine x_last hx hb hK hJ1 hS (Or.inr rfl) dL_meanDenominator_8 (fun H2 locs2 h2 zz2 nn2 hS => ?_)
    refine lv_goto (tgt := 16) hx hb dL_meanDenominator_9 (by decide) ?_
    refine x_iconst hx hb dL_meanDenominator_16 ?_
    have hX2 : BX G o (oB_meanDenominator b zs zr) H2 := by
      obtain ⟨lim2, dif2, hX⟩ := hX
      exact ⟨lim2, dif2, hX.kept (fun a h1 h2 => nn2 a (by omega))⟩
    exact W.iret hx hb hr (fun t ht2 _ => ⟨⟨_, (), rfl, congrArg zI hk0.symm, H2, ht2, w_yes hk0 hX2, _, h2, fun _ => rfl⟩, hS.F ht2⟩) hS.2.2 dL_meanDenominator_17
def oK_best (b : XB) (zr : Int) : Int := (kR (1 ≤ zr ∧ zr ≤ 20) 0)
def oV_best (b : XB) (zr : Int) : Int := (bestN b zr : Int)
def oB_best (b : XB) (zr : Int) : XB := b
set_option maxHeartbeats 4000000 in
set_option maxRecDepth 100000 in
theorem c_L_best (l : Launch) (hfl : l.stackTraces = false) (G : XG) (o oj lo : Nat) (hlo : lo ≤ o) (hoj : o + 127 ≤ oj) (b : XB) (zr : Int) (hzr : -2147483648 ≤ zr ∧ zr < 2147483648) : MetW l yL_best wsL_best (rmP 8 133) G o oj lo b [.ref o, .int (zI zr), .ref oj] (oK_best b zr) ((zI (oV_best b zr)).toInt64) (oB_best b zr) := by
  refine x_ofWH (cc := cL_best) (maxL := 4) (ret := some .int) (hh := [(0, 9, 12, 13)]) (by decide) rfl ?_
  intro p e s m args below meth c s₁ B hml hv
  obtain ⟨rfl, ⟨lim, dif, hW⟩, ⟨w, hJ⟩, hi, hK, hT, hN⟩ := hv
  have hx := B.exec
  have hb := B.bytes
  have hr := B.returns
  have hts := atoms_spec (ws := wsL_best) B.pre
  have hown : s.vm.findClass RL = some m.cls := findClass_of_methodNamed B.named
  have hlocks := B.notSynchronized
  have htab : c.exceptionTable.toList = tableOf [(0, 9, 12, 13)] := vx_table (x := yL_best) B (hts _ List.mem_cons_self)
  have hl := lv_entry ([.ref o, .int (zI zr), .ref oj]) (n := 4) (Nat.le_of_ble_eq_true rfl)
  rw [lg_entry_eq]
  generalize (lg_sl ([.ref o, .int (zI zr), .ref oj]) ++ List.replicate (4 - (lg_sl ([.ref o, .int (zI zr), .ref oj])).length) Slot.unset).toArray = ls at hl ⊢
  have hl : lv_has ls 4 [(0, .ref o), (1, .int (zI zr)), (2, .ref oj)] := hl
  have hS : va_S (xB o oj) s.heap s.heap [] := va_S.rf
  have hA : ∀ q, xB o oj q → lo ≤ q := fun q h => by rcases h with h | h <;> omega
  have hWlt := hW.lt
  refine lv_aload_n hx hb dL_best_0 rfl (lv_at hl 2 rfl) ?_
  refine x_iconst hx hb dL_best_1 ?_
  refine lv_aload_n hx hb dL_best_2 rfl (lv_at hl 0 rfl) ?_
  refine lv_iload_n hx hb dL_best_3 rfl (lv_at hl 1 rfl) ?_
  refine vx_calli (vx_runV (As := [.int (zI zr)]) (rest := [.int (zI 0), .ref oj]) ⟨hx, hb, hml, hown, hts⟩ (c_X3_best l hfl G o lo hlo b lim dif zr hzr) (cwV 1 hts gL_best_X3_best rfl rfl rfl (by decide +kernel) ⟨Nat.le_of_ble_eq_true rfl, Nat.le_of_ble_eq_true rfl⟩) (x_preT hW hi hK hT hS hA hW.jr (ci := 3) (q := (RX3, TX3, 3)) rfl) rfl rfl hl.1 rfl (lv_room (Nat.le_of_ble_eq_true rfl)) dL_best_4 ⟨Nat.le_of_ble_eq_true rfl, Nat.le_of_ble_eq_true rfl⟩) hS (fun q _ h => Or.inl h) (fun q h => Or.inl h) (fun q _ h => h.elim) (fun E ce q9 u t H1 locs1 ht _ _ hbx hz hk hS hcell hcv hcl => ?_) (fun r u t H1 locs1 ht _ hp hB hz hk hS => ?_)
  · have hJ1 := hJ.kept (hk _ hJ.lt (fun x => x))
    have hX1 : BX G o b H1 := ⟨lim, dif, hW.kept (fun a h1 h2 => hk a (by omega) (fun x => x))⟩
    rcases hbx with ⟨rfl, hk1⟩ | ⟨rfl, hk1⟩
    · refine vx_catch (name := nIA) hown [] _ _ htab (fun z hz => by cases hz) (by decide) (by decide) (hts (.classLink RL 13 nIA) (by decide +kernel)) (va_Nw.use rfl (hT.2.2.2 (.castable nIA nIA) (List.mem_of_getElem? (i := 3) rfl))) hcell hcv hcl ?_
      refine lv_astore_n (lv' := _) hx hb dL_best_12 rfl hl (by decide) rfl (fun ls hl => ?_)
      refine x_iconst hx hb dL_best_13 ?_
      exact W.iret hx hb hr (fun t ht2 _ => ⟨⟨_, (), rfl, congrArg zI hk1.symm, H1, ht2, w_no hk1 (by decide) hX1, w, hJ1, fun h => absurd (hk1.symm.trans h) (by decide)⟩, hS.F ht2⟩) hS.2.2 dL_best_14
    · exact (kR_2 hk1).elim
  · obtain ⟨hk0, rfl⟩ := hp
    obtain ⟨Hx, e1, hX⟩ := hB
    have e2 : Hx = H1 := e1.symm.trans ht
    subst e2
    have hJ1 := hJ.kept (hk _ hJ.lt (fun (h : o ≤ oj ∧ oj < o + 127) => by omega))
    refine lv_i2l hx hb dL_best_7 rfl ?_
    refine x_last hx hb hK hJ1 hS (Or.inr rfl) dL_best_8 (fun H2 locs2 h2 zz2 nn2 hS => ?_)
    refine lv_goto (tgt := 15) hx hb dL_best_9 (by decide) ?_
    refine x_iconst hx hb dL_best_15 ?_
    have hX2 : BX G o (oB_best b zr) H2 := by
      obtain ⟨lim2, dif2, hX⟩ := hX
      exact ⟨lim2, dif2, hX.kept (fun a h1 h2 => nn2 a (by omega))⟩
    exact W.iret hx hb hr (fun t ht2 _ => ⟨⟨_, (), rfl, congrArg zI hk0.symm, H2, ht2, w_yes hk0 hX2, _, h2, fun _ => rfl⟩, hS.F ht2⟩) hS.2.2 dL_best_16
