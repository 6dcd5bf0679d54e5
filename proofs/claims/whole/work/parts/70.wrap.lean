/-! ===== the law's wrappers: a call, caught ===== -/
theorem x_ofWH {l : Launch} {y : MethodName} {ws ws' : List Cond} {rm : Room} {Pc : Array Value → State → Prop} {Qc : Array Value → State → Outcome → State → Prop} {mc ms : Nat} {free : Addr → Prop} {cc : ByteArray} {maxL : Nat} {ret : Option FieldType} {hh : List (Nat × Nat × Nat × Nat)}
    (hy : plainName y.cls = true) (hw : ws = Cond.codeWith y cc maxL ret hh :: ws')
    (body : ∀ p e s m args below meth c s₁, BodyLoose p l y (headSpec ws rm) cc maxL ret e s m args below meth c s₁ → c.maxLocals = maxL → Pc args s →
      W p l e (headSpec ws rm).room s m args below meth c s.heap [] 0 0 (MQ below Qc args s mc ms free) (entryFrame m args maxL)) : Met l y ws rm Pc Qc mc ms free := by
  refine MetFree.of_bodyS (code := cc) (maxLocals := maxL) (ret := ret) hy ?_ ?_
  · intro args s m h hn
    obtain ⟨m9, meth, c, hn9, h1, h2, h3, h4, -, h5, h6, -⟩ := Cond.codeWith_spec (atoms_spec (ws := ws) h _ (by rw [hw]; exact List.mem_cons_self))
    cases hn.symm.trans hn9
    exact ⟨meth, c, h1, h2, h3, h4, h5, h6⟩
  · intro p e s m args below meth c s₁ B hml hP _
    have hh0 : s₁.heap = s.heap := by rw [B.state]; rfl
    obtain ⟨t, a1, o, b1, b2, b3⟩ := body p e s m args below meth c s₁ B hml hP s₁ hh0 (Stand.of_body B)
    exact ⟨t, o, a1, b1, b2, b3⟩
section XW
variable {p : Program} {l : Launch} {e : Env} {R : Room} {s : State} {m : MethodId} {args : Array Value} {below : List Frame} {meth : Method} {c : Code} {H : Heap} {locs : List Loc} {cells slots : Nat} {Q : State → Prop} {cc : ByteArray} {pc : Nat} {ls : Array Slot} {rest : List Value}
theorem x_last (hx : p.tables.exec = Jvm.exec) (hb : c.code = cc) {G : XG} {aa : Nat} {F : Nat → Int64} {x : Int64} {A : Nat → Prop} {H0 : Heap} (hK : XK G s) (hP : va1 G aa (eJ G F) H) (hS0 : va_S A H0 H locs) (hA : A aa) (hdg : decode cc pc = .ok (.lastore, 1))
    (kk : ∀ (H1 : Heap) (locs1 : List Loc), va1 G aa (eJ G (fun j => if j = 0 then x else F j)) H1 → H1.size = H.size → (∀ q, q ≠ aa → H1[q]? = H[q]?) → va_S A H0 H1 locs1 → W p l e R s m args below meth c H1 locs1 cells slots Q (F0 m (pc + 1) ls rest)) : W p l e R s m args below meth c H locs cells slots Q (F0 m pc ls (.long x :: .int (zI 0) :: .ref aa :: rest)) := by
  have hin : ¬ (zI ((0 : Nat) : Int) < 0 ∨ 1 ≤ (zI ((0 : Nat) : Int)).toNatClampNeg) := zI_in (k := 0) (n := 1) (by decide) (by decide)
  refine W.last hx hb hP ((hK.1.2 4 _ rfl).1 1 (fun j => .long (F j))) (fun q => by cases q) (by show ¬ (zI 0 < 0 ∨ (arrV _ _ _).slots.size ≤ _); rw [arrV_size]; exact hin) rfl rfl hdg fun H1 e z oq => ?_
  refine kk H1 _ ?_ z oq (hS0.put z oq hA)
  show H1[aa]? = some (vp_cell _ _)
  rw [e]
  rw [vp_cell_l, vp_cell_l, arrV_store]
  congr 2
  funext q
  rw [show (zI 0).toNatClampNeg = 0 from by decide +kernel]
  by_cases hq : q = 0
  · subst hq
    simp [updV]
  · simp [updV, hq]
end XW
abbrev xB (o oj : Nat) : Nat → Prop := fun q => (o ≤ q ∧ q < o + 127) ∨ q = oj
abbrev WPc (G : XG) (o oj lo : Nat) (b : XB) (av : List Value) : Array Value → State → Prop := va_Pc av (fun U => BX G o b U.heap ∧ (∃ w, va1 G oj (eJ G w) U.heap) ∧ bInv b ∧ XK G U ∧ XT lo U ∧ va_Nc nIS nIA U)
theorem x_blindW {G : XG} {o oj lo : Nat} {b : XB} {av : List Value} : FrameBlind (WPc G o oj lo b av) := fun a U g mk h => ⟨h.1, h.2.1, h.2.2.1, h.2.2.2.1, h.2.2.2.2.1.warm (U := U.calling g mk a) (State.WarmedH.refl U), h.2.2.2.2.2.1.call, va_Nc.moved (u := U) (U := U.calling g mk a) (Vm.Alike.refl U.vm) h.2.2.2.2.2.2⟩
theorem x_preW {G : XG} {o oj lo : Nat} {b : XB} {s : State} {H : Heap} {As : List Value} {A : Nat → Prop} {locs : List Loc} (hW : BX G o b H) (hJ : ∃ w, va1 G oj (eJ G w) H) (hi : bInv b) (hK : XK G s) (hT : XT lo s) (hN : va_Nc nIS nIA s) (hS : va_S A s.heap H locs) (hA : ∀ q, A q → lo ≤ q) : PreS s H (WPc G o oj lo b As) As :=
  ⟨x_blindW, fun U hU hW' => ⟨rfl, by rw [hU]; exact hW, by rw [hU]; exact hJ, hi, hK.warm hW', hT.to hS hA hW' hU, va_Nc.moved hW'.alike hN⟩⟩
theorem w_no {G : XG} {o : Nat} {b b2 : XB} {H : Heap} {kz n : Int} (h : kz = n) (hn : n ≠ 0) (hX : BX G o b H) : BX G o (if kz = 0 then b2 else b) H := by rw [if_neg (by omega)]; exact hX
theorem w_yes {G : XG} {o : Nat} {b b2 : XB} {H : Heap} {kz : Int} (h : kz = 0) (hX : BX G o b2 H) : BX G o (if kz = 0 then b2 else b) H := by rw [if_pos h]; exact hX
theorem kR_2 {P : Prop} [Decidable P] (h : kR P 0 = 2) : False := by unfold kR at h; split at h <;> omega
abbrev WPw (G : XG) (o oj : Nat) (b b2 : XB) (kz : Int) (lw : Int64) : Heap → Prop := fun H => BX G o (if kz = 0 then b2 else b) H ∧ ∃ w, va1 G oj (eJ G w) H ∧ (kz = 0 → w 0 = lw)
abbrev MetW (l : Launch) (y : MethodName) (ws : List Cond) (rm : Room) (G : XG) (o oj lo : Nat) (b : XB) (av : List Value) (kz : Int) (lw : Int64) (b2 : XB) : Prop := Met l y ws rm (WPc G o oj lo b av) (va_Qi (fun r (_ : Unit) => r = zI kz) (hpw (WPw G o oj b b2 kz lw)) (xB o oj)) 8 48 (xB o oj)
def oK_append (b : XB) (zs zq zd zc : Int) : Int := (kR ((0 ≤ zs ∧ zs < 4) ∧ (0 ≤ zq ∧ zq < 8) ∧ (0 ≤ zd ∧ zd < 40) ∧ (0 ≤ zc ∧ zc ≤ 1000)) (kAppN b zq.toNat zs.toNat zd zc))
def oV_append (b : XB) (zs zq zd zc : Int) : Int := ((bN b zq.toNat zs.toNat : Int) + 1)
def oB_append (b : XB) (zs zq zd zc : Int) : XB := (bApp b zq.toNat zs.toNat zd.toNat zc.toNat)
set_option maxHeartbeats 4000000 in
set_option maxRecDepth 100000 in
theorem c_L_append (l : Launch) (hfl : l.stackTraces = false) (G : XG) (o oj lo : Nat) (hlo : lo ≤ o) (hoj : o + 127 ≤ oj) (b : XB) (zs : Int) (hzs : -2147483648 ≤ zs ∧ zs < 2147483648) (zq : Int) (hzq : -2147483648 ≤ zq ∧ zq < 2147483648) (zd : Int) (hzd : -2147483648 ≤ zd ∧ zd < 2147483648) (zc : Int) (hzc : -2147483648 ≤ zc ∧ zc < 2147483648) : MetW l yL_append wsL_append (rmP 8 127) G o oj lo b [.ref o, .int (zI zs), .int (zI zq), .int (zI zd), .int (zI zc), .ref oj] (oK_append b zs zq zd zc) ((zI (oV_append b zs zq zd zc)).toInt64) (oB_append b zs zq zd zc) := by
  refine x_ofWH (cc := cL_append) (maxL := 7) (ret := some .int) (hh := [(0, 14, 17, 13), (0, 14, 21, 15)]) (by decide) rfl ?_
  intro p e s m args below meth c s₁ B hml hv
  obtain ⟨rfl, ⟨lim, dif, hW⟩, ⟨w, hJ⟩, hi, hK, hT, hN⟩ := hv
  have hx := B.exec
  have hb := B.bytes
  have hr := B.returns
  have hts := atoms_spec (ws := wsL_append) B.pre
  have hown : s.vm.findClass RL = some m.cls := findClass_of_methodNamed B.named
  have hlocks := B.notSynchronized
  have htab : c.exceptionTable.toList = tableOf [(0, 14, 17, 13), (0, 14, 21, 15)] := vx_table (x := yL_append) B (hts _ List.mem_cons_self)
  have hl := lv_entry ([.ref o, .int (zI zs), .int (zI zq), .int (zI zd), .int (zI zc), .ref oj]) (n := 7) (Nat.le_of_ble_eq_true rfl)
  rw [lg_entry_eq]
  generalize (lg_sl ([.ref o, .int (zI zs), .int (zI zq), .int (zI zd), .int (zI zc), .ref oj]) ++ List.replicate (7 - (lg_sl ([.ref o, .int (zI zs), .int (zI zq), .int (zI zd), .int (zI zc), .ref oj])).length) Slot.unset).toArray = ls at hl ⊢
  have hl : lv_has ls 7 [(0, .ref o), (1, .int (zI zs)), (2, .int (zI zq)), (3, .int (zI zd)), (4, .int (zI zc)), (5, .ref oj)] := hl
  have hS : va_S (xB o oj) s.heap s.heap [] := va_S.rf
  have hA : ∀ q, xB o oj q → lo ≤ q := fun q h => by rcases h with h | h <;> omega
  have hWlt := hW.lt
  refine lv_aload hx hb dL_append_0 (lv_at hl 5 rfl) ?_
  refine x_iconst hx hb dL_append_2 ?_
  refine lv_aload_n hx hb dL_append_3 rfl (lv_at hl 0 rfl) ?_
  refine lv_iload_n hx hb dL_append_4 rfl (lv_at hl 1 rfl) ?_
  refine lv_iload_n hx hb dL_append_5 rfl (lv_at hl 2 rfl) ?_
  refine lv_iload_n hx hb dL_append_6 rfl (lv_at hl 3 rfl) ?_
  refine lv_iload hx hb dL_append_7 (lv_at hl 4 rfl) ?_
  refine vx_calli (vx_runV (As := [.int (zI zs), .int (zI zq), .int (zI zd), .int (zI zc)]) (rest := [.int (zI 0), .ref oj]) ⟨hx, hb, hml, hown, hts⟩ (c_X3_append l hfl G o lo hlo b lim dif zs hzs zq hzq zd hzd zc hzc) (cwV 4 hts gL_append_X3_append rfl rfl rfl (by decide +kernel) ⟨Nat.le_of_ble_eq_true rfl, Nat.le_of_ble_eq_true rfl⟩) (x_preT hW hi hK hT hS hA hW.jr (ci := 3) (q := (RX3, TX3, 3)) rfl) rfl rfl hl.1 rfl (lv_room (Nat.le_of_ble_eq_true rfl)) dL_append_9 ⟨Nat.le_of_ble_eq_true rfl, Nat.le_of_ble_eq_true rfl⟩) hS (fun q _ h => Or.inl h) (fun q h => Or.inl h) (fun q _ h => h.elim) (fun E ce q9 u t H1 locs1 ht _ _ hbx hz hk hS hcell hcv hcl => ?_) (fun r u t H1 locs1 ht _ hp hB hz hk hS => ?_)
  · have hJ1 := hJ.kept (hk _ hJ.lt (fun x => x))
    have hX1 : BX G o b H1 := ⟨lim, dif, hW.kept (fun a h1 h2 => hk a (by omega) (fun x => x))⟩
    rcases hbx with ⟨rfl, hk1⟩ | ⟨rfl, hk1⟩
    · refine vx_catch (name := nIA) hown [] _ _ htab (fun z hz => by cases hz) (by decide) (by decide) (hts (.classLink RL 13 nIA) (by decide +kernel)) (va_Nw.use rfl (hT.2.2.2 (.castable nIA nIA) (List.mem_of_getElem? (i := 3) rfl))) hcell hcv hcl ?_
      refine lv_astore (lv' := _) hx hb dL_append_17 hl (by decide) rfl (fun ls hl => ?_)
      refine x_iconst hx hb dL_append_19 ?_
      exact W.iret hx hb hr (fun t ht2 _ => ⟨⟨_, (), rfl, congrArg zI hk1.symm, H1, ht2, w_no hk1 (by decide) hX1, w, hJ1, fun h => absurd (hk1.symm.trans h) (by decide)⟩, hS.F ht2⟩) hS.2.2 dL_append_20
    · refine vx_catch (name := nIS) hown [⟨0, 14, 17, 13⟩] _ _ htab (fun z hz => by rcases List.mem_singleton.mp hz with rfl; exact Or.inr ⟨by decide, nIA, hts (.classLink RL 13 nIA) (by decide +kernel), hN⟩) (by decide) (by decide) (hts (.classLink RL 15 nIS) (by decide +kernel)) (va_Nw.use rfl (hT.2.2.2 (.castable nIS nIS) (List.mem_of_getElem? (i := 4) rfl))) hcell hcv hcl ?_
      refine lv_astore (lv' := _) hx hb dL_append_21 hl (by decide) rfl (fun ls hl => ?_)
      refine x_iconst hx hb dL_append_23 ?_
      exact W.iret hx hb hr (fun t ht2 _ => ⟨⟨_, (), rfl, congrArg zI hk1.symm, H1, ht2, w_no hk1 (by decide) hX1, w, hJ1, fun h => absurd (hk1.symm.trans h) (by decide)⟩, hS.F ht2⟩) hS.2.2 dL_append_24
  · obtain ⟨hk0, rfl⟩ := hp
    obtain ⟨Hx, e1, hX⟩ := hB
    have e2 : Hx = H1 := e1.symm.trans ht
    subst e2
    have hJ1 := hJ.kept (hk _ hJ.lt (fun (h : o ≤ oj ∧ oj < o + 127) => by omega))
    refine lv_i2l hx hb dL_append_12 rfl ?_
    refine x_last hx hb hK hJ1 hS (Or.inr rfl) dL_append_13 (fun H2 locs2 h2 zz2 nn2 hS => ?_)
    refine lv_goto (tgt := 25) hx hb dL_append_14 (by decide) ?_
    refine x_iconst hx hb dL_append_25 ?_
    have hX2 : BX G o (oB_append b zs zq zd zc) H2 := by
      obtain ⟨lim2, dif2, hX⟩ := hX
      exact ⟨lim2, dif2, hX.kept (fun a h1 h2 => nn2 a (by omega))⟩
    exact W.iret hx hb hr (fun t ht2 _ => ⟨⟨_, (), rfl, congrArg zI hk0.symm, H2, ht2, w_yes hk0 hX2, _, h2, fun _ => rfl⟩, hS.F ht2⟩) hS.2.2 dL_append_26
def oK_empty (b : XB) (zs zq : Int) : Int := (kR ((0 ≤ zs ∧ zs < 4) ∧ (0 ≤ zq ∧ zq < 8)) 0)
def oV_empty (b : XB) (zs zq : Int) : Int := (bN b zq.toNat zs.toNat : Int)
def oB_empty (b : XB) (zs zq : Int) : XB := (uN b zq.toNat zs.toNat 0)
set_option maxHeartbeats 4000000 in
set_option maxRecDepth 100000 in
theorem c_L_empty (l : Launch) (hfl : l.stackTraces = false) (G : XG) (o oj lo : Nat) (hlo : lo ≤ o) (hoj : o + 127 ≤ oj) (b : XB) (zs : Int) (hzs : -2147483648 ≤ zs ∧ zs < 2147483648) (zq : Int) (hzq : -2147483648 ≤ zq ∧ zq < 2147483648) : MetW l yL_empty wsL_empty (rmP 8 126) G o oj lo b [.ref o, .int (zI zs), .int (zI zq), .ref oj] (oK_empty b zs zq) ((zI (oV_empty b zs zq)).toInt64) (oB_empty b zs zq) := by
  refine x_ofWH (cc := cL_empty) (maxL := 5) (ret := some .int) (hh := [(0, 10, 13, 13)]) (by decide) rfl ?_
  intro p e s m args below meth c s₁ B hml hv
  obtain ⟨rfl, ⟨lim, dif, hW⟩, ⟨w, hJ⟩, hi, hK, hT, hN⟩ := hv
  have hx := B.exec
  have hb := B.bytes
  have hr := B.returns
  have hts := atoms_spec (ws := wsL_empty) B.pre
  have hown : s.vm.findClass RL = some m.cls := findClass_of_methodNamed B.named
  have hlocks := B.notSynchronized
  have htab : c.exceptionTable.toList = tableOf [(0, 10, 13, 13)] := vx_table (x := yL_empty) B (hts _ List.mem_cons_self)
  have hl := lv_entry ([.ref o, .int (zI zs), .int (zI zq), .ref oj]) (n := 5) (Nat.le_of_ble_eq_true rfl)
  rw [lg_entry_eq]
  generalize (lg_sl ([.ref o, .int (zI zs), .int (zI zq), .ref oj]) ++ List.replicate (5 - (lg_sl ([.ref o, .int (zI zs), .int (zI zq), .ref oj])).length) Slot.unset).toArray = ls at hl ⊢
  have hl : lv_has ls 5 [(0, .ref o), (1, .int (zI zs)), (2, .int (zI zq)), (3, .ref oj)] := hl
  have hS : va_S (xB o oj) s.heap s.heap [] := va_S.rf
  have hA : ∀ q, xB o oj q → lo ≤ q := fun q h => by rcases h with h | h <;> omega
  have hWlt := hW.lt
  refine lv_aload_n hx hb dL_empty_0 rfl (lv_at hl 3 rfl) ?_
  refine x_iconst hx hb dL_empty_1 ?_
  refine lv_aload_n hx hb dL_empty_2 rfl (lv_at hl 0 rfl) ?_
  refine lv_iload_n hx hb dL_empty_3 rfl (lv_at hl 1 rfl) ?_
  refine lv_iload_n hx hb dL_empty_4 rfl (lv_at hl 2 rfl) ?_
  refine vx_calli (vx_runV (As := [.int (zI zs), .int (zI zq)]) (rest := [.int (zI 0), .ref oj]) ⟨hx, hb, hml, hown, hts⟩ (c_X3_empty l hfl G o lo hlo b lim dif zs hzs zq hzq) (cwV 2 hts gL_empty_X3_empty rfl rfl rfl (by decide +kernel) ⟨Nat.le_of_ble_eq_true rfl, Nat.le_of_ble_eq_true rfl⟩) (x_preT hW hi hK hT hS hA hW.jr (ci := 3) (q := (RX3, TX3, 3)) rfl) rfl rfl hl.1 rfl (lv_room (Nat.le_of_ble_eq_true rfl)) dL_empty_5 ⟨Nat.le_of_ble_eq_true rfl, Nat.le_of_ble_eq_true rfl⟩) hS (fun q _ h => Or.inl h) (fun q h => Or.inl h) (fun q _ h => h.elim) (fun E ce q9 u t H1 locs1 ht _ _ hbx hz hk hS hcell hcv hcl => ?_) (fun r u t H1 locs1 ht _ hp hB hz hk hS => ?_)
  · have hJ1 := hJ.kept (hk _ hJ.lt (fun x => x))
    have hX1 : BX G o b H1 := ⟨lim, dif, hW.kept (fun a h1 h2 => hk a (by omega) (fun x => x))⟩
    rcases hbx with ⟨rfl, hk1⟩ | ⟨rfl, hk1⟩
    · refine vx_catch (name := nIA) hown [] _ _ htab (fun z hz => by cases hz) (by decide) (by decide) (hts (.classLink RL 13 nIA) (by decide +kernel)) (va_Nw.use rfl (hT.2.2.2 (.castable nIA nIA) (List.mem_of_getElem? (i := 3) rfl))) hcell hcv hcl ?_
      refine lv_astore (lv' := _) hx hb dL_empty_13 hl (by decide) rfl (fun ls hl => ?_)
      refine x_iconst hx hb dL_empty_15 ?_
      exact W.iret hx hb hr (fun t ht2 _ => ⟨⟨_, (), rfl, congrArg zI hk1.symm, H1, ht2, w_no hk1 (by decide) hX1, w, hJ1, fun h => absurd (hk1.symm.trans h) (by decide)⟩, hS.F ht2⟩) hS.2.2 dL_empty_16
    · exact (kR_2 hk1).elim
  · obtain ⟨hk0, rfl⟩ := hp
    obtain ⟨Hx, e1, hX⟩ := hB
    have e2 : Hx = H1 := e1.symm.trans ht
    subst e2
    have hJ1 := hJ.kept (hk _ hJ.lt (fun (h : o ≤ oj ∧ oj < o + 127) => by omega))
    refine lv_i2l hx hb dL_empty_8 rfl ?_
    refine x_last hx hb hK hJ1 hS (Or.inr rfl) dL_empty_9 (fun H2 locs2 h2 zz2 nn2 hS => ?_)
    refine lv_goto (tgt := 17) hx hb dL_empty_10 (by decide) ?_
    refine x_iconst hx hb dL_empty_17 ?_
    have hX2 : BX G o (oB_empty b zs zq) H2 := by
      obtain ⟨lim2, dif2, hX⟩ := hX
      exact ⟨lim2, dif2, hX.kept (fun a h1 h2 => nn2 a (by omega))⟩
    exact W.iret hx hb hr (fun t ht2 _ => ⟨⟨_, (), rfl, congrArg zI hk0.symm, H2, ht2, w_yes hk0 hX2, _, h2, fun _ => rfl⟩, hS.F ht2⟩) hS.2.2 dL_empty_18
def oK_length (b : XB) (zs zq : Int) : Int := (kR ((0 ≤ zs ∧ zs < 4) ∧ (0 ≤ zq ∧ zq < 8)) 0)
def oV_length (b : XB) (zs zq : Int) : Int := (bN b zq.toNat zs.toNat : Int)
def oB_length (b : XB) (zs zq : Int) : XB := b
set_option maxHeartbeats 4000000 in
set_option maxRecDepth 100000 in
theorem c_L_length (l : Launch) (hfl : l.stackTraces = false) (G : XG) (o oj lo : Nat) (hlo : lo ≤ o) (hoj : o + 127 ≤ oj) (b : XB) (zs : Int) (hzs : -2147483648 ≤ zs ∧ zs < 2147483648) (zq : Int) (hzq : -2147483648 ≤ zq ∧ zq < 2147483648) : MetW l yL_length wsL_length (rmP 8 124) G o oj lo b [.ref o, .int (zI zs), .int (zI zq), .ref oj] (oK_length b zs zq) ((zI (oV_length b zs zq)).toInt64) (oB_length b zs zq) := by
  refine x_ofWH (cc := cL_length) (maxL := 5) (ret := some .int) (hh := [(0, 10, 13, 13)]) (by decide) rfl ?_
  intro p e s m args below meth c s₁ B hml hv
  obtain ⟨rfl, ⟨lim, dif, hW⟩, ⟨w, hJ⟩, hi, hK, hT, hN⟩ := hv
  have hx := B.exec
  have hb := B.bytes
  have hr := B.returns
  have hts := atoms_spec (ws := wsL_length) B.pre
  have hown : s.vm.findClass RL = some m.cls := findClass_of_methodNamed B.named
  have hlocks := B.notSynchronized
  have htab : c.exceptionTable.toList = tableOf [(0, 10, 13, 13)] := vx_table (x := yL_length) B (hts _ List.mem_cons_self)
  have hl := lv_entry ([.ref o, .int (zI zs), .int (zI zq), .ref oj]) (n := 5) (Nat.le_of_ble_eq_true rfl)
  rw [lg_entry_eq]
  generalize (lg_sl ([.ref o, .int (zI zs), .int (zI zq), .ref oj]) ++ List.replicate (5 - (lg_sl ([.ref o, .int (zI zs), .int (zI zq), .ref oj])).length) Slot.unset).toArray = ls at hl ⊢
  have hl : lv_has ls 5 [(0, .ref o), (1, .int (zI zs)), (2, .int (zI zq)), (3, .ref oj)] := hl
  have hS : va_S (xB o oj) s.heap s.heap [] := va_S.rf
  have hA : ∀ q, xB o oj q → lo ≤ q := fun q h => by rcases h with h | h <;> omega
  have hWlt := hW.lt
  refine lv_aload_n hx hb dL_length_0 rfl (lv_at hl 3 rfl) ?_
  refine x_iconst hx hb dL_length_1 ?_
  refine lv_aload_n hx hb dL_length_2 rfl (lv_at hl 0 rfl) ?_
  refine lv_iload_n hx hb dL_length_3 rfl (lv_at hl 1 rfl) ?_
  refine lv_iload_n hx hb dL_length_4 rfl (lv_at hl 2 rfl) ?_
  refine vx_calli (vx_runV (As := [.int (zI zs), .int (zI zq)]) (rest := [.int (zI 0), .ref oj]) ⟨hx, hb, hml, hown, hts⟩ (c_X3_length l hfl G o lo hlo b lim dif zs hzs zq hzq) (cwV 2 hts gL_length_X3_length rfl rfl rfl (by decide +kernel) ⟨Nat.le_of_ble_eq_true rfl, Nat.le_of_ble_eq_true rfl⟩) (x_preT hW hi hK hT hS hA hW.jr (ci := 3) (q := (RX3, TX3, 3)) rfl) rfl rfl hl.1 rfl (lv_room (Nat.le_of_ble_eq_true rfl)) dL_length_5 ⟨Nat.le_of_ble_eq_true rfl, Nat.le_of_ble_eq_true rfl⟩) hS (fun q _ h => Or.inl h) (fun q h => Or.inl h) (fun q _ h => h.elim) (fun E ce q9 u t H1 locs1 ht _ _ hbx hz hk hS hcell hcv hcl => ?_) (fun r u t H1 locs1 ht _ hp hB hz hk hS => ?_)
  · have hJ1 := hJ.kept (hk _ hJ.lt (fun x => x))
    have hX1 : BX G o b H1 := ⟨lim, dif, hW.kept (fun a h1 h2 => hk a (by omega) (fun x => x))⟩
    rcases hbx with ⟨rfl, hk1⟩ | ⟨rfl, hk1⟩
    · refine vx_catch (name := nIA) hown [] _ _ htab (fun z hz => by cases hz) (by decide) (by decide) (hts (.classLink RL 13 nIA) (by decide +kernel)) (va_Nw.use rfl (hT.2.2.2 (.castable nIA nIA) (List.mem_of_getElem? (i := 3) rfl))) hcell hcv hcl ?_
      refine lv_astore (lv' := _) hx hb dL_length_13 hl (by decide) rfl (fun ls hl => ?_)
      refine x_iconst hx hb dL_length_15 ?_
      exact W.iret hx hb hr (fun t ht2 _ => ⟨⟨_, (), rfl, congrArg zI hk1.symm, H1, ht2, w_no hk1 (by decide) hX1, w, hJ1, fun h => absurd (hk1.symm.trans h) (by decide)⟩, hS.F ht2⟩) hS.2.2 dL_length_16
    · exact (kR_2 hk1).elim
  · obtain ⟨hk0, rfl⟩ := hp
    obtain ⟨Hx, e1, hX⟩ := hB
    have e2 : Hx = H1 := e1.symm.trans ht
    subst e2
    have hJ1 := hJ.kept (hk _ hJ.lt (fun (h : o ≤ oj ∧ oj < o + 127) => by omega))
    refine lv_i2l hx hb dL_length_8 rfl ?_
    refine x_last hx hb hK hJ1 hS (Or.inr rfl) dL_length_9 (fun H2 locs2 h2 zz2 nn2 hS => ?_)
    refine lv_goto (tgt := 17) hx hb dL_length_10 (by decide) ?_
    refine x_iconst hx hb dL_length_17 ?_
    have hX2 : BX G o (oB_length b zs zq) H2 := by
      obtain ⟨lim2, dif2, hX⟩ := hX
      exact ⟨lim2, dif2, hX.kept (fun a h1 h2 => nn2 a (by omega))⟩
    exact W.iret hx hb hr (fun t ht2 _ => ⟨⟨_, (), rfl, congrArg zI hk0.symm, H2, ht2, w_yes hk0 hX2, _, h2, fun _ => rfl⟩, hS.F ht2⟩) hS.2.2 dL_length_18
def oK_at (b : XB) (zs zq zr : Int) : Int := (kR ((0 ≤ zs ∧ zs < 4) ∧ (0 ≤ zq ∧ zq < 8) ∧ (1 ≤ zr ∧ zr ≤ 20)) 0)
def oV_at (b : XB) (zs zq zr : Int) : Int := (dAt b zq.toNat zs.toNat zr)
def oB_at (b : XB) (zs zq zr : Int) : XB := b
set_option maxHeartbeats 4000000 in
set_option maxRecDepth 100000 in
theorem c_L_at (l : Launch) (hfl : l.stackTraces = false) (G : XG) (o oj lo : Nat) (hlo : lo ≤ o) (hoj : o + 127 ≤ oj) (b : XB) (zs : Int) (hzs : -2147483648 ≤ zs ∧ zs < 2147483648) (zq : Int) (hzq : -2147483648 ≤ zq ∧ zq < 2147483648) (zr : Int) (hzr : -2147483648 ≤ zr ∧ zr < 2147483648) : MetW l yL_at wsL_at (rmP 8 125) G o oj lo b [.ref o, .int (zI zs), .int (zI zq), .int (zI zr), .ref oj] (oK_at b zs zq zr) ((zI (oV_at b zs zq zr)).toInt64) (oB_at b zs zq zr) := by
  refine x_ofWH (cc := cL_at) (maxL := 6) (ret := some .int) (hh := [(0, 12, 15, 13)]) (by decide) rfl ?_
  intro p e s m args below meth c s₁ B hml hv
  obtain ⟨rfl, ⟨lim, dif, hW⟩, ⟨w, hJ⟩, hi, hK, hT, hN⟩ := hv
  have hx := B.exec
  have hb := B.bytes
  have hr := B.returns
  have hts := atoms_spec (ws := wsL_at) B.pre
  have hown : s.vm.findClass RL = some m.cls := findClass_of_methodNamed B.named
  have hlocks := B.notSynchronized
  have htab : c.exceptionTable.toList = tableOf [(0, 12, 15, 13)] := vx_table (x := yL_at) B (hts _ List.mem_cons_self)
  have hl := lv_entry ([.ref o, .int (zI zs), .int (zI zq), .int (zI zr), .ref oj]) (n := 6) (Nat.le_of_ble_eq_true rfl)
  rw [lg_entry_eq]
  generalize (lg_sl ([.ref o, .int (zI zs), .int (zI zq), .int (zI zr), .ref oj]) ++ List.replicate (6 - (lg_sl ([.ref o, .int (zI zs), .int (zI zq), .int (zI zr), .ref oj])).length) Slot.unset).toArray = ls at hl ⊢
  have hl : lv_has ls 6 [(0, .ref o), (1, .int (zI zs)), (2, .int (zI zq)), (3, .int (zI zr)), (4, .ref oj)] := hl
  have hS : va_S (xB o oj) s.heap s.heap [] := va_S.rf
  have hA : ∀ q, xB o oj q → lo ≤ q := fun q h => by rcases h with h | h <;> omega
  have hWlt := hW.lt
  refine lv_aload hx hb dL_at_0 (lv_at hl 4 rfl) ?_
  refine x_iconst hx hb dL_at_2 ?_
  refine lv_aload_n hx hb dL_at_3 rfl (lv_at hl 0 rfl) ?_
  refine lv_iload_n hx hb dL_at_4 rfl (lv_at hl 1 rfl) ?_
  refine lv_iload_n hx hb dL_at_5 rfl (lv_at hl 2 rfl) ?_
  refine lv_iload_n hx hb dL_at_6 rfl (lv_at hl 3 rfl) ?_
  refine vx_calli (vx_runV (As := [.int (zI zs), .int (zI zq), .int (zI zr)]) (rest := [.int (zI 0), .ref oj]) ⟨hx, hb, hml, hown, hts⟩ (c_X3_at l hfl G o lo hlo b lim dif zs hzs zq hzq zr hzr) (cwV 3 hts gL_at_X3_at rfl rfl rfl (by decide +kernel) ⟨Nat.le_of_ble_eq_true rfl, Nat.le_of_ble_eq_true rfl⟩) (x_preT hW hi hK hT hS hA hW.jr (ci := 3) (q := (RX3, TX3, 3)) rfl) rfl rfl hl.1 rfl (lv_room (Nat.le_of_ble_eq_true rfl)) dL_at_7 ⟨Nat.le_of_ble_eq_true rfl, Nat.le_of_ble_eq_true rfl⟩) hS (fun q _ h => Or.inl h) (fun q h => Or.inl h) (fun q _ h => h.elim) (fun E ce q9 u t H1 locs1 ht _ _ hbx hz hk hS hcell hcv hcl => ?_) (fun r u t H1 locs1 ht _ hp hB hz hk hS => ?_)
  · have hJ1 := hJ.kept (hk _ hJ.lt (fun x => x))
    have hX1 : BX G o b H1 := ⟨lim, dif, hW.kept (fun a h1 h2 => hk a (by omega) (fun x => x))⟩
    rcases hbx with ⟨rfl, hk1⟩ | ⟨rfl, hk1⟩
    · refine vx_catch (name := nIA) hown [] _ _ htab (fun z hz => by cases hz) (by decide) (by decide) (hts (.classLink RL 13 nIA) (by decide +kernel)) (va_Nw.use rfl (hT.2.2.2 (.castable nIA nIA) (List.mem_of_getElem? (i := 3) rfl))) hcell hcv hcl ?_
      refine lv_astore (lv' := _) hx hb dL_at_15 hl (by decide) rfl (fun ls hl => ?_)
      refine x_iconst hx hb dL_at_17 ?_
      exact W.iret hx hb hr (fun t ht2 _ => ⟨⟨_, (), rfl, congrArg zI hk1.symm, H1, ht2, w_no hk1 (by decide) hX1, w, hJ1, fun h => absurd (hk1.symm.trans h) (by decide)⟩, hS.F ht2⟩) hS.2.2 dL_at_18
    · exact (kR_2 hk1).elim
  · obtain ⟨hk0, rfl⟩ := hp
    obtain ⟨Hx, e1, hX⟩ := hB
    have e2 : Hx = H1 := e1.symm.trans ht
    subst e2
    have hJ1 := hJ.kept (hk _ hJ.lt (fun (h : o ≤ oj ∧ oj < o + 127) => by omega))
    refine lv_i2l hx hb dL_at_10 rfl ?_
    refine x_last hx hb hK hJ1 hS (Or.inr rfl) dL_at_11 (fun H2 locs2 h2 zz2 nn2 hS => ?_)
    refine lv_goto (tgt := 19) hx hb dL_at_12 (by decide) ?_
    refine x_iconst hx hb dL_at_19 ?_
    have hX2 : BX G o (oB_at b zs zq zr) H2 := by
      obtain ⟨lim2, dif2, hX⟩ := hX
      exact ⟨lim2, dif2, hX.kept (fun a h1 h2 => nn2 a (by omega))⟩
    exact W.iret hx hb hr (fun t ht2 _ => ⟨⟨_, (), rfl, congrArg zI hk0.symm, H2, ht2, w_yes hk0 hX2, _, h2, fun _ => rfl⟩, hS.F ht2⟩) hS.2.2 dL_at_20
def oK_judge (b : XB) (zq zd zj : Int) : Int := (kR ((0 ≤ zq ∧ zq < 8) ∧ (0 ≤ zd ∧ zd < 40) ∧ (0 ≤ zj ∧ zj ≤ 2)) 0)
def oV_judge (b : XB) (zq zd zj : Int) : Int := (bJ b zq.toNat zd.toNat : Int)
def oB_judge (b : XB) (zq zd zj : Int) : XB := (uJ b zq.toNat zd.toNat zj.toNat)
set_option maxHeartbeats 4000000 in
set_option maxRecDepth 100000 in
theorem c_L_judge (l : Launch) (hfl : l.stackTraces = false) (G : XG) (o oj lo : Nat) (hlo : lo ≤ o) (hoj : o + 127 ≤ oj) (b : XB) (zq : Int) (hzq : -2147483648 ≤ zq ∧ zq < 2147483648) (zd : Int) (hzd : -2147483648 ≤ zd ∧ zd < 2147483648) (zj : Int) (hzj : -2147483648 ≤ zj ∧ zj < 2147483648) : MetW l yL_judge wsL_judge (rmP 8 127) G o oj lo b [.ref o, .int (zI zq), .int (zI zd), .int (zI zj), .ref oj] (oK_judge b zq zd zj) ((zI (oV_judge b zq zd zj)).toInt64) (oB_judge b zq zd zj) := by
  refine x_ofWH (cc := cL_judge) (maxL := 6) (ret := some .int) (hh := [(0, 12, 15, 13)]) (by decide) rfl ?_
  intro p e s m args below meth c s₁ B hml hv
  obtain ⟨rfl, ⟨lim, dif, hW⟩, ⟨w, hJ⟩, hi, hK, hT, hN⟩ := hv
  have hx := B.exec
  have hb := B.bytes
  have hr := B.returns
  have hts := atoms_spec (ws := wsL_judge) B.pre
  have hown : s.vm.findClass RL = some m.cls := findClass_of_methodNamed B.named
  have hlocks := B.notSynchronized
  have htab : c.exceptionTable.toList = tableOf [(0, 12, 15, 13)] := vx_table (x := yL_judge) B (hts _ List.mem_cons_self)
  have hl := lv_entry ([.ref o, .int (zI zq), .int (zI zd), .int (zI zj), .ref oj]) (n := 6) (Nat.le_of_ble_eq_true rfl)
  rw [lg_entry_eq]
  generalize (lg_sl ([.ref o, .int (zI zq), .int (zI zd), .int (zI zj), .ref oj]) ++ List.replicate (6 - (lg_sl ([.ref o, .int (zI zq), .int (zI zd), .int (zI zj), .ref oj])).length) Slot.unset).toArray = ls at hl ⊢
  have hl : lv_has ls 6 [(0, .ref o), (1, .int (zI zq)), (2, .int (zI zd)), (3, .int (zI zj)), (4, .ref oj)] := hl
  have hS : va_S (xB o oj) s.heap s.heap [] := va_S.rf
  have hA : ∀ q, xB o oj q → lo ≤ q := fun q h => by rcases h with h | h <;> omega
  have hWlt := hW.lt
  refine lv_aload hx hb dL_judge_0 (lv_at hl 4 rfl) ?_
  refine x_iconst hx hb dL_judge_2 ?_
  refine lv_aload_n hx hb dL_judge_3 rfl (lv_at hl 0 rfl) ?_
  refine lv_iload_n hx hb dL_judge_4 rfl (lv_at hl 1 rfl) ?_
  refine lv_iload_n hx hb dL_judge_5 rfl (lv_at hl 2 rfl) ?_
  refine lv_iload_n hx hb dL_judge_6 rfl (lv_at hl 3 rfl) ?_
  refine vx_calli (vx_runV (As := [.int (zI zq), .int (zI zd), .int (zI zj)]) (rest := [.int (zI 0), .ref oj]) ⟨hx, hb, hml, hown, hts⟩ (c_X3_judge l hfl G o lo hlo b lim dif zq hzq zd hzd zj hzj) (cwV 3 hts gL_judge_X3_judge rfl rfl rfl (by decide +kernel) ⟨Nat.le_of_ble_eq_true rfl, Nat.le_of_ble_eq_true rfl⟩) (x_preT hW hi hK hT hS hA hW.jr (ci := 3) (q := (RX3, TX3, 3)) rfl) rfl rfl hl.1 rfl (lv_room (Nat.le_of_ble_eq_true rfl)) dL_judge_7 ⟨Nat.le_of_ble_eq_true rfl, Nat.le_of_ble_eq_true rfl⟩) hS (fun q _ h => Or.inl h) (fun q h => Or.inl h) (fun q _ h => h.elim) (fun E ce q9 u t H1 locs1 ht _ _ hbx hz hk hS hcell hcv hcl => ?_) (fun r u t H1 locs1 ht _ hp hB hz hk hS => ?_)
  · have hJ1 := hJ.kept (hk _ hJ.lt (fun x => x))
    have hX1 : BX G o b H1 := ⟨lim, dif, hW.kept (fun a h1 h2 => hk a (by omega) (fun x => x))⟩
    rcases hbx with ⟨rfl, hk1⟩ | ⟨rfl, hk1⟩
    · refine vx_catch (name := nIA) hown [] _ _ htab (fun z hz => by cases hz) (by decide) (by decide) (hts (.classLink RL 13 nIA) (by decide +kernel)) (va_Nw.use rfl (hT.2.2.2 (.castable nIA nIA) (List.mem_of_getElem? (i := 3) rfl))) hcell hcv hcl ?_
      refine lv_astore (lv' := _) hx hb dL_judge_15 hl (by decide) rfl (fun ls hl => ?_)
      refine x_iconst hx hb dL_judge_17 ?_
      exact W.iret hx hb hr (fun t ht2 _ => ⟨⟨_, (), rfl, congrArg zI hk1.symm, H1, ht2, w_no hk1 (by decide) hX1, w, hJ1, fun h => absurd (hk1.symm.trans h) (by decide)⟩, hS.F ht2⟩) hS.2.2 dL_judge_18
    · exact (kR_2 hk1).elim
  · obtain ⟨hk0, rfl⟩ := hp
    obtain ⟨Hx, e1, hX⟩ := hB
    have e2 : Hx = H1 := e1.symm.trans ht
    subst e2
    have hJ1 := hJ.kept (hk _ hJ.lt (fun (h : o ≤ oj ∧ oj < o + 127) => by omega))
    refine lv_i2l hx hb dL_judge_10 rfl ?_
    refine x_last hx hb hK hJ1 hS (Or.inr rfl) dL_judge_11 (fun H2 locs2 h2 zz2 nn2 hS => ?_)
    refine lv_goto (tgt := 19) hx hb dL_judge_12 (by decide) ?_
    refine x_iconst hx hb dL_judge_19 ?_
    have hX2 : BX G o (oB_judge b zq zd zj) H2 := by
      obtain ⟨lim2, dif2, hX⟩ := hX
      exact ⟨lim2, dif2, hX.kept (fun a h1 h2 => nn2 a (by omega))⟩
    exact W.iret hx hb hr (fun t ht2 _ => ⟨⟨_, (), rfl, congrArg zI hk0.symm, H2, ht2, w_yes hk0 hX2, _, h2, fun _ => rfl⟩, hS.F ht2⟩) hS.2.2 dL_judge_20
def oK_pool (b : XB) (zq zr : Int) : Int := (kR ((0 ≤ zq ∧ zq < 8) ∧ (1 ≤ zr ∧ zr ≤ 20)) 0)
def oV_pool (b : XB) (zq zr : Int) : Int := (poolN b zq.toNat zr : Int)
def oB_pool (b : XB) (zq zr : Int) : XB := b
set_option maxHeartbeats 4000000 in
set_option maxRecDepth 100000 in
theorem c_L_pool (l : Launch) (hfl : l.stackTraces = false) (G : XG) (o oj lo : Nat) (hlo : lo ≤ o) (hoj : o + 127 ≤ oj) (b : XB) (zq : Int) (hzq : -2147483648 ≤ zq ∧ zq < 2147483648) (zr : Int) (hzr : -2147483648 ≤ zr ∧ zr < 2147483648) : MetW l yL_pool wsL_pool (rmP 8 124) G o oj lo b [.ref o, .int (zI zq), .int (zI zr), .ref oj] (oK_pool b zq zr) ((zI (oV_pool b zq zr)).toInt64) (oB_pool b zq zr) := by
  refine x_ofWH (cc := cL_pool) (maxL := 5) (ret := some .int) (hh := [(0, 10, 13, 13)]) (by decide) rfl ?_
  intro p e s m args below meth c s₁ B hml hv
  obtain ⟨rfl, ⟨lim, dif, hW⟩, ⟨w, hJ⟩, hi, hK, hT, hN⟩ := hv
  have hx := B.exec
  have hb := B.bytes
  have hr := B.returns
  have hts := atoms_spec (ws := wsL_pool) B.pre
  have hown : s.vm.findClass RL = some m.cls := findClass_of_methodNamed B.named
  have hlocks := B.notSynchronized
  have htab : c.exceptionTable.toList = tableOf [(0, 10, 13, 13)] := vx_table (x := yL_pool) B (hts _ List.mem_cons_self)
  have hl := lv_entry ([.ref o, .int (zI zq), .int (zI zr), .ref oj]) (n := 5) (Nat.le_of_ble_eq_true rfl)
  rw [lg_entry_eq]
  generalize (lg_sl ([.ref o, .int (zI zq), .int (zI zr), .ref oj]) ++ List.replicate (5 - (lg_sl ([.ref o, .int (zI zq), .int (zI zr), .ref oj])).length) Slot.unset).toArray = ls at hl ⊢
  have hl : lv_has ls 5 [(0, .ref o), (1, .int (zI zq)), (2, .int (zI zr)), (3, .ref oj)] := hl
  have hS : va_S (xB o oj) s.heap s.heap [] := va_S.rf
  have hA : ∀ q, xB o oj q → lo ≤ q := fun q h => by rcases h with h | h <;> omega
  have hWlt := hW.lt
  refine lv_aload_n hx hb dL_pool_0 rfl (lv_at hl 3 rfl) ?_
  refine x_iconst hx hb dL_pool_1 ?_
  refine lv_aload_n hx hb dL_pool_2 rfl (lv_at hl 0 rfl) ?_
  refine lv_iload_n hx hb dL_pool_3 rfl (lv_at hl 1 rfl) ?_
  refine lv_iload_n hx hb dL_pool_4 rfl (lv_at hl 2 rfl) ?_
  refine vx_calli (vx_runV (As := [.int (zI zq), .int (zI zr)]) (rest := [.int (zI 0), .ref oj]) ⟨hx, hb, hml, hown, hts⟩ (c_X3_pool l hfl G o lo hlo b lim dif zq hzq zr hzr) (cwV 2 hts gL_pool_X3_pool rfl rfl rfl (by decide +kernel) ⟨Nat.le_of_ble_eq_true rfl, Nat.le_of_ble_eq_true rfl⟩) (x_preT hW hi hK hT hS hA hW.jr (ci := 3) (q := (RX3, TX3, 3)) rfl) rfl rfl hl.1 rfl (lv_room (Nat.le_of_ble_eq_true rfl)) dL_pool_5 ⟨Nat.le_of_ble_eq_true rfl, Nat.le_of_ble_eq_true rfl⟩) hS (fun q _ h => Or.inl h) (fun q h => Or.inl h) (fun q _ h => h.elim) (fun E ce q9 u t H1 locs1 ht _ _ hbx hz hk hS hcell hcv hcl => ?_) (fun r u t H1 locs1 ht _ hp hB hz hk hS => ?_)
  · have hJ1 := hJ.kept (hk _ hJ.lt (fun x => x))
    have hX1 : BX G o b H1 := ⟨lim, dif, hW.kept (fun a h1 h2 => hk a (by omega) (fun x => x))⟩
    rcases hbx with ⟨rfl, hk1⟩ | ⟨rfl, hk1⟩
    · refine vx_catch (name := nIA) hown [] _ _ htab (fun z hz => by cases hz) (by decide) (by decide) (hts (.classLink RL 13 nIA) (by decide +kernel)) (va_Nw.use rfl (hT.2.2.2 (.castable nIA nIA) (List.mem_of_getElem? (i := 3) rfl))) hcell hcv hcl ?_
      refine lv_astore (lv' := _) hx hb dL_pool_13 hl (by decide) rfl (fun ls hl => ?_)
      refine x_iconst hx hb dL_pool_15 ?_
      exact W.iret hx hb hr (fun t ht2 _ => ⟨⟨_, (), rfl, congrArg zI hk1.symm, H1, ht2, w_no hk1 (by decide) hX1, w, hJ1, fun h => absurd (hk1.symm.trans h) (by decide)⟩, hS.F ht2⟩) hS.2.2 dL_pool_16
    · exact (kR_2 hk1).elim
  · obtain ⟨hk0, rfl⟩ := hp
    obtain ⟨Hx, e1, hX⟩ := hB
    have e2 : Hx = H1 := e1.symm.trans ht
    subst e2
    have hJ1 := hJ.kept (hk _ hJ.lt (fun (h : o ≤ oj ∧ oj < o + 127) => by omega))
    refine lv_i2l hx hb dL_pool_8 rfl ?_
    refine x_last hx hb hK hJ1 hS (Or.inr rfl) dL_pool_9 (fun H2 locs2 h2 zz2 nn2 hS => ?_)
    refine lv_goto (tgt := 17) hx hb dL_pool_10 (by decide) ?_
    refine x_iconst hx hb dL_pool_17 ?_
    have hX2 : BX G o (oB_pool b zq zr) H2 := by
      obtain ⟨lim2, dif2, hX⟩ := hX
      exact ⟨lim2, dif2, hX.kept (fun a h1 h2 => nn2 a (by omega))⟩
    exact W.iret hx hb hr (fun t ht2 _ => ⟨⟨_, (), rfl, congrArg zI hk0.symm, H2, ht2, w_yes hk0 hX2, _, h2, fun _ => rfl⟩, hS.F ht2⟩) hS.2.2 dL_pool_18
def oK_toJudge (b : XB) (zq zr : Int) : Int := (kR ((0 ≤ zq ∧ zq < 8) ∧ (1 ≤ zr ∧ zr ≤ 20)) 0)
def oV_toJudge (b : XB) (zq zr : Int) : Int := (fuZ b zq.toNat zr)
def oB_toJudge (b : XB) (zq zr : Int) : XB := b
set_option maxHeartbeats 4000000 in
set_option maxRecDepth 100000 in
theorem c_L_toJudge (l : Launch) (hfl : l.stackTraces = false) (G : XG) (o oj lo : Nat) (hlo : lo ≤ o) (hoj : o + 127 ≤ oj) (b : XB) (zq : Int) (hzq : -2147483648 ≤ zq ∧ zq < 2147483648) (zr : Int) (hzr : -2147483648 ≤ zr ∧ zr < 2147483648) : MetW l yL_toJudge wsL_toJudge (rmP 8 124) G o oj lo b [.ref o, .int (zI zq), .int (zI zr), .ref oj] (oK_toJudge b zq zr) ((zI (oV_toJudge b zq zr)).toInt64) (oB_toJudge b zq zr) := by
  refine x_ofWH (cc := cL_toJudge) (maxL := 5) (ret := some .int) (hh := [(0, 10, 13, 13)]) (by decide) rfl ?_
  intro p e s m args below meth c s₁ B hml hv
  obtain ⟨rfl, ⟨lim, dif, hW⟩, ⟨w, hJ⟩, hi, hK, hT, hN⟩ := hv
  have hx := B.exec
  have hb := B.bytes
  have hr := B.returns
  have hts := atoms_spec (ws := wsL_toJudge) B.pre
  have hown : s.vm.findClass RL = some m.cls := findClass_of_methodNamed B.named
  have hlocks := B.notSynchronized
  have htab : c.exceptionTable.toList = tableOf [(0, 10, 13, 13)] := vx_table (x := yL_toJudge) B (hts _ List.mem_cons_self)
  have hl := lv_entry ([.ref o, .int (zI zq), .int (zI zr), .ref oj]) (n := 5) (Nat.le_of_ble_eq_true rfl)
  rw [lg_entry_eq]
  generalize (lg_sl ([.ref o, .int (zI zq), .int (zI zr), .ref oj]) ++ List.replicate (5 - (lg_sl ([.ref o, .int (zI zq), .int (zI zr), .ref oj])).length) Slot.unset).toArray = ls at hl ⊢
  have hl : lv_has ls 5 [(0, .ref o), (1, .int (zI zq)), (2, .int (zI zr)), (3, .ref oj)] := hl
  have hS : va_S (xB o oj) s.heap s.heap [] := va_S.rf
  have hA : ∀ q, xB o oj q → lo ≤ q := fun q h => by rcases h with h | h <;> omega
  have hWlt := hW.lt
  refine lv_aload_n hx hb dL_toJudge_0 rfl (lv_at hl 3 rfl) ?_
  refine x_iconst hx hb dL_toJudge_1 ?_
  refine lv_aload_n hx hb dL_toJudge_2 rfl (lv_at hl 0 rfl) ?_
  refine lv_iload_n hx hb dL_toJudge_3 rfl (lv_at hl 1 rfl) ?_
  refine lv_iload_n hx hb dL_toJudge_4 rfl (lv_at hl 2 rfl) ?_
  refine vx_calli (vx_runV (As := [.int (zI zq), .int (zI zr)]) (rest := [.int (zI 0), .ref oj]) ⟨hx, hb, hml, hown, hts⟩ (c_X3_toJudge l hfl G o lo hlo b lim dif zq hzq zr hzr) (cwV 2 hts gL_toJudge_X3_toJudge rfl rfl rfl (by decide +kernel) ⟨Nat.le_of_ble_eq_true rfl, Nat.le_of_ble_eq_true rfl⟩) (x_preT hW hi hK hT hS hA hW.jr (ci := 3) (q := (RX3, TX3, 3)) rfl) rfl rfl hl.1 rfl (lv_room (Nat.le_of_ble_eq_true rfl)) dL_toJudge_5 ⟨Nat.le_of_ble_eq_true rfl, Nat.le_of_ble_eq_true rfl⟩) hS (fun q _ h => Or.inl h) (fun q h => Or.inl h) (fun q _ h => h.elim) (fun E ce q9 u t H1 locs1 ht _ _ hbx hz hk hS hcell hcv hcl => ?_) (fun r u t H1 locs1 ht _ hp hB hz hk hS => ?_)
  · have hJ1 := hJ.kept (hk _ hJ.lt (fun x => x))
    have hX1 : BX G o b H1 := ⟨lim, dif, hW.kept (fun a h1 h2 => hk a (by omega) (fun x => x))⟩
    rcases hbx with ⟨rfl, hk1⟩ | ⟨rfl, hk1⟩
    · refine vx_catch (name := nIA) hown [] _ _ htab (fun z hz => by cases hz) (by decide) (by decide) (hts (.classLink RL 13 nIA) (by decide +kernel)) (va_Nw.use rfl (hT.2.2.2 (.castable nIA nIA) (List.mem_of_getElem? (i := 3) rfl))) hcell hcv hcl ?_
      refine lv_astore (lv' := _) hx hb dL_toJudge_13 hl (by decide) rfl (fun ls hl => ?_)
      refine x_iconst hx hb dL_toJudge_15 ?_
      exact W.iret hx hb hr (fun t ht2 _ => ⟨⟨_, (), rfl, congrArg zI hk1.symm, H1, ht2, w_no hk1 (by decide) hX1, w, hJ1, fun h => absurd (hk1.symm.trans h) (by decide)⟩, hS.F ht2⟩) hS.2.2 dL_toJudge_16
    · exact (kR_2 hk1).elim
  · obtain ⟨hk0, rfl⟩ := hp
    obtain ⟨Hx, e1, hX⟩ := hB
    have e2 : Hx = H1 := e1.symm.trans ht
    subst e2
    have hJ1 := hJ.kept (hk _ hJ.lt (fun (h : o ≤ oj ∧ oj < o + 127) => by omega))
    refine lv_i2l hx hb dL_toJudge_8 rfl ?_
    refine x_last hx hb hK hJ1 hS (Or.inr rfl) dL_toJudge_9 (fun H2 locs2 h2 zz2 nn2 hS => ?_)
    refine lv_goto (tgt := 17) hx hb dL_toJudge_10 (by decide) ?_
    refine x_iconst hx hb dL_toJudge_17 ?_
    have hX2 : BX G o (oB_toJudge b zq zr) H2 := by
      obtain ⟨lim2, dif2, hX⟩ := hX
      exact ⟨lim2, dif2, hX.kept (fun a h1 h2 => nn2 a (by omega))⟩
    exact W.iret hx hb hr (fun t ht2 _ => ⟨⟨_, (), rfl, congrArg zI hk0.symm, H2, ht2, w_yes hk0 hX2, _, h2, fun _ => rfl⟩, hS.F ht2⟩) hS.2.2 dL_toJudge_18
def oK_hits (b : XB) (zs zq zr : Int) : Int := (kR ((0 ≤ zs ∧ zs < 4) ∧ (0 ≤ zq ∧ zq < 8) ∧ (1 ≤ zr ∧ zr ≤ 20)) 0)
def oV_hits (b : XB) (zs zq zr : Int) : Int := (relN b zq.toNat zs.toNat 0 zr.toNat : Int)
def oB_hits (b : XB) (zs zq zr : Int) : XB := b
set_option maxHeartbeats 4000000 in
set_option maxRecDepth 100000 in
theorem c_L_hits (l : Launch) (hfl : l.stackTraces = false) (G : XG) (o oj lo : Nat) (hlo : lo ≤ o) (hoj : o + 127 ≤ oj) (b : XB) (zs : Int) (hzs : -2147483648 ≤ zs ∧ zs < 2147483648) (zq : Int) (hzq : -2147483648 ≤ zq ∧ zq < 2147483648) (zr : Int) (hzr : -2147483648 ≤ zr ∧ zr < 2147483648) : MetW l yL_hits wsL_hits (rmP 8 125) G o oj lo b [.ref o, .int (zI zs), .int (zI zq), .int (zI zr), .ref oj] (oK_hits b zs zq zr) ((zI (oV_hits b zs zq zr)).toInt64) (oB_hits b zs zq zr) := by
  refine x_ofWH (cc := cL_hits) (maxL := 6) (ret := some .int) (hh := [(0, 12, 15, 13)]) (by decide) rfl ?_
  intro p e s m args below meth c s₁ B hml hv
  obtain ⟨rfl, ⟨lim, dif, hW⟩, ⟨w, hJ⟩, hi, hK, hT, hN⟩ := hv
  have hx := B.exec
  have hb := B.bytes
  have hr := B.returns
  have hts := atoms_spec (ws := wsL_hits) B.pre
  have hown : s.vm.findClass RL = some m.cls := findClass_of_methodNamed B.named
  have hlocks := B.notSynchronized
  have htab : c.exceptionTable.toList = tableOf [(0, 12, 15, 13)] := vx_table (x := yL_hits) B (hts _ List.mem_cons_self)
  have hl := lv_entry ([.ref o, .int (zI zs), .int (zI zq), .int (zI zr), .ref oj]) (n := 6) (Nat.le_of_ble_eq_true rfl)
  rw [lg_entry_eq]
  generalize (lg_sl ([.ref o, .int (zI zs), .int (zI zq), .int (zI zr), .ref oj]) ++ List.replicate (6 - (lg_sl ([.ref o, .int (zI zs), .int (zI zq), .int (zI zr), .ref oj])).length) Slot.unset).toArray = ls at hl ⊢
  have hl : lv_has ls 6 [(0, .ref o), (1, .int (zI zs)), (2, .int (zI zq)), (3, .int (zI zr)), (4, .ref oj)] := hl
  have hS : va_S (xB o oj) s.heap s.heap [] := va_S.rf
  have hA : ∀ q, xB o oj q → lo ≤ q := fun q h => by rcases h with h | h <;> omega
  have hWlt := hW.lt
  refine lv_aload hx hb dL_hits_0 (lv_at hl 4 rfl) ?_
  refine x_iconst hx hb dL_hits_2 ?_
  refine lv_aload_n hx hb dL_hits_3 rfl (lv_at hl 0 rfl) ?_
  refine lv_iload_n hx hb dL_hits_4 rfl (lv_at hl 1 rfl) ?_
  refine lv_iload_n hx hb dL_hits_5 rfl (lv_at hl 2 rfl) ?_
  refine lv_iload_n hx hb dL_hits_6 rfl (lv_at hl 3 rfl) ?_
  refine vx_calli (vx_runV (As := [.int (zI zs), .int (zI zq), .int (zI zr)]) (rest := [.int (zI 0), .ref oj]) ⟨hx, hb, hml, hown, hts⟩ (c_X3_hits l hfl G o lo hlo b lim dif zs hzs zq hzq zr hzr) (cwV 3 hts gL_hits_X3_hits rfl rfl rfl (by decide +kernel) ⟨Nat.le_of_ble_eq_true rfl, Nat.le_of_ble_eq_true rfl⟩) (x_preT hW hi hK hT hS hA hW.jr (ci := 3) (q := (RX3, TX3, 3)) rfl) rfl rfl hl.1 rfl (lv_room (Nat.le_of_ble_eq_true rfl)) dL_hits_7 ⟨Nat.le_of_ble_eq_true rfl, Nat.le_of_ble_eq_true rfl⟩) hS (fun q _ h => Or.inl h) (fun q h => Or.inl h) (fun q _ h => h.elim) (fun E ce q9 u t H1 locs1 ht _ _ hbx hz hk hS hcell hcv hcl => ?_) (fun r u t H1 locs1 ht _ hp hB hz hk hS => ?_)
  · have hJ1 := hJ.kept (hk _ hJ.lt (fun x => x))
    have hX1 : BX G o b H1 := ⟨lim, dif, hW.kept (fun a h1 h2 => hk a (by omega) (fun x => x))⟩
    rcases hbx with ⟨rfl, hk1⟩ | ⟨rfl, hk1⟩
    · refine vx_catch (name := nIA) hown [] _ _ htab (fun z hz => by cases hz) (by decide) (by decide) (hts (.classLink RL 13 nIA) (by decide +kernel)) (va_Nw.use rfl (hT.2.2.2 (.castable nIA nIA) (List.mem_of_getElem? (i := 3) rfl))) hcell hcv hcl ?_
      refine lv_astore (lv' := _) hx hb dL_hits_15 hl (by decide) rfl (fun ls hl => ?_)
      refine x_iconst hx hb dL_hits_17 ?_
      exact W.iret hx hb hr (fun t ht2 _ => ⟨⟨_, (), rfl, congrArg zI hk1.symm, H1, ht2, w_no hk1 (by decide) hX1, w, hJ1, fun h => absurd (hk1.symm.trans h) (by decide)⟩, hS.F ht2⟩) hS.2.2 dL_hits_18
    · exact (kR_2 hk1).elim
  · obtain ⟨hk0, rfl⟩ := hp
    obtain ⟨Hx, e1, hX⟩ := hB
    have e2 : Hx = H1 := e1.symm.trans ht
    subst e2
    have hJ1 := hJ.kept (hk _ hJ.lt (fun (h : o ≤ oj ∧ oj < o + 127) => by omega))
    refine lv_i2l hx hb dL_hits_10 rfl ?_
    refine x_last hx hb hK hJ1 hS (Or.inr rfl) dL_hits_11 (fun H2 locs2 h2 zz2 nn2 hS => ?_)
    refine lv_goto (tgt := 19) hx hb dL_hits_12 (by decide) ?_
    refine x_iconst hx hb dL_hits_19 ?_
    have hX2 : BX G o (oB_hits b zs zq zr) H2 := by
      obtain ⟨lim2, dif2, hX⟩ := hX
      exact ⟨lim2, dif2, hX.kept (fun a h1 h2 => nn2 a (by omega))⟩
    exact W.iret hx hb hr (fun t ht2 _ => ⟨⟨_, (), rfl, congrArg zI hk0.symm, H2, ht2, w_yes hk0 hX2, _, h2, fun _ => rfl⟩, hS.F ht2⟩) hS.2.2 dL_hits_20
def oK_precisionNumerator (b : XB) (zs zq zr : Int) : Int := (kR ((0 ≤ zs ∧ zs < 4) ∧ (0 ≤ zq ∧ zq < 8) ∧ (1 ≤ zr ∧ zr ≤ 20)) 0)
def oV_precisionNumerator (b : XB) (zs zq zr : Int) : Int := (redN (mhZ b zq.toNat zs.toNat zr).toNat (232792560 * zr).toNat : Int)
def oB_precisionNumerator (b : XB) (zs zq zr : Int) : XB := b
set_option maxHeartbeats 4000000 in
set_option maxRecDepth 100000 in
theorem c_L_precisionNumerator (l : Launch) (hfl : l.stackTraces = false) (G : XG) (o oj lo : Nat) (hlo : lo ≤ o) (hoj : o + 127 ≤ oj) (b : XB) (zs : Int) (hzs : -2147483648 ≤ zs ∧ zs < 2147483648) (zq : Int) (hzq : -2147483648 ≤ zq ∧ zq < 2147483648) (zr : Int) (hzr : -2147483648 ≤ zr ∧ zr < 2147483648) : MetW l yL_precisionNumerator wsL_precisionNumerator (rmP 8 125) G o oj lo b [.ref o, .int (zI zs), .int (zI zq), .int (zI zr), .ref oj] (oK_precisionNumerator b zs zq zr) (lI (oV_precisionNumerator b zs zq zr)) (oB_precisionNumerator b zs zq zr) := by
  refine x_ofWH (cc := cL_precisionNumerator) (maxL := 6) (ret := some .int) (hh := [(0, 11, 14, 13)]) (by decide) rfl ?_
  intro p e s m args below meth c s₁ B hml hv
  obtain ⟨rfl, ⟨lim, dif, hW⟩, ⟨w, hJ⟩, hi, hK, hT, hN⟩ := hv
  have hx := B.exec
  have hb := B.bytes
  have hr := B.returns
  have hts := atoms_spec (ws := wsL_precisionNumerator) B.pre
  have hown : s.vm.findClass RL = some m.cls := findClass_of_methodNamed B.named
  have hlocks := B.notSynchronized
  have htab : c.exceptionTable.toList = tableOf [(0, 11, 14, 13)] := vx_table (x := yL_precisionNumerator) B (hts _ List.mem_cons_self)
  have hl := lv_entry ([.ref o, .int (zI zs), .int (zI zq), .int (zI zr), .ref oj]) (n := 6) (Nat.le_of_ble_eq_true rfl)
  rw [lg_entry_eq]
  generalize (lg_sl ([.ref o, .int (zI zs), .int (zI zq), .int (zI zr), .ref oj]) ++ List.replicate (6 - (lg_sl ([.ref o, .int (zI zs), .int (zI zq), .int (zI zr), .ref oj])).length) Slot.unset).toArray = ls at hl ⊢
  have hl : lv_has ls 6 [(0, .ref o), (1, .int (zI zs)), (2, .int (zI zq)), (3, .int (zI zr)), (4, .ref oj)] := hl
  have hS : va_S (xB o oj) s.heap s.heap [] := va_S.rf
  have hA : ∀ q, xB o oj q → lo ≤ q := fun q h => by rcases h with h | h <;> omega
  have hWlt := hW.lt
  refine lv_aload hx hb dL_precisionNumerator_0 (lv_at hl 4 rfl) ?_
  refine x_iconst hx hb dL_precisionNumerator_2 ?_
  refine lv_aload_n hx hb dL_precisionNumerator_3 rfl (lv_at hl 0 rfl) ?_
  refine lv_iload_n hx hb dL_precisionNumerator_4 rfl (lv_at hl 1 rfl) ?_
  refine lv_iload_n hx hb dL_precisionNumerator_5 rfl (lv_at hl 2 rfl) ?_
  refine lv_iload_n hx hb dL_precisionNumerator_6 rfl (lv_at hl 3 rfl) ?_
  refine vx_calll (vx_runV (As := [.int (zI zs), .int (zI zq), .int (zI zr)]) (rest := [.int (zI 0), .ref oj]) ⟨hx, hb, hml, hown, hts⟩ (c_X3_precisionNumerator l hfl G o lo hlo b lim dif zs hzs zq hzq zr hzr) (cwV 3 hts gL_precisionNumerator_X3_precisionNumerator rfl rfl rfl (by decide +kernel) ⟨Nat.le_of_ble_eq_true rfl, Nat.le_of_ble_eq_true rfl⟩) (x_preT hW hi hK hT hS hA hW.jr (ci := 3) (q := (RX3, TX3, 3)) rfl) rfl rfl hl.1 rfl (lv_room (Nat.le_of_ble_eq_true rfl)) dL_precisionNumerator_7 ⟨Nat.le_of_ble_eq_true rfl, Nat.le_of_ble_eq_true rfl⟩) hS (fun q _ h => Or.inl h) (fun q h => Or.inl h) (fun q _ h => h.elim) (fun E ce q9 u t H1 locs1 ht _ _ hbx hz hk hS hcell hcv hcl => ?_) (fun r u t H1 locs1 ht _ hp hB hz hk hS => ?_)
  · have hJ1 := hJ.kept (hk _ hJ.lt (fun x => x))
    have hX1 : BX G o b H1 := ⟨lim, dif, hW.kept (fun a h1 h2 => hk a (by omega) (fun x => x))⟩
    rcases hbx with ⟨rfl, hk1⟩ | ⟨rfl, hk1⟩
    · refine vx_catch (name := nIA) hown [] _ _ htab (fun z hz => by cases hz) (by decide) (by decide) (hts (.classLink RL 13 nIA) (by decide +kernel)) (va_Nw.use rfl (hT.2.2.2 (.castable nIA nIA) (List.mem_of_getElem? (i := 3) rfl))) hcell hcv hcl ?_
      refine lv_astore (lv' := _) hx hb dL_precisionNumerator_14 hl (by decide) rfl (fun ls hl => ?_)
      refine x_iconst hx hb dL_precisionNumerator_16 ?_
      exact W.iret hx hb hr (fun t ht2 _ => ⟨⟨_, (), rfl, congrArg zI hk1.symm, H1, ht2, w_no hk1 (by decide) hX1, w, hJ1, fun h => absurd (hk1.symm.trans h) (by decide)⟩, hS.F ht2⟩) hS.2.2 dL_precisionNumerator_17
    · exact (kR_2 hk1).elim
  · obtain ⟨hk0, rfl⟩ := hp
    obtain ⟨Hx, e1, hX⟩ := hB
    have e2 : Hx = H1 := e1.symm.trans ht
    subst e2
    have hJ1 := hJ.kept (hk _ hJ.lt (fun (h : o ≤ oj ∧ oj < o + 127) => by omega))
    refine x_last hx hb hK hJ1 hS (Or.inr rfl) dL_precisionNumerator_10 (fun H2 locs2 h2 zz2 nn2 hS => ?_)
    refine lv_goto (tgt := 18) hx hb dL_precisionNumerator_11 (by decide) ?_
    refine x_iconst hx hb dL_precisionNumerator_18 ?_
    have hX2 : BX G o (oB_precisionNumerator b zs zq zr) H2 := by
      obtain ⟨lim2, dif2, hX⟩ := hX
      exact ⟨lim2, dif2, hX.kept (fun a h1 h2 => nn2 a (by omega))⟩
    exact W.iret hx hb hr (fun t ht2 _ => ⟨⟨_, (), rfl, congrArg zI hk0.symm, H2, ht2, w_yes hk0 hX2, _, h2, fun _ => rfl⟩, hS.F ht2⟩) hS.2.2 dL_precisionNumerator_19
