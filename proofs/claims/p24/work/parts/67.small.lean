/-! ===== the law's small methods ===== -/
theorem cmpZ_lt (a b : Int) : cmpZ a b < 0 ↔ a < b := by
  unfold cmpZ; split <;> (try split) <;> omega
theorem x_num (x : Int32) : ∃ z : Int, (-2147483648 ≤ z ∧ z < 2147483648) ∧ x = zI z := ⟨x.toInt, ⟨Int32.le_toInt x, Int32.toInt_lt x⟩, zI_of x⟩
theorem zI_31 (z : Int) : zI z &&& zI 2147483647 = zI (z % 2147483648) := by
  apply Int32.toBitVec_inj.mp
  rw [Int32.toBitVec_and]
  apply BitVec.eq_of_toNat_eq
  rw [BitVec.toNat_and]
  show (BitVec.ofInt 32 z).toNat &&& (BitVec.ofInt 32 2147483647).toNat = (BitVec.ofInt 32 (z % 2147483648)).toNat
  rw [BitVec.toNat_ofInt, BitVec.toNat_ofInt, BitVec.toNat_ofInt]
  rw [show ((2147483647 : Int) % ((2 ^ 32 : Nat) : Int)).toNat = 2 ^ 31 - 1 from by decide, Nat.and_two_pow_sub_one_eq_mod]
  rw [show ((2 ^ 32 : Nat) : Int) = 4294967296 from rfl, show (2 ^ 31 : Nat) = 2147483648 from rfl]
  omega
theorem lw_rng (z : Int) {n : Int} (h : 1 ≤ n) : 0 ≤ z % 2147483648 % n ∧ z % 2147483648 % n < n := ⟨Int.emod_nonneg _ (by omega), Int.emod_lt_of_pos _ (by omega)⟩
section XQ
variable {p : Program} {l : Launch} {e : Env} {R : Room} {s : State} {m : MethodId} {args : Array Value} {below : List Frame} {meth : Method} {c : Code} {H : Heap} {locs : List Loc} {cells slots : Nat} {Q : State → Prop} {cc : ByteArray} {pc : Nat} {ls : Array Slot} {rest : List Value}
/-- a call that only reads, its answer not known -/
theorem x_cA {a : Array Value} {st0 : List Value} (hr : va_Run p l e R s m args below meth c H locs cells slots 0 0 (F0 m pc ls st0) rest (vp_Si (fun _ => True) a) (fun _ => False))
    (kk : ∀ z : Int, -2147483648 ≤ z ∧ z < 2147483648 → W p l e R s m args below meth c H locs cells slots Q (F0 m (pc + 3) ls (.int (zI z) :: rest))) : W p l e R s m args below meth c H locs cells slots Q (F0 m pc ls st0) := by
  intro T hT X
  obtain ⟨v, st₀, t, T', L, h0, X', hL, e1, e2, ⟨r, hv, hp, hh⟩, st⟩ := hr T hT X
  cases hv
  obtain ⟨z, hz, rfl⟩ := x_num r
  obtain ⟨t2, a1, b1⟩ := kk z hz T' (by rw [e1, hh, h0]) (Stand.forget X' (fun q h => (hL q h).elim))
  exact ⟨t2, st t2 a1, b1⟩
/-- a shift to the right, its answer not known -/
theorem x_shrA (hx : p.tables.exec = Jvm.exec) (hb : c.code = cc) {x y : Int32} (hdg : decode cc pc = .ok (.ishr, 1)) (kk : ∀ z : Int, -2147483648 ≤ z ∧ z < 2147483648 → W p l e R s m args below meth c H locs cells slots Q (F0 m (pc + 1) ls (.int (zI z) :: rest))) : W p l e R s m args below meth c H locs cells slots Q (F0 m pc ls (.int y :: .int x :: rest)) := by
  refine lv_ishr hx hb hdg ?_
  obtain ⟨z, hz, ez⟩ := x_num (x >>> (y &&& 31))
  rw [ez]
  exact kk z hz
end XQ
set_option maxHeartbeats 4000000 in
set_option maxRecDepth 100000 in
theorem c_L_low (l : Launch) (z n : Int) (hn : 1 ≤ n ∧ n < 2147483648) : MetI l yL_low wsL_low (rmF 0 0) (SPc [.int (zI z), .int (zI n)]) (z % 2147483648 % n) := by
  refine Met.ofW (cc := cL_low) (maxL := 2) (ret := (some .int)) (by decide) rfl ?_
  intro p e s m args below meth c s₁ B hml hv
  obtain ⟨rfl, -⟩ := hv
  have hx := B.exec
  have hb := B.bytes
  have hr := B.returns
  have hts := atoms_spec (ws := wsL_low) B.pre
  have hown : s.vm.findClass RL = some m.cls := findClass_of_methodNamed B.named
  have hlocks := B.notSynchronized
  have hl := lv_entry ([.int (zI z), .int (zI n)]) (n := 2) (Nat.le_of_ble_eq_true rfl)
  rw [lg_entry_eq]
  generalize (lg_sl ([.int (zI z), .int (zI n)]) ++ List.replicate (2 - (lg_sl ([.int (zI z), .int (zI n)])).length) Slot.unset).toArray = ls at hl ⊢
  have hl : lv_has ls 2 [(0, .int (zI z)), (1, .int (zI n))] := hl
  refine lv_iload_n hx hb dL_low_0 rfl (lv_at hl 0 rfl) ?_
  refine lv_ldc (v := zI 2147483647) hx hb hown (by rw [show zI 2147483647 = (2147483647 : Int32) from by decide +kernel]; exact hts (.constant RL 7 2147483647) (by decide +kernel)) dL_low_1 ?_
  refine lv_iand hx hb dL_low_3 ?_
  rw [zI_31]
  refine lv_iload_n hx hb dL_low_4 rfl (lv_at hl 1 rfl) ?_
  refine x_irem hx hb (by omega) (by omega) dL_low_5 ?_
  exact x_retI hx hb hr rfl dL_low_6 hlocks
abbrev CPc (b0 L : Nat) (xs : Nat → Int32) (av : List Value) : Array Value → State → Prop := va_Pc av (fun U => va_X b0 L xs U U.heap ∧ b0 < U.heap.size)
theorem x_blindC {b0 L : Nat} {xs : Nat → Int32} {av : List Value} : FrameBlind (CPc b0 L xs av) := fun a U g mk h => ⟨h.1, va_X.moved (u := U) (U := U.calling g mk a) (Vm.Alike.refl U.vm) h.2.1, h.2.2⟩
theorem x_preC {b0 L : Nat} {xs : Nat → Int32} {s : State} {H : Heap} {As : List Value} {A : Nat → Prop} {locs : List Loc} (hX : va_X b0 L xs s s.heap) (hbl : b0 < s.heap.size) (hbA : ¬ A b0) (hS : va_S A s.heap H locs) : PreS s H (CPc b0 L xs As) As :=
  ⟨x_blindC, fun U hU hW' => ⟨rfl, by rw [hU]; exact (hX.kept (hS.2.1 b0 hbl hbA)).moved hW'.alike, by rw [hU]; exact Nat.lt_of_lt_of_le hbl hS.1⟩⟩
set_option maxHeartbeats 4000000 in
set_option maxRecDepth 100000 in
theorem c_L_cell (l : Launch) (b0 L : Nat) (xs : Nat → Int32) (hL : L ≤ 260) (k : Nat) (hk : k ≤ 1000) (zk : Int) (ek : zk = (k : Int)) : Met l yL_cell wsL_cell (rmF 0 0) (CPc b0 L xs [.ref b0, .int (zI zk)]) (vp_Si (fun _ => True)) 0 0 (fun _ => False) := by
  refine Met.ofW (cc := cL_cell) (maxL := 2) (ret := some .int) (by decide) rfl ?_
  intro p e s m args below meth c s₁ B hml hv
  obtain ⟨rfl, hX, hbl⟩ := hv
  have hx := B.exec
  have hb := B.bytes
  have hr := B.returns
  have hts := atoms_spec (ws := wsL_cell) B.pre
  have hown : s.vm.findClass RL = some m.cls := findClass_of_methodNamed B.named
  have hlocks := B.notSynchronized
  have hl := lv_entry ([.ref b0, .int (zI zk)]) (n := 2) (Nat.le_of_ble_eq_true rfl)
  rw [lg_entry_eq]
  generalize (lg_sl ([.ref b0, .int (zI zk)]) ++ List.replicate (2 - (lg_sl ([.ref b0, .int (zI zk)])).length) Slot.unset).toArray = ls at hl ⊢
  have hl : lv_has ls 2 [(0, .ref b0), (1, .int (zI zk))] := hl
  subst ek
  have hS : va_S nA s.heap s.heap [] := va_S.rf
  refine lv_iload_n hx hb dL_cell_0 rfl (lv_at hl 1 rfl) ?_
  refine lv_aload_n hx hb dL_cell_1 rfl (lv_at hl 0 rfl) ?_
  refine va_slen hx hb hX hbl (fun h => h) hS dL_cell_2 ?_
  rw [show Int32.ofNat L = zI (L : Int) from zI_nat L]
  refine x_icmp_ge (tgt := 12) hx hb dL_cell_3 (by decide) (by omega) (fun h1 => ?_) (fun h1 => ?_)
  · refine lv_ldc (v := zI 40503) hx hb hown (by rw [show zI 40503 = (40503 : Int32) from by decide +kernel]; exact hts (.constant RL 8 40503) (by decide +kernel)) dL_cell_12 ?_
    refine lv_iload_n hx hb dL_cell_14 rfl (lv_at hl 1 rfl) ?_
    refine x_imul hx hb dL_cell_15 ?_
    refine lv_sipush (v := zI 977) hx hb dL_cell_16 (by decide +kernel) ?_
    refine x_iadd hx hb dL_cell_19 ?_
    exact W.iret hx hb hr (fun t ht _ => ⟨_, rfl, trivial, ht⟩) (fun _ h => by cases h) dL_cell_20
  · refine lv_aload_n hx hb dL_cell_6 rfl (lv_at hl 0 rfl) ?_
    refine lv_iload_n hx hb dL_cell_7 rfl (lv_at hl 1 rfl) ?_
    refine va_sld hx hb hX hbl (fun h => h) hS (zI_in (k := k) (by omega) (by omega)) dL_cell_8 ?_
    refine lv_goto (tgt := 20) hx hb dL_cell_9 (by decide) ?_
    exact W.iret hx hb hr (fun t ht _ => ⟨_, rfl, trivial, ht⟩) (fun _ h => by cases h) dL_cell_20
/-- what the law's append answers, and the state behind it -/
def apZ (b : XB) (q y c k : Nat) : Int := if kAppN b q y (c : Int) (k : Int) = 0 then (bN b q y : Int) + 1 else -3
def apB (b : XB) (q y c k : Nat) : XB := if kAppN b q y (c : Int) (k : Int) = 0 then bApp b q y c k else b
def ckZ (b : XB) (r : Nat) : Int := if bLC b (r - 1) = 0 then (bLG b (r - 1) : Int) else -3
def ckB (b : XB) (r : Nat) : XB := if bLC b (r - 1) = 0 then uLC b (r - 1) 1 else b
theorem kR_p {P : Prop} [Decidable P] {n : Int} (h : P) : kR P n = n := if_pos h
theorem kA_c (b : XB) (q y : Nat) (zd zc : Int) : kAppN b q y zd zc = 0 ∨ kAppN b q y zd zc = 2 := by
  unfold kAppN
  split
  · exact Or.inr rfl
  · exact Or.inl rfl
theorem kC_c (b : XB) (k : Nat) : (kClkN b k = 0 ∧ bLC b k = 0) ∨ (kClkN b k = 2 ∧ ¬ bLC b k = 0) := by
  unfold kClkN
  split
  · exact Or.inl ⟨rfl, by assumption⟩
  · exact Or.inr ⟨rfl, by assumption⟩
set_option maxHeartbeats 4000000 in
set_option maxRecDepth 100000 in
theorem c_L_append (l : Launch) (hfl : l.stackTraces = false) (G : XG) (o lo : Nat) (hlo : lo ≤ o) (b : XB) (y : Nat) (hy : y < 4) (q : Nat) (hq : q < 8) (c9 : Nat) (hc : c9 < 40) (k : Nat) (hk9 : k ≤ 1000) (zs : Int) (zq : Int) (zc : Int) (zk : Int) (ey : zs = (y : Int)) (eq : zq = (q : Int)) (ec9 : zc = (c9 : Int)) (ek : zk = (k : Int)) : MetLI l yL_append wsL_append 8 127 8 48 G o lo b [.ref o, .int (zI zs), .int (zI zq), .int (zI zc), .int (zI zk)] (apZ b q y c9 k) (apB b q y c9 k) := by
  subst ey
  subst eq
  subst ec9
  subst ek
  refine x_ofWH (cc := cL_append) (maxL := 6) (ret := some .int) (hh := [(0, 9, 10, 15)]) (by decide) rfl ?_
  intro p e s m args below meth c s₁ B hml hv
  obtain ⟨rfl, ⟨lim, dif, hW⟩, hi, hK, hT⟩ := hv
  have hx := B.exec
  have hb := B.bytes
  have hr := B.returns
  have hts := atoms_spec (ws := wsL_append) B.pre
  have hown : s.vm.findClass RL = some m.cls := findClass_of_methodNamed B.named
  have hlocks := B.notSynchronized
  have htab : c.exceptionTable.toList = tableOf [(0, 9, 10, 15)] := vx_table (x := yL_append) B (hts _ List.mem_cons_self)
  have hl := lv_entry ([.ref o, .int (zI (y : Int)), .int (zI (q : Int)), .int (zI (c9 : Int)), .int (zI (k : Int))]) (n := 6) (Nat.le_of_ble_eq_true rfl)
  rw [lg_entry_eq]
  generalize (lg_sl ([.ref o, .int (zI (y : Int)), .int (zI (q : Int)), .int (zI (c9 : Int)), .int (zI (k : Int))]) ++ List.replicate (6 - (lg_sl ([.ref o, .int (zI (y : Int)), .int (zI (q : Int)), .int (zI (c9 : Int)), .int (zI (k : Int))])).length) Slot.unset).toArray = ls at hl ⊢
  have hl : lv_has ls 6 [(0, .ref o), (1, .int (zI (y : Int))), (2, .int (zI (q : Int))), (3, .int (zI (c9 : Int))), (4, .int (zI (k : Int)))] := hl
  have hS : va_S (xA o) s.heap s.heap [] := va_S.rf
  have hA : ∀ q, xA o q → lo ≤ q := fun q h => Nat.le_trans hlo h.1
  have hWlt := hW.lt
  refine lv_aload_n hx hb dL_append_0 rfl (lv_at hl 0 rfl) ?_
  refine lv_iload_n hx hb dL_append_1 rfl (lv_at hl 1 rfl) ?_
  refine lv_iload_n hx hb dL_append_2 rfl (lv_at hl 2 rfl) ?_
  refine lv_iload_n hx hb dL_append_3 rfl (lv_at hl 3 rfl) ?_
  refine lv_iload hx hb dL_append_4 (lv_at hl 4 rfl) ?_
  refine vx_calli (vx_runV (As := [.int (zI (y : Int)), .int (zI (q : Int)), .int (zI (c9 : Int)), .int (zI (k : Int))]) (rest := []) ⟨hx, hb, hml, hown, hts⟩ (c_X3_append l hfl G o lo hlo b lim dif (y : Int) (by omega) (q : Int) (by omega) (c9 : Int) (by omega) (k : Int) (by omega)) (cwV 4 hts gL_append_X3_append rfl rfl rfl (by decide +kernel) ⟨Nat.le_of_ble_eq_true rfl, Nat.le_of_ble_eq_true rfl⟩) (x_preT hW hi hK hT hS hA hW.jr (ci := 3) (q := (RX3, TX3, 3)) rfl) rfl rfl hl.1 rfl (lv_room (Nat.le_of_ble_eq_true rfl)) dL_append_6 ⟨Nat.le_of_ble_eq_true rfl, Nat.le_of_ble_eq_true rfl⟩) hS (fun q _ h => h) (fun q h => h) (fun q _ h => h.elim) (fun E ce q9 u t H1 locs1 ht _ _ hbx hz hk hS hcell hcv hcl => ?_) (fun r9 u t H1 locs1 ht _ hp hB hz hk hS => ?_)
  · have hX1 : BX G o b H1 := ⟨lim, dif, hW.kept (fun a h1 h2 => hk a (by omega) (fun x => x))⟩
    rcases hbx with ⟨rfl, hk1⟩ | ⟨rfl, hk1⟩
    · rw [kR_p (by omega)] at hk1
      exfalso; have := kA_c b ((q : Nat) : Int).toNat ((y : Nat) : Int).toNat (c9 : Int) (k : Int); omega
    · rw [kR_p (by omega)] at hk1
      refine vx_catch (name := nIS) hown [] _ _ htab (fun z hz => by cases hz) (by decide) (by decide) (hts (.classLink RL 15 nIS) (by decide +kernel)) (va_Nw.use rfl (hT.2.2.2 (.castable nIS nIS) (List.mem_of_getElem? (i := 4) rfl))) hcell hcv hcl ?_
      refine lv_astore (lv' := _) hx hb dL_append_10 hl (by decide) rfl (fun ls hl => ?_)
      refine lv_bipush (v := zI (-3)) hx hb dL_append_12 (by decide +kernel) ?_
      exact W.iret hx hb hr (fun t ht2 _ => ⟨⟨_, (), rfl, congrArg zI (by rw [apZ, if_neg (fun x => absurd (x.symm.trans hk1) (by decide))]), H1, ht2, by rw [apB, if_neg (fun x => absurd (x.symm.trans hk1) (by decide))]; exact hX1⟩, hS.F ht2⟩) hS.2.2 dL_append_14
  · obtain ⟨hk0, rfl⟩ := hp
    rw [kR_p (by omega)] at hk0
    obtain ⟨Hx, e1, hX⟩ := hB
    have e2 : Hx = H1 := e1.symm.trans ht
    subst e2
    exact W.iret hx hb hr (fun t ht2 _ => ⟨⟨_, (), rfl, congrArg zI (by exact (if_pos (show kAppN b q y (c9 : Int) (k : Int) = 0 from hk0)).symm), Hx, ht2, by rw [apB, if_pos (show kAppN b q y (c9 : Int) (k : Int) = 0 from hk0)]; exact hX⟩, hS.F ht2⟩) hS.2.2 dL_append_9
set_option maxHeartbeats 4000000 in
set_option maxRecDepth 100000 in
theorem c_L_click (l : Launch) (hfl : l.stackTraces = false) (G : XG) (o lo : Nat) (hlo : lo ≤ o) (b : XB) (r : Nat) (hr9 : 1 ≤ r ∧ r ≤ bL b) (zr : Int) (er : zr = (r : Int)) : MetLI l yL_click wsL_click 8 125 8 48 G o lo b [.ref o, .int (zI zr)] (ckZ b r) (ckB b r) := by
  subst er
  refine x_ofWH (cc := cL_click) (maxL := 3) (ret := some .int) (hh := [(0, 5, 6, 15)]) (by decide) rfl ?_
  intro p e s m args below meth c s₁ B hml hv
  obtain ⟨rfl, ⟨lim, dif, hW⟩, hi, hK, hT⟩ := hv
  have hx := B.exec
  have hb := B.bytes
  have hr := B.returns
  have hts := atoms_spec (ws := wsL_click) B.pre
  have hown : s.vm.findClass RL = some m.cls := findClass_of_methodNamed B.named
  have hlocks := B.notSynchronized
  have htab : c.exceptionTable.toList = tableOf [(0, 5, 6, 15)] := vx_table (x := yL_click) B (hts _ List.mem_cons_self)
  have hl := lv_entry ([.ref o, .int (zI (r : Int))]) (n := 3) (Nat.le_of_ble_eq_true rfl)
  rw [lg_entry_eq]
  generalize (lg_sl ([.ref o, .int (zI (r : Int))]) ++ List.replicate (3 - (lg_sl ([.ref o, .int (zI (r : Int))])).length) Slot.unset).toArray = ls at hl ⊢
  have hl : lv_has ls 3 [(0, .ref o), (1, .int (zI (r : Int)))] := hl
  have hS : va_S (xA o) s.heap s.heap [] := va_S.rf
  have hA : ∀ q, xA o q → lo ≤ q := fun q h => Nat.le_trans hlo h.1
  have hWlt := hW.lt
  have hbl := hi.l
  refine lv_aload_n hx hb dL_click_0 rfl (lv_at hl 0 rfl) ?_
  refine lv_iload_n hx hb dL_click_1 rfl (lv_at hl 1 rfl) ?_
  refine vx_calli (vx_runV (As := [.int (zI (r : Int))]) (rest := []) ⟨hx, hb, hml, hown, hts⟩ (c_X3_click l hfl G o lo hlo b lim dif (r : Int) (by omega)) (cwV 1 hts gL_click_X3_click rfl rfl rfl (by decide +kernel) ⟨Nat.le_of_ble_eq_true rfl, Nat.le_of_ble_eq_true rfl⟩) (x_preT hW hi hK hT hS hA hW.jr (ci := 3) (q := (RX3, TX3, 3)) rfl) rfl rfl hl.1 rfl (lv_room (Nat.le_of_ble_eq_true rfl)) dL_click_2 ⟨Nat.le_of_ble_eq_true rfl, Nat.le_of_ble_eq_true rfl⟩) hS (fun q _ h => h) (fun q h => h) (fun q _ h => h.elim) (fun E ce q9 u t H1 locs1 ht _ _ hbx hz hk hS hcell hcv hcl => ?_) (fun r9 u t H1 locs1 ht _ hp hB hz hk hS => ?_)
  · have hX1 : BX G o b H1 := ⟨lim, dif, hW.kept (fun a h1 h2 => hk a (by omega) (fun x => x))⟩
    rcases hbx with ⟨rfl, hk1⟩ | ⟨rfl, hk1⟩
    · rw [kR_p (by omega)] at hk1
      exfalso; have := kC_c b (((r : Nat) : Int).toNat - 1); omega
    · rw [kR_p (by omega)] at hk1
      refine vx_catch (name := nIS) hown [] _ _ htab (fun z hz => by cases hz) (by decide) (by decide) (hts (.classLink RL 15 nIS) (by decide +kernel)) (va_Nw.use rfl (hT.2.2.2 (.castable nIS nIS) (List.mem_of_getElem? (i := 4) rfl))) hcell hcv hcl ?_
      refine lv_astore_n (lv' := _) hx hb dL_click_6 rfl hl (by decide) rfl (fun ls hl => ?_)
      refine lv_bipush (v := zI (-3)) hx hb dL_click_7 (by decide +kernel) ?_
      exact W.iret hx hb hr (fun t ht2 _ => ⟨⟨_, (), rfl, congrArg zI (by rw [ckZ, if_neg (by have := kC_c b (((r : Nat) : Int).toNat - 1); rw [Int.toNat_natCast] at this hk1; omega)]), H1, ht2, by rw [ckB, if_neg (by have := kC_c b (((r : Nat) : Int).toNat - 1); rw [Int.toNat_natCast] at this hk1; omega)]; exact hX1⟩, hS.F ht2⟩) hS.2.2 dL_click_9
  · obtain ⟨hk0, rfl⟩ := hp
    rw [kR_p (by omega)] at hk0
    obtain ⟨Hx, e1, hX⟩ := hB
    have e2 : Hx = H1 := e1.symm.trans ht
    subst e2
    exact W.iret hx hb hr (fun t ht2 _ => ⟨⟨_, (), rfl, congrArg zI (by rw [ckZ, if_pos (by have := kC_c b (((r : Nat) : Int).toNat - 1); rw [Int.toNat_natCast] at this hk0; omega)]; rfl), Hx, ht2, by rw [ckB, if_pos (by have := kC_c b (((r : Nat) : Int).toNat - 1); rw [Int.toNat_natCast] at this hk0; omega)]; exact hX⟩, hS.F ht2⟩) hS.2.2 dL_click_5
set_option maxHeartbeats 4000000 in
set_option maxRecDepth 100000 in
theorem c_L_divisor (l : Launch) (za zb : Int) (a b : Nat) (hza : za = (a : Int)) (hzb : zb = (b : Int)) (ha : a < 9223372036854775808) (hb0 : b < 9223372036854775808) : MetL l yL_divisor wsL_divisor (rmF 0 0) (SPc [.long (lI za), .long (lI zb)]) (Nat.gcd a b : Int) := by
  refine Met.ofW (cc := cL_divisor) (maxL := 10) (ret := (some .long)) (by decide) rfl ?_
  intro p e s m args below meth c s₁ B hml hv
  obtain ⟨rfl, -⟩ := hv
  have hx := B.exec
  have hb := B.bytes
  have hr := B.returns
  have hts := atoms_spec (ws := wsL_divisor) B.pre
  have hown : s.vm.findClass RL = some m.cls := findClass_of_methodNamed B.named
  have hlocks := B.notSynchronized
  have hl := lv_entry ([.long (lI za), .long (lI zb)]) (n := 10) (Nat.le_of_ble_eq_true rfl)
  rw [lg_entry_eq]
  generalize (lg_sl ([.long (lI za), .long (lI zb)]) ++ List.replicate (10 - (lg_sl ([.long (lI za), .long (lI zb)])).length) Slot.unset).toArray = ls at hl ⊢
  have hl : lv_has ls 10 [(0, .long (lI za)), (2, .long (lI zb))] := hl
  refine lv_lload_n hx hb dL_divisor_0 rfl (lv_at hl 0 rfl) ?_
  refine lv_lstore (lv' := [(4, .long (lI za)), (0, .long (lI za)), (2, .long (lI zb))]) hx hb dL_divisor_1 hl (by decide) rfl (fun ls hl => ?_)
  refine lv_lload_n hx hb dL_divisor_3 rfl (lv_at hl 2 rfl) ?_
  refine lv_lstore (lv' := [(6, .long (lI zb)), (4, .long (lI za)), (0, .long (lI za)), (2, .long (lI zb))]) hx hb dL_divisor_4 hl (by decide) rfl (fun ls hl => ?_)
  refine x_loop2 (fun (x : Nat) (y : Nat) => (x < 9223372036854775808) ∧ (y < 9223372036854775808) ∧ (Nat.gcd x y = Nat.gcd a b)) (fun (x : Nat) (y : Nat) => y) (fun (x : Nat) (y : Nat) => [(6, .long (lI (y : Int))), (4, .long (lI (x : Int)))]) (a) (b) (show ((a) < 9223372036854775808) ∧ ((b) < 9223372036854775808) ∧ (Nat.gcd (a) (b) = Nat.gcd a b) from ⟨(ha), (hb0), (rfl)⟩) (show lv_has ls 10 [(6, .long (lI ((b) : Int))), (4, .long (lI ((a) : Int)))] from (lv_cons (x_atL (lv_at hl 0 rfl) (by omega)) (lv_cons (x_atL (lv_at hl 1 rfl) (by omega)) (lv_nil hl)))) (fun x y ls hI6 hl ih6 => ?_)
  obtain ⟨hx1, hy1, hg⟩ : (x < 9223372036854775808) ∧ (y < 9223372036854775808) ∧ (Nat.gcd x y = Nat.gcd a b) := hI6
  have hl : lv_has ls 10 [(6, .long (lI (y : Int))), (4, .long (lI (x : Int)))] := hl
  refine lv_lload hx hb dL_divisor_6 (lv_at hl 0 rfl) ?_
  refine lv_lconst (v := lI 0) hx hb dL_divisor_8 (by decide +kernel) ?_
  refine x_lcmp hx hb (by omega) dL_divisor_9 ?_
  refine x_if_eq (tgt := 31) hx hb dL_divisor_10 (by decide) (x_cw _ _) (fun h1 => ?_) (fun h2 => ?_)
  · have h0y : y = 0 := by have h9 := (cmpZ_eq _ _).mp h1; omega
    refine lv_lload hx hb dL_divisor_31 (lv_at hl 1 rfl) ?_
    exact x_retL hx hb hr (by rw [← hg, h0y, Nat.gcd_zero_right]) dL_divisor_33 hlocks
  · have h0y : 0 < y := by rcases Nat.eq_zero_or_pos y with h9 | h9; exact absurd ((cmpZ_eq _ _).mpr (by omega)) h2; exact h9
    refine lv_lload hx hb dL_divisor_13 (lv_at hl 1 rfl) ?_
    refine lv_lload hx hb dL_divisor_15 (lv_at hl 0 rfl) ?_
    refine x_lrem hx hb (by omega) (by omega) dL_divisor_17 ?_
    refine lv_lstore (lv' := [(8, .long (lI ((x : Int) % (y : Int)))), (6, .long (lI (y : Int))), (4, .long (lI (x : Int)))]) hx hb dL_divisor_18 hl (by decide) rfl (fun ls hl => ?_)
    refine lv_lload hx hb dL_divisor_20 (lv_at hl 1 rfl) ?_
    refine lv_lstore (lv' := [(4, .long (lI (y : Int))), (8, .long (lI ((x : Int) % (y : Int)))), (6, .long (lI (y : Int)))]) hx hb dL_divisor_22 hl (by decide) rfl (fun ls hl => ?_)
    refine lv_lload hx hb dL_divisor_24 (lv_at hl 1 rfl) ?_
    refine lv_lstore (lv' := [(6, .long (lI ((x : Int) % (y : Int)))), (4, .long (lI (y : Int))), (8, .long (lI ((x : Int) % (y : Int))))]) hx hb dL_divisor_26 hl (by decide) rfl (fun ls hl => ?_)
    refine lv_goto (tgt := 6) hx hb dL_divisor_28 (by decide) ?_
    exact ih6 (y) (x % y) ls (show ((y) < 9223372036854775808) ∧ ((x % y) < 9223372036854775808) ∧ (Nat.gcd (y) (x % y) = Nat.gcd a b) from ⟨(hy1), (Nat.lt_trans (Nat.mod_lt x h0y) hy1), ((gcd_st h0y).trans hg)⟩) (show (x % y) < y from (Nat.mod_lt x h0y)) (lv_cons (x_atL (lv_at hl 0 rfl) (by rw [Int.natCast_emod])) (lv_cons (lv_at hl 1 rfl) (lv_nil hl)))
set_option maxHeartbeats 4000000 in
set_option maxRecDepth 100000 in
theorem c_L_isPart (l : Launch) (za zb : Int) (a b : Nat) (hza : za = (a : Int)) (hzb : zb = (b : Int)) (hab : a ≤ b) (hb0 : 0 < b) (hb1 : b < 9223372036854775808) (hg : Nat.gcd a b = 1) : MetI l yL_isPart wsL_isPart (rmF 1 29) (SPc [.long (lI za), .long (lI zb)]) 1 := by
  refine Met.ofW (cc := cL_isPart) (maxL := 4) (ret := (some .boolean)) (by decide) rfl ?_
  intro p e s m args below meth c s₁ B hml hv
  obtain ⟨rfl, -⟩ := hv
  have hx := B.exec
  have hb := B.bytes
  have hr := B.returns
  have hts := atoms_spec (ws := wsL_isPart) B.pre
  have hown : s.vm.findClass RL = some m.cls := findClass_of_methodNamed B.named
  have hlocks := B.notSynchronized
  have hl := lv_entry ([.long (lI za), .long (lI zb)]) (n := 4) (Nat.le_of_ble_eq_true rfl)
  rw [lg_entry_eq]
  generalize (lg_sl ([.long (lI za), .long (lI zb)]) ++ List.replicate (4 - (lg_sl ([.long (lI za), .long (lI zb)])).length) Slot.unset).toArray = ls at hl ⊢
  have hl : lv_has ls 4 [(0, .long (lI za)), (2, .long (lI zb))] := hl
  refine lv_lload_n hx hb dL_isPart_0 rfl (lv_at hl 0 rfl) ?_
  refine lv_lconst (v := lI 0) hx hb dL_isPart_1 (by decide +kernel) ?_
  refine x_lcmp hx hb (by omega) dL_isPart_2 ?_
  have hc1 := cmpZ_lt za 0
  refine x_if_lt (tgt := 32) hx hb dL_isPart_3 (by decide) (x_cw _ _) (fun h1 => ?_) (fun h2 => ?_)
  · exact absurd h1 (by omega)
  · refine lv_lload_n hx hb dL_isPart_6 rfl (lv_at hl 1 rfl) ?_
    refine lv_lconst (v := lI 0) hx hb dL_isPart_7 (by decide +kernel) ?_
    refine x_lcmp hx hb (by omega) dL_isPart_8 ?_
    have hc2 := cmpZ_le zb 0
    refine x_if_le (tgt := 32) hx hb dL_isPart_9 (by decide) (x_cw _ _) (fun h3 => ?_) (fun h4 => ?_)
    · exact absurd h3 (by omega)
    · refine lv_lload_n hx hb dL_isPart_12 rfl (lv_at hl 0 rfl) ?_
      refine lv_lload_n hx hb dL_isPart_13 rfl (lv_at hl 1 rfl) ?_
      refine x_lcmp hx hb (by omega) dL_isPart_14 ?_
      have hc3 := cmpZ_le za zb
      refine x_if_gt (tgt := 32) hx hb dL_isPart_15 (by decide) (x_cw _ _) (fun h5 => ?_) (fun h6 => ?_)
      · exact absurd h5 (by omega)
      · refine lv_lload_n hx hb dL_isPart_18 rfl (lv_at hl 0 rfl) ?_
        refine lv_lload_n hx hb dL_isPart_19 rfl (lv_at hl 1 rfl) ?_
        refine x_cL (va_runS (As := [.long (lI za), .long (lI zb)]) (rest := []) ⟨hx, hb, hml, hown, hts⟩ (c_L_divisor l za zb a b (by omega) (by omega) (by omega) (by omega)) (va_cwS 2 hts gL_isPart_L_divisor rfl rfl rfl (by decide +kernel) ⟨Nat.le_of_ble_eq_true rfl, Nat.le_of_ble_eq_true rfl⟩) x_preS rfl rfl hl.1 rfl (lv_room (Nat.le_of_ble_eq_true rfl)) dL_isPart_20 ⟨Nat.le_of_ble_eq_true rfl, Nat.le_of_ble_eq_true rfl⟩) ?_
        refine lv_lconst (v := lI 1) hx hb dL_isPart_23 (by decide +kernel) ?_
        refine x_lcmp hx hb (by omega) dL_isPart_24 ?_
        have hc4 := cmpZ_eq (Nat.gcd a b : Int) 1
        refine x_if_ne (tgt := 32) hx hb dL_isPart_25 (by decide) (x_cw _ _) (fun h7 => ?_) (fun h8 => ?_)
        · exact absurd h7 (by omega)
        · refine x_iconst hx hb dL_isPart_28 ?_
          refine lv_goto (tgt := 33) hx hb dL_isPart_29 (by decide) ?_
          exact x_retB hx hb hr (⟨rfl, by omega⟩) dL_isPart_33 hlocks
