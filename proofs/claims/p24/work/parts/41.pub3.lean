section XR5
variable {p : Program} {l : Launch} {e : Env} {R : Room} {s : State} {m : MethodId} {args : Array Value} {below : List Frame} {meth : Method} {c : Code} {H : Heap} {locs : List Loc} {cells slots : Nat} {Q : State → Prop} {cc : ByteArray} {pc : Nat} {ls : Array Slot} {rest : List Value}
theorem x_abs {own : String} {index nL : Nat} {a : Int} {lst : List (Nat × Value)} {Ts : List Cond} (hx : p.tables.exec = Jvm.exec) (hb : c.code = cc) (hml : c.maxLocals = nL) (hl : lv_has ls nL lst) (hown : s.vm.findClass own = some m.cls) (hts : ∀ w ∈ Ts, w.before args s = true)
    (h1 : ([.methodLink own index Lib.Math.abs.name, .static Lib.Math.abs.name, .initialized "java/lang/Math", .code Lib.Math.abs.name Lib.Math.abs.code 1 (some .int)] : List Cond).all (fun w => decide (w ∈ Ts)) = true) (hrm : (rest.map fun v => v.category).sum + 13 ≤ R.locals)
    (hr : -2147483647 ≤ a ∧ a < 2147483648) (hfr : 1 ≤ R.frames) (hcs : cells ≤ R.cells ∧ slots ≤ R.slots) (hdg : decode cc pc = .ok (.invokestatic index, 3))
    (kk : W p l e R s m args below meth c H locs cells slots Q (F0 m (pc + 3) ls (.int (zI (max a (-a))) :: rest))) : W p l e R s m args below meth c H locs cells slots Q (F0 m pc ls (.int (zI a) :: rest)) := by
  have hm : ∀ w ∈ ([.methodLink own index Lib.Math.abs.name, .static Lib.Math.abs.name, .initialized "java/lang/Math", .code Lib.Math.abs.name Lib.Math.abs.code 1 (some .int)] : List Cond), w.before args s = true := fun w hw => hts w (of_decide_eq_true (List.all_eq_true.mp h1 w hw))
  refine va_mabs hx hb (hml.trans hl.1.symm) hown (hm _ List.mem_cons_self) (hm _ (List.mem_cons_of_mem _ List.mem_cons_self)) (hm _ (List.mem_cons_of_mem _ (List.mem_cons_of_mem _ List.mem_cons_self))) (hm _ (List.mem_cons_of_mem _ (List.mem_cons_of_mem _ (List.mem_cons_of_mem _ List.mem_cons_self)))) hfr hrm hcs.1 hcs.2 hdg ?_
  have e : (if 0 ≤ zI a then zI a else 0 - zI a) = zI (max a (-a)) := by
    have h0 : (0 ≤ zI a) ↔ 0 ≤ a := by
      have := zI_le (a := 0) (b := a) (by omega)
      rw [zI_0] at this
      exact this
    by_cases h : 0 ≤ a
    · rw [if_pos (h0.mpr h)]; congr 1; omega
    · rw [if_neg (fun q => h (h0.mp q)), ← zI_0, zI_sub]; congr 1; omega
  rw [e]
  exact kk
end XR5
theorem sx_bd {dif : Nat → Int} (h : ∀ j, j < 8 → -20 ≤ dif j ∧ dif j ≤ 20) (e : Nat) : ∀ n : Nat, n ≤ 8 → -(20 * (n : Int)) ≤ sum9 (sxT dif e) 0 n ∧ sum9 (sxT dif e) 0 n ≤ 20 * (n : Int)
  | 0, _ => by rw [show sum9 (sxT dif e) 0 0 = 0 from rfl]; omega
  | n + 1, hn => by
    have a := sx_bd h e n (by omega)
    have c := h n (by omega)
    have c2 : -20 ≤ sxT dif e n ∧ sxT dif e n ≤ 20 := by unfold sxT; split <;> omega
    rw [sum9_s, Nat.zero_add]
    omega
theorem sxZ_bd {dif : Nat → Int} (h : ∀ j, j < 8 → -20 ≤ dif j ∧ dif j ≤ 20) (e : Nat) : -160 ≤ sxZ dif e ∧ sxZ dif e ≤ 160 := by
  have := sx_bd h e 8 (Nat.le_refl _)
  unfold sxZ
  omega
theorem sxZ_congr {df g : Nat → Int} (h : ∀ j, j < 8 → df j = g j) (e : Nat) : sxZ df e = sxZ g e := sum9_congr (fun k hk => by rw [Nat.zero_add, sxT, sxT, h k hk])
theorem dfZ_bd (b : XB) (y1 y2 : Nat) {d : Nat} (hd : d ≤ 20) (q : Nat) : -20 ≤ dfZ b y1 y2 d q ∧ dfZ b y1 y2 d q ≤ 20 := by
  have h1 := relN_le b q y1 0 d
  have h2 := relN_le b q y2 0 d
  unfold dfZ
  omega
def tsP (df : Nat → Int) (e : Nat) : Bool := decide (max (sxZ df 0) (-(sxZ df 0)) ≤ max (sxZ df e) (-(sxZ df e)))
def tsN (df : Nat → Int) : Nat := cnt9 (tsP df) 0 256
theorem ts_t {df : Nat → Int} {k : Nat} (h : max (sxZ df 0) (-(sxZ df 0)) ≤ max (sxZ df k) (-(sxZ df k))) : cnt9 (tsP df) 0 (k + 1) = cnt9 (tsP df) 0 k + 1 := cnt9_t (by rw [Nat.zero_add]; exact decide_eq_true h)
theorem ts_f {df : Nat → Int} {k : Nat} (h : max (sxZ df k) (-(sxZ df k)) < max (sxZ df 0) (-(sxZ df 0))) : cnt9 (tsP df) 0 (k + 1) = cnt9 (tsP df) 0 k := cnt9_f (by rw [Nat.zero_add, tsP, decide_eq_true_eq]; omega)
theorem tsN_congr {df g : Nat → Int} (h : ∀ j, j < 8 → df j = g j) : tsN df = tsN g := cnt9_congr (fun k _ => by rw [tsP, tsP, sxZ_congr h 0, sxZ_congr h (0 + k)])
set_option maxHeartbeats 4000000 in
set_option maxRecDepth 100000 in
theorem c_X3_sum (l : Launch) (hfl : l.stackTraces = false) (G : XG) (o lo : Nat) (hlo : lo ≤ o) (b : XB) (lim : Int) (dif : Nat → Int) (z1 : Int) (hz1 : -2147483648 ≤ z1 ∧ z1 < 2147483648) (z2 : Int) (hz2 : -2147483648 ≤ z2 ∧ z2 < 2147483648) (zr : Int) (hzr : -2147483648 ≤ zr ∧ zr < 2147483648) : MetPI l yX3_sum wsX3_sum (rmP 7 117) (TPc G o lo b lim dif [.ref o, .int (zI z1), .int (zI z2), .int (zI zr)]) (kR ((0 ≤ z1 ∧ z1 < 4) ∧ (0 ≤ z2 ∧ z2 < 4) ∧ (1 ≤ zr ∧ zr ≤ 20)) 0) (sxZ (dfZ b z1.toNat z2.toNat zr.toNat) 0) (BX G o b) (xA o) := by
  refine vx_ofW (cc := cX3_sum) (maxL := 4) (ret := (some .int)) (by decide) rfl ?_
  intro p e s m args below meth c s₁ B hml ht9 hv
  obtain ⟨rfl, hW, hi, hK, hT⟩ := hv
  have hx := B.exec
  have hb := B.bytes
  have hr := B.returns
  have hts := atoms_spec (ws := wsX3_sum) B.pre
  have hown : s.vm.findClass RX3 = some m.cls := findClass_of_methodNamed B.named
  have hlocks := B.notSynchronized
  have hl := lv_entry ([.ref o, .int (zI z1), .int (zI z2), .int (zI zr)]) (n := 4) (Nat.le_of_ble_eq_true rfl)
  rw [lg_entry_eq]
  generalize (lg_sl ([.ref o, .int (zI z1), .int (zI z2), .int (zI zr)]) ++ List.replicate (4 - (lg_sl ([.ref o, .int (zI z1), .int (zI z2), .int (zI zr)])).length) Slot.unset).toArray = ls at hl ⊢
  have hl : lv_has ls 4 [(0, .ref o), (1, .int (zI z1)), (2, .int (zI z2)), (3, .int (zI zr))] := hl
  have hS : va_S (xA o) s.heap s.heap [] := va_S.rf
  have hF : NF s.heap s.heap := NF.rf
  have hAl : ∀ q, xA o q → lo ≤ q := fun q h => Nat.le_trans hlo h.1
  have hll := hi.l
  refine lv_iload_n hx hb dX3_sum_0 rfl (lv_at hl 1 rfl) ?_
  refine vx_callv (vx_runS (As := [.int (zI z1)]) (rest := []) ⟨hx, hb, hml, hown, hts⟩ (c_X3_requireSystem l hfl lo z1 (by omega)) (va_cwS 1 hts gX3_sum_X3_requireSystem rfl rfl rfl (by decide +kernel) ⟨Nat.le_of_ble_eq_true rfl, Nat.le_of_ble_eq_true rfl⟩) ⟨x_blindS, fun U hU hW' => ⟨rfl, hT.to hS hAl hW' hU⟩⟩ rfl rfl hl.1 rfl (lv_room (Nat.le_of_ble_eq_true rfl)) dX3_sum_1 ⟨Nat.le_of_ble_eq_true rfl, Nat.le_of_ble_eq_true rfl⟩) hS (fun q _ h => h.elim) (fun q h => h.elim) (fun q _ h => h.elim) (fun E ce q9 u t H1 locs1 ht hv9 hp9 hB9 hz9 hk9 hS hc1 hc2 hc3 => ?_) (fun u t H1 locs1 ht hv9 hp9 hB9 hz9 hk9 hS => ?_)
  · have hp9 : ¬ (0 ≤ z1 ∧ z1 < 4) := hp9
    exact vx_out (fun x hx9 => (ht9 x hx9).elim) hlocks hc1 hc2 hc3 (fun t9 ht99 hv99 => ⟨(), trivial, Or.inl ⟨hB9, kR_f (by omega)⟩, (hF.go hz9 (fun q hq => hk9 q hq (fun h => h))).F ht99⟩) hS.2.2 (by decide) (by decide)
  have hp1 : 0 ≤ z1 ∧ z1 < 4 := hp9
  have hW := hW.kept (fun a h1 h2 => hk9 a (by have := hW.lt; omega) (fun h => h))
  have hF := hF.go hz9 (fun q hq => hk9 q hq (fun h => h))
  refine lv_iload_n hx hb dX3_sum_4 rfl (lv_at hl 2 rfl) ?_
  refine vx_callv (vx_runS (As := [.int (zI z2)]) (rest := []) ⟨hx, hb, hml, hown, hts⟩ (c_X3_requireSystem l hfl lo z2 (by omega)) (va_cwS 1 hts gX3_sum_X3_requireSystem rfl rfl rfl (by decide +kernel) ⟨Nat.le_of_ble_eq_true rfl, Nat.le_of_ble_eq_true rfl⟩) ⟨x_blindS, fun U hU hW' => ⟨rfl, hT.to hS hAl hW' hU⟩⟩ rfl rfl hl.1 rfl (lv_room (Nat.le_of_ble_eq_true rfl)) dX3_sum_5 ⟨Nat.le_of_ble_eq_true rfl, Nat.le_of_ble_eq_true rfl⟩) hS (fun q _ h => h.elim) (fun q h => h.elim) (fun q _ h => h.elim) (fun E ce q9 u t H1 locs1 ht hv9 hp9 hB9 hz9 hk9 hS hc1 hc2 hc3 => ?_) (fun u t H1 locs1 ht hv9 hp9 hB9 hz9 hk9 hS => ?_)
  · have hp9 : ¬ (0 ≤ z2 ∧ z2 < 4) := hp9
    exact vx_out (fun x hx9 => (ht9 x hx9).elim) hlocks hc1 hc2 hc3 (fun t9 ht99 hv99 => ⟨(), trivial, Or.inl ⟨hB9, kR_f (by omega)⟩, (hF.go hz9 (fun q hq => hk9 q hq (fun h => h))).F ht99⟩) hS.2.2 (by decide) (by decide)
  have hp2 : 0 ≤ z2 ∧ z2 < 4 := hp9
  have hW := hW.kept (fun a h1 h2 => hk9 a (by have := hW.lt; omega) (fun h => h))
  have hF := hF.go hz9 (fun q hq => hk9 q hq (fun h => h))
  refine lv_iload_n hx hb dX3_sum_8 rfl (lv_at hl 3 rfl) ?_
  refine vx_callv (vx_runS (As := [.int (zI zr)]) (rest := []) ⟨hx, hb, hml, hown, hts⟩ (c_X3_requireOneToTwenty l hfl lo zr (by omega)) (va_cwS 1 hts gX3_sum_X3_requireOneToTwenty rfl rfl rfl (by decide +kernel) ⟨Nat.le_of_ble_eq_true rfl, Nat.le_of_ble_eq_true rfl⟩) ⟨x_blindS, fun U hU hW' => ⟨rfl, hT.to hS hAl hW' hU⟩⟩ rfl rfl hl.1 rfl (lv_room (Nat.le_of_ble_eq_true rfl)) dX3_sum_9 ⟨Nat.le_of_ble_eq_true rfl, Nat.le_of_ble_eq_true rfl⟩) hS (fun q _ h => h.elim) (fun q h => h.elim) (fun q _ h => h.elim) (fun E ce q9 u t H1 locs1 ht hv9 hp9 hB9 hz9 hk9 hS hc1 hc2 hc3 => ?_) (fun u t H1 locs1 ht hv9 hp9 hB9 hz9 hk9 hS => ?_)
  · have hp9 : ¬ (1 ≤ zr ∧ zr ≤ 20) := hp9
    exact vx_out (fun x hx9 => (ht9 x hx9).elim) hlocks hc1 hc2 hc3 (fun t9 ht99 hv99 => ⟨(), trivial, Or.inl ⟨hB9, kR_f (by omega)⟩, (hF.go hz9 (fun q hq => hk9 q hq (fun h => h))).F ht99⟩) hS.2.2 (by decide) (by decide)
  have hp3 : 1 ≤ zr ∧ zr ≤ 20 := hp9
  have hW := hW.kept (fun a h1 h2 => hk9 a (by have := hW.lt; omega) (fun h => h))
  have hF := hF.go hz9 (fun q hq => hk9 q hq (fun h => h))
  obtain ⟨y1, rfl⟩ : ∃ y1 : Nat, z1 = (y1 : Int) := ⟨z1.toNat, by omega⟩
  obtain ⟨y2, rfl⟩ : ∃ y2 : Nat, z2 = (y2 : Int) := ⟨z2.toNat, by omega⟩
  obtain ⟨d, rfl⟩ : ∃ d : Nat, zr = (d : Int) := ⟨zr.toNat, by omega⟩
  refine lv_aload_n hx hb dX3_sum_12 rfl (lv_at hl 0 rfl) ?_
  refine lv_iload_n hx hb dX3_sum_13 rfl (lv_at hl 1 rfl) ?_
  refine lv_iload_n hx hb dX3_sum_14 rfl (lv_at hl 2 rfl) ?_
  refine lv_iload_n hx hb dX3_sum_15 rfl (lv_at hl 3 rfl) ?_
  refine x_wV (va_runV (As := [.int (zI (y1 : Int)), .int (zI (y2 : Int)), .int (zI (d : Int))]) (rest := []) ⟨hx, hb, hml, hown, hts⟩ (c_X3_noteDifferences l G o b lim dif y1 y2 (by omega) (by omega) (y1 : Int) (y2 : Int) (d : Int) d (by omega) (by omega) (by omega) (by omega)) (cwV 3 hts gX3_sum_X3_noteDifferences rfl rfl rfl (by decide +kernel) ⟨Nat.le_of_ble_eq_true rfl, Nat.le_of_ble_eq_true rfl⟩) (x_preV hW hi hK hW.jr (ci := 3) (q := (RX3, TX3, 3)) rfl) rfl rfl hl.1 rfl (lv_room (Nat.le_of_ble_eq_true rfl)) dX3_sum_16 ⟨Nat.le_of_ble_eq_true rfl, Nat.le_of_ble_eq_true rfl⟩) hS (fun q _ h => h) (fun q h => h) (fun H1 locs1 hW1 hz1 hk1 hS => ?_)
  obtain ⟨df, hW, hdf⟩ := hW1
  refine lv_aload_n hx hb dX3_sum_19 rfl (lv_at hl 0 rfl) ?_
  refine x_iconst hx hb dX3_sum_20 ?_
  refine x_cI (va_runV (As := [.int (zI 0)]) (rest := []) ⟨hx, hb, hml, hown, hts⟩ (c_X3_sumWithExchange l G o b lim df 0 (0) (by omega) (by omega)) (cwV 1 hts gX3_sum_X3_sumWithExchange rfl rfl rfl (by decide +kernel) ⟨Nat.le_of_ble_eq_true rfl, Nat.le_of_ble_eq_true rfl⟩) (x_preV hW hi hK hW.jr (ci := 3) (q := (RX3, TX3, 3)) rfl) rfl rfl hl.1 rfl (lv_room (Nat.le_of_ble_eq_true rfl)) dX3_sum_21 ⟨Nat.le_of_ble_eq_true rfl, Nat.le_of_ble_eq_true rfl⟩) ?_
  refine W.widen (k := 8) (n := 48) (by decide) (by decide) (vx_ret ?_)
  exact W.iret hx hb hr (fun t ht _ => ⟨⟨_, (), rfl, ⟨kR_t (by omega) rfl, congrArg zI (sxZ_congr hdf 0)⟩, _, ht, ⟨_, _, hW⟩⟩, hS.F ht⟩) hS.2.2 dX3_sum_24
set_option maxHeartbeats 4000000 in
set_option maxRecDepth 100000 in
theorem c_X3_test (l : Launch) (hfl : l.stackTraces = false) (G : XG) (o lo : Nat) (hlo : lo ≤ o) (b : XB) (lim : Int) (dif : Nat → Int) (z1 : Int) (hz1 : -2147483648 ≤ z1 ∧ z1 < 2147483648) (z2 : Int) (hz2 : -2147483648 ≤ z2 ∧ z2 < 2147483648) (zr : Int) (hzr : -2147483648 ≤ zr ∧ zr < 2147483648) : MetPI l yX3_test wsX3_test (rmP 7 117) (TPc G o lo b lim dif [.ref o, .int (zI z1), .int (zI z2), .int (zI zr)]) (kR ((0 ≤ z1 ∧ z1 < 4) ∧ (0 ≤ z2 ∧ z2 < 4) ∧ (1 ≤ zr ∧ zr ≤ 20)) 0) (tsN (dfZ b z1.toNat z2.toNat zr.toNat) : Int) (BX G o b) (xA o) := by
  refine vx_ofW (cc := cX3_test) (maxL := 7) (ret := (some .int)) (by decide) rfl ?_
  intro p e s m args below meth c s₁ B hml ht9 hv
  obtain ⟨rfl, hW, hi, hK, hT⟩ := hv
  have hx := B.exec
  have hb := B.bytes
  have hr := B.returns
  have hts := atoms_spec (ws := wsX3_test) B.pre
  have hown : s.vm.findClass RX3 = some m.cls := findClass_of_methodNamed B.named
  have hlocks := B.notSynchronized
  have hl := lv_entry ([.ref o, .int (zI z1), .int (zI z2), .int (zI zr)]) (n := 7) (Nat.le_of_ble_eq_true rfl)
  rw [lg_entry_eq]
  generalize (lg_sl ([.ref o, .int (zI z1), .int (zI z2), .int (zI zr)]) ++ List.replicate (7 - (lg_sl ([.ref o, .int (zI z1), .int (zI z2), .int (zI zr)])).length) Slot.unset).toArray = ls at hl ⊢
  have hl : lv_has ls 7 [(0, .ref o), (1, .int (zI z1)), (2, .int (zI z2)), (3, .int (zI zr))] := hl
  have hS : va_S (xA o) s.heap s.heap [] := va_S.rf
  have hF : NF s.heap s.heap := NF.rf
  have hAl : ∀ q, xA o q → lo ≤ q := fun q h => Nat.le_trans hlo h.1
  have hll := hi.l
  refine lv_iload_n hx hb dX3_test_0 rfl (lv_at hl 1 rfl) ?_
  refine vx_callv (vx_runS (As := [.int (zI z1)]) (rest := []) ⟨hx, hb, hml, hown, hts⟩ (c_X3_requireSystem l hfl lo z1 (by omega)) (va_cwS 1 hts gX3_test_X3_requireSystem rfl rfl rfl (by decide +kernel) ⟨Nat.le_of_ble_eq_true rfl, Nat.le_of_ble_eq_true rfl⟩) ⟨x_blindS, fun U hU hW' => ⟨rfl, hT.to hS hAl hW' hU⟩⟩ rfl rfl hl.1 rfl (lv_room (Nat.le_of_ble_eq_true rfl)) dX3_test_1 ⟨Nat.le_of_ble_eq_true rfl, Nat.le_of_ble_eq_true rfl⟩) hS (fun q _ h => h.elim) (fun q h => h.elim) (fun q _ h => h.elim) (fun E ce q9 u t H1 locs1 ht hv9 hp9 hB9 hz9 hk9 hS hc1 hc2 hc3 => ?_) (fun u t H1 locs1 ht hv9 hp9 hB9 hz9 hk9 hS => ?_)
  · have hp9 : ¬ (0 ≤ z1 ∧ z1 < 4) := hp9
    exact vx_out (fun x hx9 => (ht9 x hx9).elim) hlocks hc1 hc2 hc3 (fun t9 ht99 hv99 => ⟨(), trivial, Or.inl ⟨hB9, kR_f (by omega)⟩, (hF.go hz9 (fun q hq => hk9 q hq (fun h => h))).F ht99⟩) hS.2.2 (by decide) (by decide)
  have hp1 : 0 ≤ z1 ∧ z1 < 4 := hp9
  have hW := hW.kept (fun a h1 h2 => hk9 a (by have := hW.lt; omega) (fun h => h))
  have hF := hF.go hz9 (fun q hq => hk9 q hq (fun h => h))
  refine lv_iload_n hx hb dX3_test_4 rfl (lv_at hl 2 rfl) ?_
  refine vx_callv (vx_runS (As := [.int (zI z2)]) (rest := []) ⟨hx, hb, hml, hown, hts⟩ (c_X3_requireSystem l hfl lo z2 (by omega)) (va_cwS 1 hts gX3_test_X3_requireSystem rfl rfl rfl (by decide +kernel) ⟨Nat.le_of_ble_eq_true rfl, Nat.le_of_ble_eq_true rfl⟩) ⟨x_blindS, fun U hU hW' => ⟨rfl, hT.to hS hAl hW' hU⟩⟩ rfl rfl hl.1 rfl (lv_room (Nat.le_of_ble_eq_true rfl)) dX3_test_5 ⟨Nat.le_of_ble_eq_true rfl, Nat.le_of_ble_eq_true rfl⟩) hS (fun q _ h => h.elim) (fun q h => h.elim) (fun q _ h => h.elim) (fun E ce q9 u t H1 locs1 ht hv9 hp9 hB9 hz9 hk9 hS hc1 hc2 hc3 => ?_) (fun u t H1 locs1 ht hv9 hp9 hB9 hz9 hk9 hS => ?_)
  · have hp9 : ¬ (0 ≤ z2 ∧ z2 < 4) := hp9
    exact vx_out (fun x hx9 => (ht9 x hx9).elim) hlocks hc1 hc2 hc3 (fun t9 ht99 hv99 => ⟨(), trivial, Or.inl ⟨hB9, kR_f (by omega)⟩, (hF.go hz9 (fun q hq => hk9 q hq (fun h => h))).F ht99⟩) hS.2.2 (by decide) (by decide)
  have hp2 : 0 ≤ z2 ∧ z2 < 4 := hp9
  have hW := hW.kept (fun a h1 h2 => hk9 a (by have := hW.lt; omega) (fun h => h))
  have hF := hF.go hz9 (fun q hq => hk9 q hq (fun h => h))
  refine lv_iload_n hx hb dX3_test_8 rfl (lv_at hl 3 rfl) ?_
  refine vx_callv (vx_runS (As := [.int (zI zr)]) (rest := []) ⟨hx, hb, hml, hown, hts⟩ (c_X3_requireOneToTwenty l hfl lo zr (by omega)) (va_cwS 1 hts gX3_test_X3_requireOneToTwenty rfl rfl rfl (by decide +kernel) ⟨Nat.le_of_ble_eq_true rfl, Nat.le_of_ble_eq_true rfl⟩) ⟨x_blindS, fun U hU hW' => ⟨rfl, hT.to hS hAl hW' hU⟩⟩ rfl rfl hl.1 rfl (lv_room (Nat.le_of_ble_eq_true rfl)) dX3_test_9 ⟨Nat.le_of_ble_eq_true rfl, Nat.le_of_ble_eq_true rfl⟩) hS (fun q _ h => h.elim) (fun q h => h.elim) (fun q _ h => h.elim) (fun E ce q9 u t H1 locs1 ht hv9 hp9 hB9 hz9 hk9 hS hc1 hc2 hc3 => ?_) (fun u t H1 locs1 ht hv9 hp9 hB9 hz9 hk9 hS => ?_)
  · have hp9 : ¬ (1 ≤ zr ∧ zr ≤ 20) := hp9
    exact vx_out (fun x hx9 => (ht9 x hx9).elim) hlocks hc1 hc2 hc3 (fun t9 ht99 hv99 => ⟨(), trivial, Or.inl ⟨hB9, kR_f (by omega)⟩, (hF.go hz9 (fun q hq => hk9 q hq (fun h => h))).F ht99⟩) hS.2.2 (by decide) (by decide)
  have hp3 : 1 ≤ zr ∧ zr ≤ 20 := hp9
  have hW := hW.kept (fun a h1 h2 => hk9 a (by have := hW.lt; omega) (fun h => h))
  have hF := hF.go hz9 (fun q hq => hk9 q hq (fun h => h))
  obtain ⟨y1, rfl⟩ : ∃ y1 : Nat, z1 = (y1 : Int) := ⟨z1.toNat, by omega⟩
  obtain ⟨y2, rfl⟩ : ∃ y2 : Nat, z2 = (y2 : Int) := ⟨z2.toNat, by omega⟩
  obtain ⟨d, rfl⟩ : ∃ d : Nat, zr = (d : Int) := ⟨zr.toNat, by omega⟩
  refine lv_aload_n hx hb dX3_test_12 rfl (lv_at hl 0 rfl) ?_
  refine lv_iload_n hx hb dX3_test_13 rfl (lv_at hl 1 rfl) ?_
  refine lv_iload_n hx hb dX3_test_14 rfl (lv_at hl 2 rfl) ?_
  refine lv_iload_n hx hb dX3_test_15 rfl (lv_at hl 3 rfl) ?_
  refine x_wV (va_runV (As := [.int (zI (y1 : Int)), .int (zI (y2 : Int)), .int (zI (d : Int))]) (rest := []) ⟨hx, hb, hml, hown, hts⟩ (c_X3_noteDifferences l G o b lim dif y1 y2 (by omega) (by omega) (y1 : Int) (y2 : Int) (d : Int) d (by omega) (by omega) (by omega) (by omega)) (cwV 3 hts gX3_test_X3_noteDifferences rfl rfl rfl (by decide +kernel) ⟨Nat.le_of_ble_eq_true rfl, Nat.le_of_ble_eq_true rfl⟩) (x_preV hW hi hK hW.jr (ci := 3) (q := (RX3, TX3, 3)) rfl) rfl rfl hl.1 rfl (lv_room (Nat.le_of_ble_eq_true rfl)) dX3_test_16 ⟨Nat.le_of_ble_eq_true rfl, Nat.le_of_ble_eq_true rfl⟩) hS (fun q _ h => h) (fun q h => h) (fun H1 locs1 hW1 hz1 hk1 hS => ?_)
  obtain ⟨df, hW, hdf⟩ := hW1
  have hdb : ∀ j, j < 8 → -20 ≤ df j ∧ df j ≤ 20 := fun j hj => by rw [hdf j hj]; exact dfZ_bd b y1 y2 (by omega) j
  have hs0 := sxZ_bd hdb 0
  refine lv_aload_n hx hb dX3_test_19 rfl (lv_at hl 0 rfl) ?_
  refine x_iconst hx hb dX3_test_20 ?_
  refine x_cI (va_runV (As := [.int (zI 0)]) (rest := []) ⟨hx, hb, hml, hown, hts⟩ (c_X3_sumWithExchange l G o b lim df 0 (0) (by omega) (by omega)) (cwV 1 hts gX3_test_X3_sumWithExchange rfl rfl rfl (by decide +kernel) ⟨Nat.le_of_ble_eq_true rfl, Nat.le_of_ble_eq_true rfl⟩) (x_preV hW hi hK hW.jr (ci := 3) (q := (RX3, TX3, 3)) rfl) rfl rfl hl.1 rfl (lv_room (Nat.le_of_ble_eq_true rfl)) dX3_test_21 ⟨Nat.le_of_ble_eq_true rfl, Nat.le_of_ble_eq_true rfl⟩) ?_
  refine x_abs (index := 157) (rest := []) hx hb hml hl hown hts (by decide +kernel) (Nat.le_of_ble_eq_true rfl) (by omega) (Nat.le_of_ble_eq_true rfl) ⟨Nat.le_of_ble_eq_true rfl, Nat.le_of_ble_eq_true rfl⟩ dX3_test_24 ?_
  refine lv_istore (lv' := [(4, .int (zI (max (sxZ df (0)) (-(sxZ df (0)))))), (0, .ref o), (1, .int (zI (y1 : Int))), (2, .int (zI (y2 : Int))), (3, .int (zI (d : Int)))]) hx hb dX3_test_27 hl (by decide) rfl (fun ls hl => ?_)
  refine x_iconst hx hb dX3_test_29 ?_
  refine lv_istore (lv' := [(5, .int (zI 0)), (4, .int (zI (max (sxZ df (0)) (-(sxZ df (0)))))), (0, .ref o), (1, .int (zI (y1 : Int))), (2, .int (zI (y2 : Int))), (3, .int (zI (d : Int)))]) hx hb dX3_test_30 hl (by decide) rfl (fun ls hl => ?_)
  refine x_iconst hx hb dX3_test_32 ?_
  refine lv_istore (lv' := [(6, .int (zI 0)), (5, .int (zI 0)), (4, .int (zI (max (sxZ df (0)) (-(sxZ df (0)))))), (0, .ref o), (1, .int (zI (y1 : Int))), (2, .int (zI (y2 : Int))), (3, .int (zI (d : Int)))]) hx hb dX3_test_33 hl (by decide) rfl (fun ls hl => ?_)
  refine x_loop1 (fun (k : Nat) => (k ≤ 256) ∧ (cnt9 (tsP df) 0 k ≤ k)) (fun (k : Nat) => 256 - k) (fun (k : Nat) => [(6, .int (zI (k : Int))), (5, .int (zI (cnt9 (tsP df) 0 k : Int))), (4, .int (zI (max (sxZ df (0)) (-(sxZ df (0)))))), (0, .ref o)]) (0) (show ((0) ≤ 256) ∧ (cnt9 (tsP df) 0 (0) ≤ (0)) from ⟨(Nat.zero_le _), (cnt9_le _ _ _)⟩) (show lv_has ls 7 [(6, .int (zI ((0) : Int))), (5, .int (zI (cnt9 (tsP df) 0 (0) : Int))), (4, .int (zI (max (sxZ df (0)) (-(sxZ df (0)))))), (0, .ref o)] from (lv_cons (x_at (lv_at hl 0 rfl) (by omega)) (lv_cons (x_at (lv_at hl 1 rfl) (rfl)) (lv_cons (lv_at hl 2 rfl) (lv_cons (lv_at hl 3 rfl) (lv_nil hl)))))) (fun k ls hI35 hl ih35 => ?_)
  obtain ⟨hk, hc⟩ : (k ≤ 256) ∧ (cnt9 (tsP df) 0 k ≤ k) := hI35
  have hl : lv_has ls 7 [(6, .int (zI (k : Int))), (5, .int (zI (cnt9 (tsP df) 0 k : Int))), (4, .int (zI (max (sxZ df (0)) (-(sxZ df (0)))))), (0, .ref o)] := hl
  refine lv_iload hx hb dX3_test_35 (lv_at hl 0 rfl) ?_
  refine lv_sipush (v := zI 256) hx hb dX3_test_37 (by decide +kernel) ?_
  refine x_icmp_ge (tgt := 66) hx hb dX3_test_40 (by decide) (by omega) (fun h4 => ?_) (fun h5 => ?_)
  · refine lv_iload hx hb dX3_test_66 (lv_at hl 1 rfl) ?_
    refine W.widen (k := 8) (n := 48) (by decide) (by decide) (vx_ret ?_)
    exact W.iret hx hb hr (fun t ht _ => ⟨⟨_, (), rfl, ⟨kR_t (by omega) rfl, congrArg zI (by rw [show k = 256 from by omega]; exact congrArg Nat.cast (tsN_congr hdf))⟩, _, ht, ⟨_, _, hW⟩⟩, hS.F ht⟩) hS.2.2 dX3_test_68
  · have hsk := sxZ_bd hdb k
    refine lv_aload_n hx hb dX3_test_43 rfl (lv_at hl 3 rfl) ?_
    refine lv_iload hx hb dX3_test_44 (lv_at hl 0 rfl) ?_
    refine x_cI (va_runV (As := [.int (zI (k : Int))]) (rest := []) ⟨hx, hb, hml, hown, hts⟩ (c_X3_sumWithExchange l G o b lim df (k : Int) (k) (by omega) (by omega)) (cwV 1 hts gX3_test_X3_sumWithExchange rfl rfl rfl (by decide +kernel) ⟨Nat.le_of_ble_eq_true rfl, Nat.le_of_ble_eq_true rfl⟩) (x_preV hW hi hK hW.jr (ci := 3) (q := (RX3, TX3, 3)) rfl) rfl rfl hl.1 rfl (lv_room (Nat.le_of_ble_eq_true rfl)) dX3_test_46 ⟨Nat.le_of_ble_eq_true rfl, Nat.le_of_ble_eq_true rfl⟩) ?_
    refine x_abs (index := 157) (rest := []) hx hb hml hl hown hts (by decide +kernel) (Nat.le_of_ble_eq_true rfl) (by omega) (Nat.le_of_ble_eq_true rfl) ⟨Nat.le_of_ble_eq_true rfl, Nat.le_of_ble_eq_true rfl⟩ dX3_test_49 ?_
    refine lv_iload hx hb dX3_test_52 (lv_at hl 2 rfl) ?_
    refine x_icmp_lt (tgt := 60) hx hb dX3_test_54 (by decide) (by omega) (fun h6 => ?_) (fun h7 => ?_)
    · refine x_iinc (lv' := [(6, .int (zI ((k : Int) + 1))), (5, .int (zI (cnt9 (tsP df) 0 k : Int))), (4, .int (zI (max (sxZ df (0)) (-(sxZ df (0)))))), (0, .ref o)]) (k := 0) hx hb dX3_test_60 hl rfl (by decide) rfl (fun ls hl => ?_)
      refine lv_goto (tgt := 35) hx hb dX3_test_63 (by decide) ?_
      exact ih35 (k + 1) ls (show ((k + 1) ≤ 256) ∧ (cnt9 (tsP df) 0 (k + 1) ≤ (k + 1)) from ⟨(by omega), (cnt9_le _ _ _)⟩) (show 256 - (k + 1) < 256 - k from (by omega)) (lv_cons (x_at (lv_at hl 0 rfl) (by omega)) (lv_cons (x_at (lv_at hl 1 rfl) (by rw [ts_f (by omega)])) (lv_cons (lv_at hl 2 rfl) (lv_cons (lv_at hl 3 rfl) (lv_nil hl)))))
    · refine x_iinc (lv' := [(5, .int (zI ((cnt9 (tsP df) 0 k : Int) + 1))), (6, .int (zI (k : Int))), (4, .int (zI (max (sxZ df (0)) (-(sxZ df (0)))))), (0, .ref o)]) (k := 1) hx hb dX3_test_57 hl rfl (by decide) rfl (fun ls hl => ?_)
      refine x_iinc (lv' := [(6, .int (zI ((k : Int) + 1))), (5, .int (zI ((cnt9 (tsP df) 0 k : Int) + 1))), (4, .int (zI (max (sxZ df (0)) (-(sxZ df (0)))))), (0, .ref o)]) (k := 1) hx hb dX3_test_60 hl rfl (by decide) rfl (fun ls hl => ?_)
      refine lv_goto (tgt := 35) hx hb dX3_test_63 (by decide) ?_
      exact ih35 (k + 1) ls (show ((k + 1) ≤ 256) ∧ (cnt9 (tsP df) 0 (k + 1) ≤ (k + 1)) from ⟨(by omega), (cnt9_le _ _ _)⟩) (show 256 - (k + 1) < 256 - k from (by omega)) (lv_cons (x_at (lv_at hl 0 rfl) (by omega)) (lv_cons (x_at (lv_at hl 1 rfl) (by rw [ts_t (by omega)]; rfl)) (lv_cons (lv_at hl 2 rfl) (lv_cons (lv_at hl 3 rfl) (lv_nil hl)))))
