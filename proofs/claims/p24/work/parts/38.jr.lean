/-- nothing old has changed -/
def NF (H0 H : Heap) : Prop := H0.size ≤ H.size ∧ ∀ q, q < H0.size → H[q]? = H0[q]?
theorem NF.rf {H : Heap} : NF H H := ⟨Nat.le_refl _, fun _ _ => rfl⟩
theorem NF.go {H0 H H1 : Heap} (h : NF H0 H) (hz : H.size ≤ H1.size) (hk : ∀ q, q < H.size → H1[q]? = H[q]?) : NF H0 H1 := ⟨Nat.le_trans h.1 hz, fun q hq => (hk q (Nat.lt_of_lt_of_le hq h.1)).trans (h.2 q hq)⟩
theorem NF.F {s t : State} {H : Heap} (h : NF s.heap H) (ht : t.heap = H) : va_F nA s t := ⟨by rw [ht]; exact h.1, fun q hq _ => by rw [ht]; exact h.2 q hq⟩
theorem x_preT {G : XG} {o lo : Nat} {b : XB} {lim : Int} {dif : Nat → Int} {s : State} {H : Heap} {aa ci : Nat} {q : vw_C} {fs As : List Value} {A : Nat → Prop} {locs : List Loc} (hW : BW G o b lim dif H) (hi : bInv b) (hK : XK G s) (hT : XT lo s) (hS : va_S A s.heap H locs) (hA : ∀ q, A q → lo ≤ q) (hP : va1 G aa (.inr (ci, fs)) H) (hc : vwCl[ci]? = some q) : PreV s H q.1 aa (TPc G o lo b lim dif (.ref aa :: As)) As :=
  ⟨x_blindT, va_recv hK.1 (x_one hP) hc (q0 := 0) rfl, fun U hU hW' => ⟨rfl, by rw [hU]; exact hW, hi, hK.warm hW', hT.to hS hA hW' hU⟩⟩
/-- a public method's contract: kz 0 and an answer, or kz 1 or 2 and a throw -/
abbrev rmP (f n : Nat) : Room := { frames := f, cells := 8, slots := 48, locals := n }
abbrev pX (kz : Int) : String → State → State → Prop := vx_X (fun _ : Unit => True) (fun E _ _ => (E = nIA ∧ kz = 1) ∨ (E = nIS ∧ kz = 2)) nA
abbrev MetPI (l : Launch) (y : MethodName) (ws : List Cond) (rm : Room) (Pc : Array Value → State → Prop) (kz z : Int) (Pw : Heap → Prop) (A : Nat → Prop) : Prop := vx_Met l y ws rm Pc (va_Qi (fun r (_ : Unit) => kz = 0 ∧ r = zI z) (hpw Pw) A) (pX kz) 8 48 A
abbrev MetPL (l : Launch) (y : MethodName) (ws : List Cond) (rm : Room) (Pc : Array Value → State → Prop) (kz z : Int) (Pw : Heap → Prop) (A : Nat → Prop) : Prop := vx_Met l y ws rm Pc (va_Ql (fun r (_ : Unit) => kz = 0 ∧ r = lI z) (hpw Pw) A) (pX kz) 8 48 A
/-- the JudgedRuns, whatever the list's limit and the row of differences are -/
abbrev BX (G : XG) (o : Nat) (b : XB) (H : Heap) : Prop := ∃ (lim : Int) (dif : Nat → Int), BW G o b lim dif H
set_option maxHeartbeats 4000000 in
set_option maxRecDepth 100000 in
theorem c_X3_hitsAsItStands (l : Launch) (G : XG) (o : Nat) (b : XB) (lim : Int) (dif : Nat → Int) (q y : Nat) (hq : q < 8) (hy : y < 4) (zy zq zd : Int) (d : Nat) (hzy : zy = (y : Int)) (hzq : zq = (q : Int)) (hzd : zd = (d : Int)) (hd : d ≤ 20) : MetI l yX3_hitsAsItStands wsX3_hitsAsItStands (rmF 3 69) (BPc G o b lim dif [.ref o, .int (zI zy), .int (zI zq), .int (zI zd)]) (relN b q y 0 d : Int) := by
  refine Met.ofW (cc := cX3_hitsAsItStands) (maxL := 5) (ret := (some .int)) (by decide) rfl ?_
  intro p e s m args below meth c s₁ B hml hv
  obtain ⟨rfl, hW, hi, hK⟩ := hv
  have hx := B.exec
  have hb := B.bytes
  have hr := B.returns
  have hts := atoms_spec (ws := wsX3_hitsAsItStands) B.pre
  have hown : s.vm.findClass RX3 = some m.cls := findClass_of_methodNamed B.named
  have hlocks := B.notSynchronized
  have hl := lv_entry ([.ref o, .int (zI zy), .int (zI zq), .int (zI zd)]) (n := 5) (Nat.le_of_ble_eq_true rfl)
  rw [lg_entry_eq]
  generalize (lg_sl ([.ref o, .int (zI zy), .int (zI zq), .int (zI zd)]) ++ List.replicate (5 - (lg_sl ([.ref o, .int (zI zy), .int (zI zq), .int (zI zd)])).length) Slot.unset).toArray = ls at hl ⊢
  have hl : lv_has ls 5 [(0, .ref o), (1, .int (zI zy)), (2, .int (zI zq)), (3, .int (zI zd))] := hl
  refine lv_aload_n hx hb dX3_hitsAsItStands_0 rfl (lv_at hl 0 rfl) ?_
  refine x_get (ci := 3) (C := RX3) (T := TX3) (N := 3) (own := RX3) (index := 11) (v := .ref (o + 1)) hx hb hts (by decide +kernel) hown hK hW.jr rfl 0 (by decide) (by decide +kernel) rfl rfl dX3_hitsAsItStands_1 ?_
  refine lv_iload_n hx hb dX3_hitsAsItStands_4 rfl (lv_at hl 2 rfl) ?_
  refine x_aaldq hx hb hK hW.qs (q) (by omega) (by omega) (by decide) dX3_hitsAsItStands_5 ?_
  refine lv_astore (lv' := [(4, .ref (o + 2 + 15 * q)), (0, .ref o), (1, .int (zI zy)), (2, .int (zI zq)), (3, .int (zI zd))]) hx hb dX3_hitsAsItStands_6 hl (by decide) rfl (fun ls hl => ?_)
  refine lv_aload hx hb dX3_hitsAsItStands_8 (lv_at hl 0 rfl) ?_
  refine lv_aload hx hb dX3_hitsAsItStands_10 (lv_at hl 0 rfl) ?_
  refine x_getN (ci := 1) (C := RX1) (T := TX1) (N := 2) (own := RX3) (index := 44) (v := .ref (o + 2 + 15 * q + 1)) hx hb hts (by decide +kernel) hown hK (hW.q (q := q) (by omega)) rfl 0 (by decide) nk_RX3_44 rfl rfl dX3_hitsAsItStands_12 ?_
  refine lv_iload_n hx hb dX3_hitsAsItStands_15 rfl (lv_at hl 2 rfl) ?_
  refine x_aaldr hx hb hK (hW.rs (q := q) (by omega)) (y) (by omega) (by omega) (by decide) dX3_hitsAsItStands_16 ?_
  refine x_iconst hx hb dX3_hitsAsItStands_17 ?_
  refine lv_iload_n hx hb dX3_hitsAsItStands_18 rfl (lv_at hl 4 rfl) ?_
  refine x_cI (va_runVN (As := [.ref (o + 2 + 15 * q + 2 + 3 * y), .int (zI 1), .int (zI zd)]) (rest := []) ⟨hx, hb, hml, hown, hts⟩ (c_X1_relevantWithin l G o b lim dif q (by omega) y (by omega) 1 zd (0) (d) (by omega) (by omega) (by omega) (by omega)) ⟨va_cnB 3 hts gX3_hitsAsItStands_X1_relevantWithin_n172 rfl rfl rfl (x_nestM hK nk_RX3_172) (hts (.initialized RX1) (by decide +kernel)) (by decide +kernel) ⟨Nat.le_of_ble_eq_true rfl, Nat.le_of_ble_eq_true rfl⟩, hts (.instanceMethod yX1_relevantWithin) (by decide +kernel), hts (.selects RX1 yX1_relevantWithin yX1_relevantWithin) (by decide +kernel)⟩ (x_preV hW hi hK (hW.q (q := q) (by omega)) (ci := 1) (q := (RX1, TX1, 2)) rfl) rfl rfl hl.1 rfl (lv_room (Nat.le_of_ble_eq_true rfl)) dX3_hitsAsItStands_19 ⟨Nat.le_of_ble_eq_true rfl, Nat.le_of_ble_eq_true rfl⟩) ?_
  exact x_retI hx hb hr (rfl) dX3_hitsAsItStands_22 hlocks
theorem mhZ_bd {b : XB} (hi : bInv b) (q y : Nat) (de : Int) : 0 ≤ mhZ b q y de ∧ mhZ b q y de ≤ 20 * 232792560 := mh_bd hi de (Nat.le_refl _)
def shP (b : XB) (y : Nat) (de : Int) : Int := sum9 (fun q => mhZ b q y de) 0 8
theorem sh_bd {b : XB} (hi : bInv b) (y : Nat) (de : Int) {n : Nat} (hn : n ≤ 8) : 0 ≤ sum9 (fun q => mhZ b q y de) 0 n ∧ sum9 (fun q => mhZ b q y de) 0 n ≤ 8 * (20 * 232792560) := by
  have h := sum9_bd (g := fun q => mhZ b q y de) (B := 20 * 232792560) (lo := 0) (n := n) (fun j _ => mhZ_bd hi (0 + j) y de)
  omega
def frN (b : XB) (y : Nat) : Nat := cnt9 (fun q => decide (0 < bN b q y)) 0 8
theorem frN_le (b : XB) (y : Nat) : frN b y ≤ 8 := cnt9_le _ _ _
def swZ (b : XB) (y : Nat) (de : Int) : Int := if frN b y = 0 then 1 else 232792560 * de * (frN b y : Int)
def sxT (dif : Nat → Int) (e q : Nat) : Int := if e / 2 ^ q % 2 = 1 then -(dif q) else dif q
def sxZ (dif : Nat → Int) (e : Nat) : Int := sum9 (sxT dif e) 0 8
set_option maxHeartbeats 4000000 in
set_option maxRecDepth 100000 in
theorem c_X3_systemHitParts (l : Launch) (G : XG) (o : Nat) (b : XB) (lim : Int) (dif : Nat → Int) (y : Nat) (hy : y < 4) (zy de : Int) (hzy : zy = (y : Int)) (hde : 1 ≤ de ∧ de ≤ 20) : MetL l yX3_systemHitParts wsX3_systemHitParts (rmF 3 71) (BPc G o b lim dif [.ref o, .int (zI zy), .int (zI de)]) (shP b y de) := by
  refine Met.ofW (cc := cX3_systemHitParts) (maxL := 6) (ret := (some .long)) (by decide) rfl ?_
  intro p e s m args below meth c s₁ B hml hv
  obtain ⟨rfl, hW, hi, hK⟩ := hv
  have hx := B.exec
  have hb := B.bytes
  have hr := B.returns
  have hts := atoms_spec (ws := wsX3_systemHitParts) B.pre
  have hown : s.vm.findClass RX3 = some m.cls := findClass_of_methodNamed B.named
  have hlocks := B.notSynchronized
  have hl := lv_entry ([.ref o, .int (zI zy), .int (zI de)]) (n := 6) (Nat.le_of_ble_eq_true rfl)
  rw [lg_entry_eq]
  generalize (lg_sl ([.ref o, .int (zI zy), .int (zI de)]) ++ List.replicate (6 - (lg_sl ([.ref o, .int (zI zy), .int (zI de)])).length) Slot.unset).toArray = ls at hl ⊢
  have hl : lv_has ls 6 [(0, .ref o), (1, .int (zI zy)), (2, .int (zI de))] := hl
  refine lv_lconst (v := lI 0) hx hb dX3_systemHitParts_0 (by decide +kernel) ?_
  refine lv_lstore_n (lv' := [(3, .long (lI 0)), (0, .ref o), (1, .int (zI zy)), (2, .int (zI de))]) hx hb dX3_systemHitParts_1 rfl hl (by decide) rfl (fun ls hl => ?_)
  refine x_iconst hx hb dX3_systemHitParts_2 ?_
  refine lv_istore (lv' := [(5, .int (zI 0)), (3, .long (lI 0)), (0, .ref o), (1, .int (zI zy)), (2, .int (zI de))]) hx hb dX3_systemHitParts_3 hl (by decide) rfl (fun ls hl => ?_)
  refine x_loop1 (fun (k : Nat) => (k ≤ 8)) (fun (k : Nat) => 8 - k) (fun (k : Nat) => [(5, .int (zI (k : Int))), (3, .long (lI (sum9 (fun q => mhZ b q y de) 0 k))), (0, .ref o), (1, .int (zI zy)), (2, .int (zI de))]) (0) (show ((0) ≤ 8) from (Nat.zero_le _)) (show lv_has ls 6 [(5, .int (zI ((0) : Int))), (3, .long (lI (sum9 (fun q => mhZ b q y de) 0 (0)))), (0, .ref o), (1, .int (zI zy)), (2, .int (zI de))] from (lv_cons (x_at (lv_at hl 0 rfl) (by omega)) (lv_cons (x_atL (lv_at hl 1 rfl) (rfl)) (lv_cons (lv_at hl 2 rfl) (lv_cons (lv_at hl 3 rfl) (lv_cons (lv_at hl 4 rfl) (lv_nil hl))))))) (fun k ls hI5 hl ih5 => ?_)
  have hk : k ≤ 8 := hI5
  have hl : lv_has ls 6 [(5, .int (zI (k : Int))), (3, .long (lI (sum9 (fun q => mhZ b q y de) 0 k))), (0, .ref o), (1, .int (zI zy)), (2, .int (zI de))] := hl
  refine lv_iload hx hb dX3_systemHitParts_5 (lv_at hl 0 rfl) ?_
  refine lv_bipush (v := zI 8) hx hb dX3_systemHitParts_7 (by decide +kernel) ?_
  refine x_icmp_ge (tgt := 33) hx hb dX3_systemHitParts_9 (by decide) (by omega) (fun h1 => ?_) (fun h2 => ?_)
  · refine lv_lload_n hx hb dX3_systemHitParts_33 rfl (lv_at hl 1 rfl) ?_
    exact x_retL hx hb hr (by rw [show k = 8 from by omega]; rfl) dX3_systemHitParts_34 hlocks
  · refine lv_lload_n hx hb dX3_systemHitParts_12 rfl (lv_at hl 1 rfl) ?_
    refine lv_aload_n hx hb dX3_systemHitParts_13 rfl (lv_at hl 2 rfl) ?_
    refine x_get (ci := 3) (C := RX3) (T := TX3) (N := 3) (own := RX3) (index := 11) (v := .ref (o + 1)) hx hb hts (by decide +kernel) hown hK hW.jr rfl 0 (by decide) (by decide +kernel) rfl rfl dX3_systemHitParts_14 ?_
    refine lv_iload hx hb dX3_systemHitParts_17 (lv_at hl 0 rfl) ?_
    refine x_aaldq hx hb hK hW.qs (k) (by omega) (by omega) (by decide) dX3_systemHitParts_19 ?_
    refine lv_iload_n hx hb dX3_systemHitParts_20 rfl (lv_at hl 3 rfl) ?_
    refine lv_iload_n hx hb dX3_systemHitParts_21 rfl (lv_at hl 4 rfl) ?_
    refine x_cL (va_runVN (As := [.int (zI zy), .int (zI de)]) (rest := [.long (lI (sum9 (fun q => mhZ b q y de) 0 k))]) ⟨hx, hb, hml, hown, hts⟩ (c_X1_meanHitParts l G o b lim dif k (by omega) y (by omega) zy de (by omega) (by omega)) ⟨va_cnB 2 hts gX3_systemHitParts_X1_meanHitParts_n96 rfl rfl rfl (x_nestM hK nk_RX3_96) (hts (.initialized RX1) (by decide +kernel)) (by decide +kernel) ⟨Nat.le_of_ble_eq_true rfl, Nat.le_of_ble_eq_true rfl⟩, hts (.instanceMethod yX1_meanHitParts) (by decide +kernel), hts (.selects RX1 yX1_meanHitParts yX1_meanHitParts) (by decide +kernel)⟩ (x_preV hW hi hK (hW.q (q := k) (by omega)) (ci := 1) (q := (RX1, TX1, 2)) rfl) rfl rfl hl.1 rfl (lv_room (Nat.le_of_ble_eq_true rfl)) dX3_systemHitParts_22 ⟨Nat.le_of_ble_eq_true rfl, Nat.le_of_ble_eq_true rfl⟩) ?_
    refine x_ladd hx hb dX3_systemHitParts_25 ?_
    refine lv_lstore_n (lv' := [(3, .long (lI ((sum9 (fun q => mhZ b q y de) 0 k) + (mhZ b k y de)))), (5, .int (zI (k : Int))), (0, .ref o), (1, .int (zI zy)), (2, .int (zI de))]) hx hb dX3_systemHitParts_26 rfl hl (by decide) rfl (fun ls hl => ?_)
    refine x_iinc (lv' := [(5, .int (zI ((k : Int) + 1))), (3, .long (lI ((sum9 (fun q => mhZ b q y de) 0 k) + (mhZ b k y de)))), (0, .ref o), (1, .int (zI zy)), (2, .int (zI de))]) (k := 1) hx hb dX3_systemHitParts_27 hl rfl (by decide) rfl (fun ls hl => ?_)
    refine lv_goto (tgt := 5) hx hb dX3_systemHitParts_30 (by decide) ?_
    exact ih5 (k + 1) ls (show ((k + 1) ≤ 8) from (by omega)) (show 8 - (k + 1) < 8 - k from (by omega)) (lv_cons (x_at (lv_at hl 0 rfl) (by omega)) (lv_cons (x_atL (lv_at hl 1 rfl) (by rw [sum9_s, Nat.zero_add])) (lv_cons (lv_at hl 2 rfl) (lv_cons (lv_at hl 3 rfl) (lv_cons (lv_at hl 4 rfl) (lv_nil hl))))))
set_option maxHeartbeats 4000000 in
set_option maxRecDepth 100000 in
theorem c_X3_filledRuns (l : Launch) (G : XG) (o : Nat) (b : XB) (lim : Int) (dif : Nat → Int) (y : Nat) (hy : y < 4) (zy : Int) (hzy : zy = (y : Int)) : MetI l yX3_filledRuns wsX3_filledRuns (rmF 0 0) (BPc G o b lim dif [.ref o, .int (zI zy)]) (frN b y : Int) := by
  refine Met.ofW (cc := cX3_filledRuns) (maxL := 4) (ret := (some .int)) (by decide) rfl ?_
  intro p e s m args below meth c s₁ B hml hv
  obtain ⟨rfl, hW, hi, hK⟩ := hv
  have hx := B.exec
  have hb := B.bytes
  have hr := B.returns
  have hts := atoms_spec (ws := wsX3_filledRuns) B.pre
  have hown : s.vm.findClass RX3 = some m.cls := findClass_of_methodNamed B.named
  have hlocks := B.notSynchronized
  have hl := lv_entry ([.ref o, .int (zI zy)]) (n := 4) (Nat.le_of_ble_eq_true rfl)
  rw [lg_entry_eq]
  generalize (lg_sl ([.ref o, .int (zI zy)]) ++ List.replicate (4 - (lg_sl ([.ref o, .int (zI zy)])).length) Slot.unset).toArray = ls at hl ⊢
  have hl : lv_has ls 4 [(0, .ref o), (1, .int (zI zy))] := hl
  refine x_iconst hx hb dX3_filledRuns_0 ?_
  refine lv_istore_n (lv' := [(2, .int (zI 0)), (0, .ref o), (1, .int (zI zy))]) hx hb dX3_filledRuns_1 rfl hl (by decide) rfl (fun ls hl => ?_)
  refine x_iconst hx hb dX3_filledRuns_2 ?_
  refine lv_istore_n (lv' := [(3, .int (zI 0)), (2, .int (zI 0)), (0, .ref o), (1, .int (zI zy))]) hx hb dX3_filledRuns_3 rfl hl (by decide) rfl (fun ls hl => ?_)
  refine x_loop1 (fun (k : Nat) => (k ≤ 8)) (fun (k : Nat) => 8 - k) (fun (k : Nat) => [(3, .int (zI (k : Int))), (2, .int (zI (cnt9 (fun j => decide (0 < bN b j y)) 0 k : Int))), (0, .ref o), (1, .int (zI zy))]) (0) (show ((0) ≤ 8) from (Nat.zero_le _)) (show lv_has ls 4 [(3, .int (zI ((0) : Int))), (2, .int (zI (cnt9 (fun j => decide (0 < bN b j y)) 0 (0) : Int))), (0, .ref o), (1, .int (zI zy))] from (lv_cons (x_at (lv_at hl 0 rfl) (by omega)) (lv_cons (x_at (lv_at hl 1 rfl) (rfl)) (lv_cons (lv_at hl 2 rfl) (lv_cons (lv_at hl 3 rfl) (lv_nil hl)))))) (fun k ls hI4 hl ih4 => ?_)
  have hk : k ≤ 8 := hI4
  have hl : lv_has ls 4 [(3, .int (zI (k : Int))), (2, .int (zI (cnt9 (fun j => decide (0 < bN b j y)) 0 k : Int))), (0, .ref o), (1, .int (zI zy))] := hl
  have hn9 := hi.n k y
  refine lv_iload_n hx hb dX3_filledRuns_4 rfl (lv_at hl 0 rfl) ?_
  refine lv_bipush (v := zI 8) hx hb dX3_filledRuns_5 (by decide +kernel) ?_
  refine x_icmp_ge (tgt := 36) hx hb dX3_filledRuns_7 (by decide) (by omega) (fun h1 => ?_) (fun h2 => ?_)
  · refine lv_iload_n hx hb dX3_filledRuns_36 rfl (lv_at hl 1 rfl) ?_
    exact x_retI hx hb hr (by rw [show k = 8 from by omega]; rfl) dX3_filledRuns_37 hlocks
  · refine lv_aload_n hx hb dX3_filledRuns_10 rfl (lv_at hl 2 rfl) ?_
    refine x_get (ci := 3) (C := RX3) (T := TX3) (N := 3) (own := RX3) (index := 11) (v := .ref (o + 1)) hx hb hts (by decide +kernel) hown hK hW.jr rfl 0 (by decide) (by decide +kernel) rfl rfl dX3_filledRuns_11 ?_
    refine lv_iload_n hx hb dX3_filledRuns_14 rfl (lv_at hl 0 rfl) ?_
    refine x_aaldq hx hb hK hW.qs (k) (by omega) (by omega) (by decide) dX3_filledRuns_15 ?_
    refine x_getN (ci := 1) (C := RX1) (T := TX1) (N := 2) (own := RX3) (index := 44) (v := .ref (o + 2 + 15 * k + 1)) hx hb hts (by decide +kernel) hown hK (hW.q (q := k) (by omega)) rfl 0 (by decide) nk_RX3_44 rfl rfl dX3_filledRuns_16 ?_
    refine lv_iload_n hx hb dX3_filledRuns_19 rfl (lv_at hl 3 rfl) ?_
    refine x_aaldr hx hb hK (hW.rs (q := k) (by omega)) (y) (by omega) (by omega) (by decide) dX3_filledRuns_20 ?_
    refine x_getN (ci := 2) (C := RX2) (T := TX2) (N := 3) (own := RX3) (index := 48) (v := .int (zI (bN b k y : Int))) hx hb hts (by decide +kernel) hown hK (hW.r (q := k) (s := y) (by omega) (by omega)) rfl 2 (by decide) nk_RX3_48 rfl rfl dX3_filledRuns_21 ?_
    refine x_if_le (tgt := 30) hx hb dX3_filledRuns_24 (by decide) (by omega) (fun h3 => ?_) (fun h4 => ?_)
    · refine x_iinc (lv' := [(3, .int (zI ((k : Int) + 1))), (2, .int (zI (cnt9 (fun j => decide (0 < bN b j y)) 0 k : Int))), (0, .ref o), (1, .int (zI zy))]) (k := 0) hx hb dX3_filledRuns_30 hl rfl (by decide) rfl (fun ls hl => ?_)
      refine lv_goto (tgt := 4) hx hb dX3_filledRuns_33 (by decide) ?_
      exact ih4 (k + 1) ls (show ((k + 1) ≤ 8) from (by omega)) (show 8 - (k + 1) < 8 - k from (by omega)) (lv_cons (x_at (lv_at hl 0 rfl) (by omega)) (lv_cons (x_at (lv_at hl 1 rfl) (by rw [cnt9_f (by rw [Nat.zero_add, decide_eq_true_eq]; omega)])) (lv_cons (lv_at hl 2 rfl) (lv_cons (lv_at hl 3 rfl) (lv_nil hl)))))
    · refine x_iinc (lv' := [(2, .int (zI ((cnt9 (fun j => decide (0 < bN b j y)) 0 k : Int) + 1))), (3, .int (zI (k : Int))), (0, .ref o), (1, .int (zI zy))]) (k := 1) hx hb dX3_filledRuns_27 hl rfl (by decide) rfl (fun ls hl => ?_)
      refine x_iinc (lv' := [(3, .int (zI ((k : Int) + 1))), (2, .int (zI ((cnt9 (fun j => decide (0 < bN b j y)) 0 k : Int) + 1))), (0, .ref o), (1, .int (zI zy))]) (k := 1) hx hb dX3_filledRuns_30 hl rfl (by decide) rfl (fun ls hl => ?_)
      refine lv_goto (tgt := 4) hx hb dX3_filledRuns_33 (by decide) ?_
      exact ih4 (k + 1) ls (show ((k + 1) ≤ 8) from (by omega)) (show 8 - (k + 1) < 8 - k from (by omega)) (lv_cons (x_at (lv_at hl 0 rfl) (by omega)) (lv_cons (x_at (lv_at hl 1 rfl) (by rw [cnt9_t (by rw [Nat.zero_add]; exact decide_eq_true (by omega))]; rfl)) (lv_cons (lv_at hl 2 rfl) (lv_cons (lv_at hl 3 rfl) (lv_nil hl)))))
set_option maxHeartbeats 4000000 in
set_option maxRecDepth 100000 in
theorem c_X3_systemWhole (l : Launch) (G : XG) (o : Nat) (b : XB) (lim : Int) (dif : Nat → Int) (y : Nat) (hy : y < 4) (zy de : Int) (hzy : zy = (y : Int)) (hde : 1 ≤ de ∧ de ≤ 20) : MetL l yX3_systemWhole wsX3_systemWhole (rmF 1 23) (BPc G o b lim dif [.ref o, .int (zI zy), .int (zI de)]) (swZ b y de) := by
  refine Met.ofW (cc := cX3_systemWhole) (maxL := 4) (ret := (some .long)) (by decide) rfl ?_
  intro p e s m args below meth c s₁ B hml hv
  obtain ⟨rfl, hW, hi, hK⟩ := hv
  have hx := B.exec
  have hb := B.bytes
  have hr := B.returns
  have hts := atoms_spec (ws := wsX3_systemWhole) B.pre
  have hown : s.vm.findClass RX3 = some m.cls := findClass_of_methodNamed B.named
  have hlocks := B.notSynchronized
  have hl := lv_entry ([.ref o, .int (zI zy), .int (zI de)]) (n := 4) (Nat.le_of_ble_eq_true rfl)
  rw [lg_entry_eq]
  generalize (lg_sl ([.ref o, .int (zI zy), .int (zI de)]) ++ List.replicate (4 - (lg_sl ([.ref o, .int (zI zy), .int (zI de)])).length) Slot.unset).toArray = ls at hl ⊢
  have hl : lv_has ls 4 [(0, .ref o), (1, .int (zI zy)), (2, .int (zI de))] := hl
  have hfr9 := frN_le b y
  refine lv_aload_n hx hb dX3_systemWhole_0 rfl (lv_at hl 0 rfl) ?_
  refine lv_iload_n hx hb dX3_systemWhole_1 rfl (lv_at hl 1 rfl) ?_
  refine x_cI (va_runV (As := [.int (zI zy)]) (rest := []) ⟨hx, hb, hml, hown, hts⟩ (c_X3_filledRuns l G o b lim dif (y) (by omega) zy (by omega)) (cwV 1 hts gX3_systemWhole_X3_filledRuns rfl rfl rfl (by decide +kernel) ⟨Nat.le_of_ble_eq_true rfl, Nat.le_of_ble_eq_true rfl⟩) (x_preV hW hi hK hW.jr (ci := 3) (q := (RX3, TX3, 3)) rfl) rfl rfl hl.1 rfl (lv_room (Nat.le_of_ble_eq_true rfl)) dX3_systemWhole_2 ⟨Nat.le_of_ble_eq_true rfl, Nat.le_of_ble_eq_true rfl⟩) ?_
  refine lv_istore_n (lv' := [(3, .int (zI (frN b (y) : Int))), (0, .ref o), (1, .int (zI zy)), (2, .int (zI de))]) hx hb dX3_systemWhole_5 rfl hl (by decide) rfl (fun ls hl => ?_)
  refine lv_iload_n hx hb dX3_systemWhole_6 rfl (lv_at hl 0 rfl) ?_
  refine x_if_ne (tgt := 14) hx hb dX3_systemWhole_7 (by decide) (by omega) (fun h1 => ?_) (fun h2 => ?_)
  · refine lv_ldc2 (v := lI 232792560) hx hb hown (by rw [show lI 232792560 = (232792560 : Int64) from by decide +kernel]; exact hts (.constantLong RX3 100 232792560) (by decide +kernel)) dX3_systemWhole_14 ?_
    refine lv_iload_n hx hb dX3_systemWhole_17 rfl (lv_at hl 3 rfl) ?_
    refine x_i2l hx hb (by omega) dX3_systemWhole_18 ?_
    refine x_lmul hx hb dX3_systemWhole_19 ?_
    refine lv_iload_n hx hb dX3_systemWhole_20 rfl (lv_at hl 0 rfl) ?_
    refine x_i2l hx hb (by omega) dX3_systemWhole_21 ?_
    refine x_lmul hx hb dX3_systemWhole_22 ?_
    exact x_retL hx hb hr (by rw [swZ, if_neg (by omega)]) dX3_systemWhole_23 hlocks
  · refine lv_lconst (v := lI 1) hx hb dX3_systemWhole_10 (by decide +kernel) ?_
    refine lv_goto (tgt := 23) hx hb dX3_systemWhole_11 (by decide) ?_
    exact x_retL hx hb hr (by rw [swZ, if_pos (by omega)]) dX3_systemWhole_23 hlocks
set_option maxHeartbeats 4000000 in
set_option maxRecDepth 100000 in
theorem c_X3_sumWithExchange (l : Launch) (G : XG) (o : Nat) (b : XB) (lim : Int) (dif : Nat → Int) (ze : Int) (e0 : Nat) (hze : ze = (e0 : Int)) (he0 : e0 < 256) : MetI l yX3_sumWithExchange wsX3_sumWithExchange (rmF 0 0) (BPc G o b lim dif [.ref o, .int (zI ze)]) (sxZ dif e0) := by
  refine Met.ofW (cc := cX3_sumWithExchange) (maxL := 5) (ret := (some .int)) (by decide) rfl ?_
  intro p e s m args below meth c s₁ B hml hv
  obtain ⟨rfl, hW, hi, hK⟩ := hv
  have hx := B.exec
  have hb := B.bytes
  have hr := B.returns
  have hts := atoms_spec (ws := wsX3_sumWithExchange) B.pre
  have hown : s.vm.findClass RX3 = some m.cls := findClass_of_methodNamed B.named
  have hlocks := B.notSynchronized
  have hl := lv_entry ([.ref o, .int (zI ze)]) (n := 5) (Nat.le_of_ble_eq_true rfl)
  rw [lg_entry_eq]
  generalize (lg_sl ([.ref o, .int (zI ze)]) ++ List.replicate (5 - (lg_sl ([.ref o, .int (zI ze)])).length) Slot.unset).toArray = ls at hl ⊢
  have hl : lv_has ls 5 [(0, .ref o), (1, .int (zI ze))] := hl
  subst hze
  refine x_iconst hx hb dX3_sumWithExchange_0 ?_
  refine lv_istore_n (lv' := [(2, .int (zI 0)), (0, .ref o), (1, .int (zI (e0 : Int)))]) hx hb dX3_sumWithExchange_1 rfl hl (by decide) rfl (fun ls hl => ?_)
  refine x_iconst hx hb dX3_sumWithExchange_2 ?_
  refine lv_istore_n (lv' := [(3, .int (zI 0)), (2, .int (zI 0)), (0, .ref o), (1, .int (zI (e0 : Int)))]) hx hb dX3_sumWithExchange_3 rfl hl (by decide) rfl (fun ls hl => ?_)
  refine x_loop1 (fun (k : Nat) => (k ≤ 8)) (fun (k : Nat) => 8 - k) (fun (k : Nat) => [(3, .int (zI (k : Int))), (2, .int (zI (sum9 (sxT dif e0) 0 k))), (0, .ref o), (1, .int (zI (e0 : Int)))]) (0) (show ((0) ≤ 8) from (Nat.zero_le _)) (show lv_has ls 5 [(3, .int (zI ((0) : Int))), (2, .int (zI (sum9 (sxT dif e0) 0 (0)))), (0, .ref o), (1, .int (zI (e0 : Int)))] from (lv_cons (x_at (lv_at hl 0 rfl) (by omega)) (lv_cons (x_at (lv_at hl 1 rfl) (rfl)) (lv_cons (lv_at hl 2 rfl) (lv_cons (lv_at hl 3 rfl) (lv_nil hl)))))) (fun k ls hI4 hl ih4 => ?_)
  have hk : k ≤ 8 := hI4
  have hl : lv_has ls 5 [(3, .int (zI (k : Int))), (2, .int (zI (sum9 (sxT dif e0) 0 k))), (0, .ref o), (1, .int (zI (e0 : Int)))] := hl
  refine lv_iload_n hx hb dX3_sumWithExchange_4 rfl (lv_at hl 0 rfl) ?_
  refine lv_bipush (v := zI 8) hx hb dX3_sumWithExchange_5 (by decide +kernel) ?_
  refine x_icmp_ge (tgt := 56) hx hb dX3_sumWithExchange_7 (by decide) (by omega) (fun h1 => ?_) (fun h2 => ?_)
  · refine lv_iload_n hx hb dX3_sumWithExchange_56 rfl (lv_at hl 1 rfl) ?_
    exact x_retI hx hb hr (by rw [show k = 8 from by omega]; rfl) dX3_sumWithExchange_57 hlocks
  · refine lv_iload_n hx hb dX3_sumWithExchange_10 rfl (lv_at hl 3 rfl) ?_
    refine lv_iload_n hx hb dX3_sumWithExchange_11 rfl (lv_at hl 0 rfl) ?_
    refine x_ishr hx hb (by omega) (by omega) dX3_sumWithExchange_12 ?_
    refine x_iconst hx hb dX3_sumWithExchange_13 ?_
    refine x_iand1 hx hb (Nat.lt_of_le_of_lt (Nat.div_le_self _ _) (by omega)) dX3_sumWithExchange_14 ?_
    refine x_iconst hx hb dX3_sumWithExchange_15 ?_
    refine x_icmp_ne (tgt := 23) hx hb dX3_sumWithExchange_16 (by decide) (by omega) (fun h3 => ?_) (fun h4 => ?_)
    · refine x_iconst hx hb dX3_sumWithExchange_23 ?_
      refine lv_istore (lv' := [(4, .int (zI 0)), (3, .int (zI (k : Int))), (2, .int (zI (sum9 (sxT dif e0) 0 k))), (0, .ref o), (1, .int (zI (e0 : Int)))]) hx hb dX3_sumWithExchange_24 hl (by decide) rfl (fun ls hl => ?_)
      refine lv_iload_n hx hb dX3_sumWithExchange_26 rfl (lv_at hl 2 rfl) ?_
      refine lv_iload hx hb dX3_sumWithExchange_27 (lv_at hl 0 rfl) ?_
      refine x_if_eq (tgt := 42) hx hb dX3_sumWithExchange_29 (by decide) (by omega) (fun h5 => ?_) (fun h6 => ?_)
      · refine lv_aload_n hx hb dX3_sumWithExchange_42 rfl (lv_at hl 3 rfl) ?_
        refine x_get (ci := 3) (C := RX3) (T := TX3) (N := 3) (own := RX3) (index := 23) (v := .ref (o + 126)) hx hb hts (by decide +kernel) hown hK hW.jr rfl 2 (by decide) (by decide +kernel) rfl rfl dX3_sumWithExchange_43 ?_
        refine lv_iload_n hx hb dX3_sumWithExchange_46 rfl (lv_at hl 1 rfl) ?_
        refine x_iald hx hb hK hW.df (k) (by omega) (by omega) (by decide) dX3_sumWithExchange_47 ?_
        refine x_iadd hx hb dX3_sumWithExchange_48 ?_
        refine lv_istore_n (lv' := [(2, .int (zI ((sum9 (sxT dif e0) 0 k) + (dif k)))), (4, .int (zI 0)), (3, .int (zI (k : Int))), (0, .ref o), (1, .int (zI (e0 : Int)))]) hx hb dX3_sumWithExchange_49 rfl hl (by decide) rfl (fun ls hl => ?_)
        refine x_iinc (lv' := [(3, .int (zI ((k : Int) + 1))), (2, .int (zI ((sum9 (sxT dif e0) 0 k) + (dif k)))), (4, .int (zI 0)), (0, .ref o), (1, .int (zI (e0 : Int)))]) (k := 2) hx hb dX3_sumWithExchange_50 hl rfl (by decide) rfl (fun ls hl => ?_)
        refine lv_goto (tgt := 4) hx hb dX3_sumWithExchange_53 (by decide) ?_
        exact ih4 (k + 1) ls (show ((k + 1) ≤ 8) from (by omega)) (show 8 - (k + 1) < 8 - k from (by omega)) (lv_cons (x_at (lv_at hl 0 rfl) (by omega)) (lv_cons (x_at (lv_at hl 1 rfl) (by rw [sum9_s, Nat.zero_add, sxT, if_neg (by omega)])) (lv_cons (lv_at hl 3 rfl) (lv_cons (lv_at hl 4 rfl) (lv_nil hl)))))
      · exact absurd h6 (by omega)
    · refine x_iconst hx hb dX3_sumWithExchange_19 ?_
      refine lv_goto (tgt := 24) hx hb dX3_sumWithExchange_20 (by decide) ?_
      refine lv_istore (lv' := [(4, .int (zI 1)), (3, .int (zI (k : Int))), (2, .int (zI (sum9 (sxT dif e0) 0 k))), (0, .ref o), (1, .int (zI (e0 : Int)))]) hx hb dX3_sumWithExchange_24 hl (by decide) rfl (fun ls hl => ?_)
      refine lv_iload_n hx hb dX3_sumWithExchange_26 rfl (lv_at hl 2 rfl) ?_
      refine lv_iload hx hb dX3_sumWithExchange_27 (lv_at hl 0 rfl) ?_
      refine x_if_eq (tgt := 42) hx hb dX3_sumWithExchange_29 (by decide) (by omega) (fun h7 => ?_) (fun h8 => ?_)
      · exact absurd h7 (by omega)
      · refine lv_aload_n hx hb dX3_sumWithExchange_32 rfl (lv_at hl 3 rfl) ?_
        refine x_get (ci := 3) (C := RX3) (T := TX3) (N := 3) (own := RX3) (index := 23) (v := .ref (o + 126)) hx hb hts (by decide +kernel) hown hK hW.jr rfl 2 (by decide) (by decide +kernel) rfl rfl dX3_sumWithExchange_33 ?_
        refine lv_iload_n hx hb dX3_sumWithExchange_36 rfl (lv_at hl 1 rfl) ?_
        refine x_iald hx hb hK hW.df (k) (by omega) (by omega) (by decide) dX3_sumWithExchange_37 ?_
        refine x_ineg hx hb dX3_sumWithExchange_38 ?_
        refine lv_goto (tgt := 48) hx hb dX3_sumWithExchange_39 (by decide) ?_
        refine x_iadd hx hb dX3_sumWithExchange_48 ?_
        refine lv_istore_n (lv' := [(2, .int (zI ((sum9 (sxT dif e0) 0 k) + (-(dif k))))), (4, .int (zI 1)), (3, .int (zI (k : Int))), (0, .ref o), (1, .int (zI (e0 : Int)))]) hx hb dX3_sumWithExchange_49 rfl hl (by decide) rfl (fun ls hl => ?_)
        refine x_iinc (lv' := [(3, .int (zI ((k : Int) + 1))), (2, .int (zI ((sum9 (sxT dif e0) 0 k) + (-(dif k))))), (4, .int (zI 1)), (0, .ref o), (1, .int (zI (e0 : Int)))]) (k := 2) hx hb dX3_sumWithExchange_50 hl rfl (by decide) rfl (fun ls hl => ?_)
        refine lv_goto (tgt := 4) hx hb dX3_sumWithExchange_53 (by decide) ?_
        exact ih4 (k + 1) ls (show ((k + 1) ≤ 8) from (by omega)) (show 8 - (k + 1) < 8 - k from (by omega)) (lv_cons (x_at (lv_at hl 0 rfl) (by omega)) (lv_cons (x_at (lv_at hl 1 rfl) (by rw [sum9_s, Nat.zero_add, sxT, if_pos (by omega)])) (lv_cons (lv_at hl 3 rfl) (lv_cons (lv_at hl 4 rfl) (lv_nil hl)))))
/-- the difference of two systems for a question -/
def dfZ (b : XB) (y1 y2 d q : Nat) : Int := (relN b q y1 0 d : Int) - (relN b q y2 0 d : Int)
set_option maxHeartbeats 4000000 in
set_option maxRecDepth 100000 in
theorem c_X3_noteDifferences (l : Launch) (G : XG) (o : Nat) (b : XB) (lim : Int) (dif : Nat → Int) (y1 y2 : Nat) (hy1 : y1 < 4) (hy2 : y2 < 4) (z1 z2 zd : Int) (d : Nat) (hz1 : z1 = (y1 : Int)) (hz2 : z2 = (y2 : Int)) (hzd : zd = (d : Int)) (hd : d ≤ 20) : MetWV l yX3_noteDifferences wsX3_noteDifferences (rmF 4 93) (BPc G o b lim dif [.ref o, .int (zI z1), .int (zI z2), .int (zI zd)]) (fun H => ∃ df, BW G o b lim df H ∧ ∀ j, j < 8 → df j = dfZ b y1 y2 d j) (xA o) := by
  refine Met.ofW (cc := cX3_noteDifferences) (maxL := 5) (ret := none) (by decide) rfl ?_
  intro p e s m args below meth c s₁ B hml hv
  obtain ⟨rfl, hW, hi, hK⟩ := hv
  have hx := B.exec
  have hb := B.bytes
  have hr := B.returns
  have hts := atoms_spec (ws := wsX3_noteDifferences) B.pre
  have hown : s.vm.findClass RX3 = some m.cls := findClass_of_methodNamed B.named
  have hlocks := B.notSynchronized
  have hl := lv_entry ([.ref o, .int (zI z1), .int (zI z2), .int (zI zd)]) (n := 5) (Nat.le_of_ble_eq_true rfl)
  rw [lg_entry_eq]
  generalize (lg_sl ([.ref o, .int (zI z1), .int (zI z2), .int (zI zd)]) ++ List.replicate (5 - (lg_sl ([.ref o, .int (zI z1), .int (zI z2), .int (zI zd)])).length) Slot.unset).toArray = ls at hl ⊢
  have hl : lv_has ls 5 [(0, .ref o), (1, .int (zI z1)), (2, .int (zI z2)), (3, .int (zI zd))] := hl
  have hS : va_S (xA o) s.heap s.heap [] := va_S.rf
  refine x_iconst hx hb dX3_noteDifferences_0 ?_
  refine lv_istore (lv' := [(4, .int (zI 0)), (0, .ref o), (1, .int (zI z1)), (2, .int (zI z2)), (3, .int (zI zd))]) hx hb dX3_noteDifferences_1 hl (by decide) rfl (fun ls hl => ?_)
  refine x_loopH2 (fun (k : Nat) (df : Nat → Int) (H : Heap) (locs : List Loc) => (k ≤ 8) ∧ (∀ j, j < k → df j = dfZ b y1 y2 d j) ∧ (BW G o b lim df H) ∧ (va_S (xA o) s.heap H locs)) (fun (k : Nat) (df : Nat → Int) => 8 - k) (fun (k : Nat) (df : Nat → Int) => [(4, .int (zI (k : Int))), (0, .ref o), (1, .int (zI z1)), (2, .int (zI z2)), (3, .int (zI zd))]) (0) (dif) (by exact ⟨(Nat.zero_le _), (fun j hj => absurd hj (Nat.not_lt_zero _)), (hW), (hS)⟩) (show lv_has ls 5 [(4, .int (zI ((0) : Int))), (0, .ref o), (1, .int (zI z1)), (2, .int (zI z2)), (3, .int (zI zd))] from (lv_cons (x_at (lv_at hl 0 rfl) (by omega)) (lv_cons (lv_at hl 1 rfl) (lv_cons (lv_at hl 2 rfl) (lv_cons (lv_at hl 3 rfl) (lv_cons (lv_at hl 4 rfl) (lv_nil hl))))))) (fun k df H locs ls hI3 hl ih3 => ?_)
  obtain ⟨hk, hdf, hW, hS⟩ : (k ≤ 8) ∧ (∀ j, j < k → df j = dfZ b y1 y2 d j) ∧ (BW G o b lim df H) ∧ (va_S (xA o) s.heap H locs) := hI3
  have hl : lv_has ls 5 [(4, .int (zI (k : Int))), (0, .ref o), (1, .int (zI z1)), (2, .int (zI z2)), (3, .int (zI zd))] := hl
  refine lv_iload hx hb dX3_noteDifferences_3 (lv_at hl 0 rfl) ?_
  refine lv_bipush (v := zI 8) hx hb dX3_noteDifferences_5 (by decide +kernel) ?_
  refine x_icmp_ge (tgt := 40) hx hb dX3_noteDifferences_7 (by decide) (by omega) (fun h1 => ?_) (fun h2 => ?_)
  · have hW : ∃ df, BW G o b lim df _ ∧ ∀ j, j < 8 → df j = dfZ b y1 y2 d j := ⟨df, hW, fun j hj => hdf j (by omega)⟩
    exact W.vret hx hb hr (fun t ht _ => ⟨⟨(), rfl, trivial, _, ht, hW⟩, hS.F ht⟩) hS.2.2 dX3_noteDifferences_40
  · refine lv_aload_n hx hb dX3_noteDifferences_10 rfl (lv_at hl 1 rfl) ?_
    refine x_get (ci := 3) (C := RX3) (T := TX3) (N := 3) (own := RX3) (index := 23) (v := .ref (o + 126)) hx hb hts (by decide +kernel) hown hK hW.jr rfl 2 (by decide) (by decide +kernel) rfl rfl dX3_noteDifferences_11 ?_
    refine lv_iload hx hb dX3_noteDifferences_14 (lv_at hl 0 rfl) ?_
    refine lv_aload_n hx hb dX3_noteDifferences_16 rfl (lv_at hl 1 rfl) ?_
    refine lv_iload_n hx hb dX3_noteDifferences_17 rfl (lv_at hl 2 rfl) ?_
    refine lv_iload hx hb dX3_noteDifferences_18 (lv_at hl 0 rfl) ?_
    refine lv_iload_n hx hb dX3_noteDifferences_20 rfl (lv_at hl 4 rfl) ?_
    refine x_cI (va_runV (As := [.int (zI z1), .int (zI (k : Int)), .int (zI zd)]) (rest := [.int (zI (k : Int)), .ref (o + 126)]) ⟨hx, hb, hml, hown, hts⟩ (c_X3_hitsAsItStands l G o b lim df (k) (y1) (by omega) (by omega) z1 (k : Int) zd (d) (by omega) (by omega) (by omega) (by omega)) (cwV 3 hts gX3_noteDifferences_X3_hitsAsItStands rfl rfl rfl (by decide +kernel) ⟨Nat.le_of_ble_eq_true rfl, Nat.le_of_ble_eq_true rfl⟩) (x_preV hW hi hK hW.jr (ci := 3) (q := (RX3, TX3, 3)) rfl) rfl rfl hl.1 rfl (lv_room (Nat.le_of_ble_eq_true rfl)) dX3_noteDifferences_21 ⟨Nat.le_of_ble_eq_true rfl, Nat.le_of_ble_eq_true rfl⟩) ?_
    refine lv_aload_n hx hb dX3_noteDifferences_24 rfl (lv_at hl 1 rfl) ?_
    refine lv_iload_n hx hb dX3_noteDifferences_25 rfl (lv_at hl 3 rfl) ?_
    refine lv_iload hx hb dX3_noteDifferences_26 (lv_at hl 0 rfl) ?_
    refine lv_iload_n hx hb dX3_noteDifferences_28 rfl (lv_at hl 4 rfl) ?_
    refine x_cI (va_runV (As := [.int (zI z2), .int (zI (k : Int)), .int (zI zd)]) (rest := [.int (zI (relN b (k) (y1) 0 (d) : Int)), .int (zI (k : Int)), .ref (o + 126)]) ⟨hx, hb, hml, hown, hts⟩ (c_X3_hitsAsItStands l G o b lim df (k) (y2) (by omega) (by omega) z2 (k : Int) zd (d) (by omega) (by omega) (by omega) (by omega)) (cwV 3 hts gX3_noteDifferences_X3_hitsAsItStands rfl rfl rfl (by decide +kernel) ⟨Nat.le_of_ble_eq_true rfl, Nat.le_of_ble_eq_true rfl⟩) (x_preV hW hi hK hW.jr (ci := 3) (q := (RX3, TX3, 3)) rfl) rfl rfl hl.1 rfl (lv_room (Nat.le_of_ble_eq_true rfl)) dX3_noteDifferences_29 ⟨Nat.le_of_ble_eq_true rfl, Nat.le_of_ble_eq_true rfl⟩) ?_
    refine x_isub hx hb dX3_noteDifferences_32 ?_
    refine x_iast hx hb hK hW.df hS ⟨by omega, by omega⟩ (k) (by omega) (by omega) (by decide) dX3_noteDifferences_33 (fun H1 locs1 h1 hz1 hn1 hS => ?_)
    have hW := hW.putDF h1 hn1
    refine x_iinc (lv' := [(4, .int (zI ((k : Int) + 1))), (0, .ref o), (1, .int (zI z1)), (2, .int (zI z2)), (3, .int (zI zd))]) (k := 0) hx hb dX3_noteDifferences_34 hl rfl (by decide) rfl (fun ls hl => ?_)
    refine lv_goto (tgt := 3) hx hb dX3_noteDifferences_37 (by decide) ?_
    exact ih3 (k + 1) (fun j => if j = k then ((relN b k y1 0 d : Int) - (relN b k y2 0 d : Int)) else df j) _ _ ls (by exact ⟨(by omega), (fun j hj => by by_cases h : j = k; rw [if_pos h, h]; rfl; rw [if_neg h]; exact hdf j (by omega)), (hW), (hS)⟩) (show 8 - (k + 1) < 8 - k from (by omega)) (lv_cons (x_at (lv_at hl 0 rfl) (by omega)) (lv_cons (lv_at hl 1 rfl) (lv_cons (lv_at hl 2 rfl) (lv_cons (lv_at hl 3 rfl) (lv_cons (lv_at hl 4 rfl) (lv_nil hl))))))
