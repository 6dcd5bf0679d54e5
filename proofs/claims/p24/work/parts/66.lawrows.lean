/-! ===== the rows of the law ===== -/
theorem x_ofWH {l : Launch} {y : MethodName} {ws ws' : List Cond} {rm : Room} {Pc : Array Value → State → Prop} {Qc : Array Value → State → Outcome → State → Prop} {mc ms : Nat} {free : Addr → Prop} {cc : ByteArray} {maxL : Nat} {ret : Option FieldType} {hh : List (Nat × Nat × Nat × Nat)}
    (hy : plainName y.cls = true) (hw : ws = Cond.codeWith y cc maxL ret hh :: ws')
    (body : ∀ p e s m args below meth c s₁, BodyLoose p l y (headSpec ws rm) cc maxL ret e s m args below meth c s₁ → c.maxLocals = maxL → Pc args s →
      W p l e (headSpec ws rm).room s m args below meth c s.heap [] 0 0 (MQ below Qc args s mc ms free) (entryFrame m args maxL)) : Met l y ws rm Pc Qc mc ms free := by
  refine MetFree.of_bodyS (code := cc) (maxLocals := maxL) (ret := ret) hy ?_ ?_
  · intro args s m h hn
    obtain ⟨m9, meth, c, hn9, h1, h2, h3, h4, -, h5, h6, -⟩ := Cond.codeWith_spec (atoms_spec (ws := ws) h _ (by rw [hw]; exact List.mem_cons_self))
    cases hn.symm.trans hn9
    exact ⟨meth, c, h1, h2, h3, h4, h5, h6⟩
  · intro p e s m args below meth c s₁ B hml hP _
    have hh0 : s₁.heap = s.heap := by rw [B.state]; rfl
    obtain ⟨t, a1, o, b1, b2, b3⟩ := body p e s m args below meth c s₁ B hml hP s₁ hh0 (Stand.of_body B)
    exact ⟨t, o, a1, b1, b2, b3⟩
/-- a public method, at arguments at which it does not throw -/
theorem x_ntI {l : Launch} {y : MethodName} {ws : List Cond} {rm : Room} {Pc : Array Value → State → Prop} {kz z : Int} {Pw : Heap → Prop} {A : Nat → Prop} (h : MetPI l y ws rm Pc kz z Pw A) (hk : kz = 0) : Met l y ws rm Pc (va_Qi (fun r (_ : Unit) => r = zI z) (hpw Pw) A) 8 48 A :=
  MetFree.mono h (fun _ _ h => h) (fun _ _ _ _ _ h => h) (fun a s o t _ hq => by
    rcases hq with ⟨⟨⟨r, u, h1, ⟨_, h2⟩, h3⟩, h4⟩, h5⟩ | ⟨q, h1, E, ce, L, ⟨u, _, hx, _⟩, _⟩
    · exact ⟨⟨⟨r, u, h1, h2, h3⟩, h4⟩, h5⟩
    · rcases hx with ⟨_, h⟩ | ⟨_, h⟩ <;> omega)
theorem x_ntL {l : Launch} {y : MethodName} {ws : List Cond} {rm : Room} {Pc : Array Value → State → Prop} {kz z : Int} {Pw : Heap → Prop} {A : Nat → Prop} (h : MetPL l y ws rm Pc kz z Pw A) (hk : kz = 0) : Met l y ws rm Pc (va_Ql (fun r (_ : Unit) => r = lI z) (hpw Pw) A) 8 48 A :=
  MetFree.mono h (fun _ _ h => h) (fun _ _ _ _ _ h => h) (fun a s o t _ hq => by
    rcases hq with ⟨⟨⟨r, u, h1, ⟨_, h2⟩, h3⟩, h4⟩, h5⟩ | ⟨q, h1, E, ce, L, ⟨u, _, hx, _⟩, _⟩
    · exact ⟨⟨⟨r, u, h1, h2, h3⟩, h4⟩, h5⟩
    · rcases hx with ⟨_, h⟩ | ⟨_, h⟩ <;> omega)
/-- a start of the law's: the JudgedRuns at o, in the state b -/
abbrev LPc (G : XG) (o lo : Nat) (b : XB) (av : List Value) : Array Value → State → Prop := va_Pc av (fun U => BX G o b U.heap ∧ bInv b ∧ XK G U ∧ XT lo U)
theorem x_blindL {G : XG} {o lo : Nat} {b : XB} {av : List Value} : FrameBlind (LPc G o lo b av) := fun a U g mk h => ⟨h.1, h.2.1, h.2.2.1, h.2.2.2.1.warm (U := U.calling g mk a) (State.WarmedH.refl U), h.2.2.2.2.call⟩
theorem x_preLV {G : XG} {o lo : Nat} {b : XB} {s : State} {H : Heap} {As : List Value} {A : Nat → Prop} {locs : List Loc} (hX : BX G o b H) (hi : bInv b) (hK : XK G s) (hT : XT lo s) (hS : va_S A s.heap H locs) (hA : ∀ q, A q → lo ≤ q) : PreV s H RX3 o (LPc G o lo b (.ref o :: As)) As := by
  obtain ⟨lim, dif, hW⟩ := id hX
  exact ⟨x_blindL, va_recv hK.1 (x_one hW.jr) (rfl : vwCl[3]? = some (RX3, TX3, 3)) (q0 := 0) rfl, fun U hU hW' => ⟨rfl, by rw [hU]; exact hX, hi, hK.warm hW', hT.to hS hA hW' hU⟩⟩
theorem x_preLS {G : XG} {o lo : Nat} {b : XB} {s : State} {H : Heap} {As : List Value} {A : Nat → Prop} {locs : List Loc} (hX : BX G o b H) (hi : bInv b) (hK : XK G s) (hT : XT lo s) (hS : va_S A s.heap H locs) (hA : ∀ q, A q → lo ≤ q) : PreS s H (LPc G o lo b As) As :=
  ⟨x_blindL, fun U hU hW' => ⟨rfl, by rw [hU]; exact hX, hi, hK.warm hW', hT.to hS hA hW' hU⟩⟩
theorem x_lp {l : Launch} {y : MethodName} {ws : List Cond} {rm : Room} {G : XG} {o lo : Nat} {b : XB} {av : List Value} {Qc : Array Value → State → Outcome → State → Prop} {mc ms : Nat} {free : Addr → Prop} (h : ∀ (lim : Int) (dif : Nat → Int), Met l y ws rm (TPc G o lo b lim dif av) Qc mc ms free) : Met l y ws rm (LPc G o lo b av) Qc mc ms free := by
  intro p e ha hc hk s m args below hf happ hp hK
  obtain ⟨h1, ⟨lim, dif, h2⟩, h3, h4, h5⟩ := hp
  exact h lim dif p e ha hc hk s m args below hf happ ⟨h1, h2, h3, h4, h5⟩ hK
abbrev rmL (f n mc ms : Nat) : Room := { frames := f, cells := mc, slots := ms, locals := n }
/-- a method that the law calls: an int that is known, the state behind it -/
abbrev MetLI (l : Launch) (y : MethodName) (ws : List Cond) (f n mc ms : Nat) (G : XG) (o lo : Nat) (b : XB) (av : List Value) (z : Int) (b2 : XB) : Prop := Met l y ws (rmL f n mc ms) (LPc G o lo b av) (va_Qi (fun r (_ : Unit) => r = zI z) (hpw (BX G o b2)) (xA o)) mc ms (xA o)
abbrev MetLL (l : Launch) (y : MethodName) (ws : List Cond) (f n mc ms : Nat) (G : XG) (o lo : Nat) (b : XB) (av : List Value) (z : Int) (b2 : XB) : Prop := Met l y ws (rmL f n mc ms) (LPc G o lo b av) (va_Ql (fun r (_ : Unit) => r = lI z) (hpw (BX G o b2)) (xA o)) mc ms (xA o)
def pnN (b : XB) (q y d : Nat) : Nat := redN (mhZ b q y (d : Int)).toNat (232792560 * (d : Int)).toNat
def pdN (b : XB) (q y d : Nat) : Nat := redN (232792560 * (d : Int)).toNat (mhZ b q y (d : Int)).toNat
def rnN (b : XB) (q y : Nat) : Nat := redN (rpZ b q y).toNat (rwZ b q y).toNat
def rdN (b : XB) (q y : Nat) : Nat := redN (rwZ b q y).toNat (rpZ b q y).toNat
def mnN (b : XB) (y d : Nat) : Nat := redN (shP b y (d : Int)).toNat (swZ b y (d : Int)).toNat
def mdN (b : XB) (y d : Nat) : Nat := redN (swZ b y (d : Int)).toNat (shP b y (d : Int)).toNat
theorem pn_part {b : XB} (hi : bInv b) (q y : Nat) {d : Nat} (hd : 1 ≤ d ∧ d ≤ 20) : pnN b q y d ≤ pdN b q y d ∧ 0 < pdN b q y d ∧ Nat.gcd (pnN b q y d) (pdN b q y d) = 1 ∧ pdN b q y d ≤ 4655851200 := by
  have a := mh_le hi q y (de := (d : Int)) (by omega)
  have h0 : 0 < (232792560 * (d : Int)).toNat := by omega
  have h1 := red_b (232792560 * (d : Int)).toNat (mhZ b q y (d : Int)).toNat
  exact ⟨red_le (by omega), red_pos h0, red_g h0, Nat.le_trans h1 (by omega)⟩
theorem frac20 {n dd h P : Nat} (hP : 0 < P) (x : n * (P * 20) = (P * h) * dd) : n * 20 = h * dd := by
  have e : (n * 20) * P = (h * dd) * P := by rw [Nat.mul_assoc, Nat.mul_comm 20 P, x, Nat.mul_comm P h, Nat.mul_right_comm]
  exact Nat.eq_of_mul_eq_mul_right hP e
theorem pn_20 {b : XB} (hi : bInv b) (q y : Nat) : (pnN b q y 20 : Int) * 20 = (relN b q y 0 20 : Int) * (pdN b q y 20 : Int) := by
  have e : mhZ b q y ((20 : Nat) : Int) = 232792560 * (relN b q y 0 20 : Int) := mh_20 hi q y
  have e1 : (mhZ b q y ((20 : Nat) : Int)).toNat = 232792560 * relN b q y 0 20 := by rw [e]; omega
  have e2 : (232792560 * ((20 : Nat) : Int)).toNat = 232792560 * 20 := by omega
  have n1 : pnN b q y 20 = redN (232792560 * relN b q y 0 20) (232792560 * 20) := by rw [pnN, e1, e2]
  have n2 : pdN b q y 20 = redN (232792560 * 20) (232792560 * relN b q y 0 20) := by rw [pdN, e1, e2]
  rw [n1, n2]
  generalize relN b q y 0 20 = h
  have x := frac20 (P := 232792560) (by omega) (red_x (a := 232792560 * h) (b := 232792560 * 20) (by omega))
  have x2 := congrArg (fun k : Nat => (k : Int)) x
  simp only [Int.natCast_mul] at x2
  exact x2
theorem rn_part {b : XB} (hi : bInv b) (q y : Nat) : rnN b q y ≤ rdN b q y ∧ 0 < rdN b q y ∧ Nat.gcd (rnN b q y) (rdN b q y) = 1 ∧ rdN b q y ≤ 43009822215360 := by
  have a := rp_le hi q y
  have c := rwZ_bd hi q y
  have h0 : 0 < (rwZ b q y).toNat := by omega
  have h1 := red_b (rwZ b q y).toNat (rpZ b q y).toNat
  exact ⟨red_le (by omega), red_pos h0, red_g h0, Nat.le_trans h1 (by omega)⟩
theorem red_nz {a c : Nat} (hc : 0 < c) : 0 < redN a c ↔ 0 < a := by
  refine ⟨fun h => Nat.lt_of_lt_of_le h (red_b a c), fun h => red_pos h⟩
theorem rn_pos {b : XB} (hi : bInv b) (q y : Nat) : 0 < rnN b q y ↔ 0 < relN b q y 0 20 := by
  have a := rp_le hi q y
  have c := rwZ_bd hi q y
  have e := red_nz (a := (rpZ b q y).toNat) (c := (rwZ b q y).toNat) (by omega)
  have e2 := rp_rel hi q y
  unfold rnN
  rw [e, ← e2]
  omega
theorem mn_part {b : XB} (hi : bInv b) (y : Nat) {d : Nat} (hd : 1 ≤ d ∧ d ≤ 20) : mnN b y d ≤ mdN b y d ∧ 0 < mdN b y d ∧ Nat.gcd (mnN b y d) (mdN b y d) = 1 ∧ mdN b y d ≤ 37246809600 := by
  have a := sh_sw hi y (de := (d : Int)) (by omega)
  have c := swZ_bd (b := b) (y := y) (de := (d : Int)) (by omega)
  have h0 : 0 < (swZ b y (d : Int)).toNat := by omega
  have h1 := red_b (swZ b y (d : Int)).toNat (shP b y (d : Int)).toNat
  exact ⟨red_le (by omega), red_pos h0, red_g h0, Nat.le_trans h1 (by omega)⟩
theorem mn_cmp {b : XB} (hi : bInv b) {d : Nat} (hd : 1 ≤ d ∧ d ≤ 20) {y : Nat} (hy : y < 4) : 100000000 * (mnN b y d : Int) / (mdN b y d : Int) ≤ 100000000 * (mnN b (bestN b (d : Int)) d : Int) / (mdN b (bestN b (d : Int)) d : Int) := by
  have a := sh_sw hi y (de := (d : Int)) (by omega)
  have a2 := sh_sw hi (bestN b (d : Int)) (de := (d : Int)) (by omega)
  have c := swZ_bd (b := b) (y := y) (de := (d : Int)) (by omega)
  have c2 := swZ_bd (b := b) (y := bestN b (d : Int)) (de := (d : Int)) (by omega)
  have x := best_x hi (de := (d : Int)) (by omega) hy
  have x2 : (shP b y (d : Int)).toNat * (swZ b (bestN b (d : Int)) (d : Int)).toNat ≤ (shP b (bestN b (d : Int)) (d : Int)).toNat * (swZ b y (d : Int)).toNat := by
    apply Int.ofNat_le.mp
    rw [Int.natCast_mul, Int.natCast_mul, Int.toNat_of_nonneg a.1, Int.toNat_of_nonneg a2.1, Int.toNat_of_nonneg (by omega), Int.toNat_of_nonneg (by omega)]
    exact x
  have r := red_cmp (by omega) (by omega) x2
  have p1 := (mn_part hi y hd).2.1
  have p2 := (mn_part hi (bestN b (d : Int)) hd).2.1
  have k := div_x p1 p2 r 100000000
  have k2 := Int.ofNat_le.mpr k
  rw [Int.natCast_ediv, Int.natCast_ediv, Int.natCast_mul, Int.natCast_mul] at k2
  exact k2
theorem r_length (l : Launch) (hfl : l.stackTraces = false) (G : XG) (o lo : Nat) (hlo : lo ≤ o) (b : XB) (y : Nat) (hy : y < 4) (q : Nat) (hq : q < 8) (zs : Int) (zq : Int) (ey : zs = (y : Int)) (eq : zq = (q : Int)) : MetLI l yX3_length wsX3_length 7 102 8 48 G o lo b [.ref o, .int (zI zs), .int (zI zq)] ((bN b q y : Int)) (b) := by
  subst ey
  subst eq
  exact x_lp (fun lim dif => x_ntI (c_X3_length l hfl G o lo hlo b lim dif (y : Int) (by omega) (q : Int) (by omega)) (kR_t (by omega) rfl))
theorem r_at (l : Launch) (hfl : l.stackTraces = false) (G : XG) (o lo : Nat) (hlo : lo ≤ o) (b : XB) (y : Nat) (hy : y < 4) (q : Nat) (hq : q < 8) (d : Nat) (hd : 1 ≤ d ∧ d ≤ 20) (zs : Int) (zq : Int) (zd : Int) (ey : zs = (y : Int)) (eq : zq = (q : Int)) (ed : zd = (d : Int)) : MetLI l yX3_at wsX3_at 7 102 8 48 G o lo b [.ref o, .int (zI zs), .int (zI zq), .int (zI zd)] (dAt b q y (d : Int)) (b) := by
  subst ey
  subst eq
  subst ed
  exact x_lp (fun lim dif => x_ntI (c_X3_at l hfl G o lo hlo b lim dif (y : Int) (by omega) (q : Int) (by omega) (d : Int) (by omega)) (kR_t (by omega) rfl))
theorem r_hits (l : Launch) (hfl : l.stackTraces = false) (G : XG) (o lo : Nat) (hlo : lo ≤ o) (b : XB) (y : Nat) (hy : y < 4) (q : Nat) (hq : q < 8) (d : Nat) (hd : 1 ≤ d ∧ d ≤ 20) (zs : Int) (zq : Int) (zd : Int) (ey : zs = (y : Int)) (eq : zq = (q : Int)) (ed : zd = (d : Int)) : MetLI l yX3_hits wsX3_hits 7 102 8 48 G o lo b [.ref o, .int (zI zs), .int (zI zq), .int (zI zd)] ((relN b q y 0 d : Int)) (b) := by
  subst ey
  subst eq
  subst ed
  exact x_lp (fun lim dif => x_ntI (c_X3_hits l hfl G o lo hlo b lim dif (y : Int) (by omega) (q : Int) (by omega) (d : Int) (by omega)) (kR_t (by omega) rfl))
theorem r_precisionNumerator (l : Launch) (hfl : l.stackTraces = false) (G : XG) (o lo : Nat) (hlo : lo ≤ o) (b : XB) (y : Nat) (hy : y < 4) (q : Nat) (hq : q < 8) (d : Nat) (hd : 1 ≤ d ∧ d ≤ 20) (zs : Int) (zq : Int) (zd : Int) (ey : zs = (y : Int)) (eq : zq = (q : Int)) (ed : zd = (d : Int)) : MetLL l yX3_precisionNumerator wsX3_precisionNumerator 7 102 8 48 G o lo b [.ref o, .int (zI zs), .int (zI zq), .int (zI zd)] ((pnN b q y d : Int)) (b) := by
  subst ey
  subst eq
  subst ed
  exact x_lp (fun lim dif => x_ntL (c_X3_precisionNumerator l hfl G o lo hlo b lim dif (y : Int) (by omega) (q : Int) (by omega) (d : Int) (by omega)) (kR_t (by omega) rfl))
theorem r_precisionDenominator (l : Launch) (hfl : l.stackTraces = false) (G : XG) (o lo : Nat) (hlo : lo ≤ o) (b : XB) (y : Nat) (hy : y < 4) (q : Nat) (hq : q < 8) (d : Nat) (hd : 1 ≤ d ∧ d ≤ 20) (zs : Int) (zq : Int) (zd : Int) (ey : zs = (y : Int)) (eq : zq = (q : Int)) (ed : zd = (d : Int)) : MetLL l yX3_precisionDenominator wsX3_precisionDenominator 7 102 8 48 G o lo b [.ref o, .int (zI zs), .int (zI zq), .int (zI zd)] ((pdN b q y d : Int)) (b) := by
  subst ey
  subst eq
  subst ed
  exact x_lp (fun lim dif => x_ntL (c_X3_precisionDenominator l hfl G o lo hlo b lim dif (y : Int) (by omega) (q : Int) (by omega) (d : Int) (by omega)) (kR_t (by omega) rfl))
theorem r_reciprocalNumerator (l : Launch) (hfl : l.stackTraces = false) (G : XG) (o lo : Nat) (hlo : lo ≤ o) (b : XB) (y : Nat) (hy : y < 4) (q : Nat) (hq : q < 8) (zs : Int) (zq : Int) (ey : zs = (y : Int)) (eq : zq = (q : Int)) : MetLL l yX3_reciprocalNumerator wsX3_reciprocalNumerator 7 102 8 48 G o lo b [.ref o, .int (zI zs), .int (zI zq)] ((rnN b q y : Int)) (b) := by
  subst ey
  subst eq
  exact x_lp (fun lim dif => x_ntL (c_X3_reciprocalNumerator l hfl G o lo hlo b lim dif (y : Int) (by omega) (q : Int) (by omega)) (kR_t (by omega) rfl))
theorem r_reciprocalDenominator (l : Launch) (hfl : l.stackTraces = false) (G : XG) (o lo : Nat) (hlo : lo ≤ o) (b : XB) (y : Nat) (hy : y < 4) (q : Nat) (hq : q < 8) (zs : Int) (zq : Int) (ey : zs = (y : Int)) (eq : zq = (q : Int)) : MetLL l yX3_reciprocalDenominator wsX3_reciprocalDenominator 7 102 8 48 G o lo b [.ref o, .int (zI zs), .int (zI zq)] ((rdN b q y : Int)) (b) := by
  subst ey
  subst eq
  exact x_lp (fun lim dif => x_ntL (c_X3_reciprocalDenominator l hfl G o lo hlo b lim dif (y : Int) (by omega) (q : Int) (by omega)) (kR_t (by omega) rfl))
theorem r_meanNumerator (l : Launch) (hfl : l.stackTraces = false) (G : XG) (o lo : Nat) (hlo : lo ≤ o) (b : XB) (y : Nat) (hy : y < 4) (d : Nat) (hd : 1 ≤ d ∧ d ≤ 20) (zs : Int) (zd : Int) (ey : zs = (y : Int)) (ed : zd = (d : Int)) : MetLL l yX3_meanNumerator wsX3_meanNumerator 7 102 8 48 G o lo b [.ref o, .int (zI zs), .int (zI zd)] ((mnN b y d : Int)) (b) := by
  subst ey
  subst ed
  exact x_lp (fun lim dif => x_ntL (c_X3_meanNumerator l hfl G o lo hlo b lim dif (y : Int) (by omega) (d : Int) (by omega)) (kR_t (by omega) rfl))
theorem r_meanDenominator (l : Launch) (hfl : l.stackTraces = false) (G : XG) (o lo : Nat) (hlo : lo ≤ o) (b : XB) (y : Nat) (hy : y < 4) (d : Nat) (hd : 1 ≤ d ∧ d ≤ 20) (zs : Int) (zd : Int) (ey : zs = (y : Int)) (ed : zd = (d : Int)) : MetLL l yX3_meanDenominator wsX3_meanDenominator 7 102 8 48 G o lo b [.ref o, .int (zI zs), .int (zI zd)] ((mdN b y d : Int)) (b) := by
  subst ey
  subst ed
  exact x_lp (fun lim dif => x_ntL (c_X3_meanDenominator l hfl G o lo hlo b lim dif (y : Int) (by omega) (d : Int) (by omega)) (kR_t (by omega) rfl))
theorem r_pool (l : Launch) (hfl : l.stackTraces = false) (G : XG) (o lo : Nat) (hlo : lo ≤ o) (b : XB) (q : Nat) (hq : q < 8) (d : Nat) (hd : 1 ≤ d ∧ d ≤ 20) (zq : Int) (zd : Int) (eq : zq = (q : Int)) (ed : zd = (d : Int)) : MetLI l yX3_pool wsX3_pool 7 102 8 48 G o lo b [.ref o, .int (zI zq), .int (zI zd)] ((poolN b q (d : Int) : Int)) (b) := by
  subst eq
  subst ed
  exact x_lp (fun lim dif => x_ntI (c_X3_pool l hfl G o lo hlo b lim dif (q : Int) (by omega) (d : Int) (by omega)) (kR_t (by omega) rfl))
theorem r_toJudge (l : Launch) (hfl : l.stackTraces = false) (G : XG) (o lo : Nat) (hlo : lo ≤ o) (b : XB) (q : Nat) (hq : q < 8) (d : Nat) (hd : 1 ≤ d ∧ d ≤ 20) (zq : Int) (zd : Int) (eq : zq = (q : Int)) (ed : zd = (d : Int)) : MetLI l yX3_toJudge wsX3_toJudge 7 102 8 48 G o lo b [.ref o, .int (zI zq), .int (zI zd)] (fuZ b q (d : Int)) (b) := by
  subst eq
  subst ed
  exact x_lp (fun lim dif => x_ntI (c_X3_toJudge l hfl G o lo hlo b lim dif (q : Int) (by omega) (d : Int) (by omega)) (kR_t (by omega) rfl))
theorem r_best (l : Launch) (hfl : l.stackTraces = false) (G : XG) (o lo : Nat) (hlo : lo ≤ o) (b : XB) (d : Nat) (hd : 1 ≤ d ∧ d ≤ 20) (zd : Int) (ed : zd = (d : Int)) : MetLI l yX3_best wsX3_best 7 102 8 48 G o lo b [.ref o, .int (zI zd)] ((bestN b (d : Int) : Int)) (b) := by
  subst ed
  exact x_lp (fun lim dif => x_ntI (c_X3_best l hfl G o lo hlo b lim dif (d : Int) (by omega)) (kR_t (by omega) rfl))
theorem r_credit (l : Launch) (hfl : l.stackTraces = false) (G : XG) (o lo : Nat) (hlo : lo ≤ o) (b : XB) (y : Nat) (hy : y < 4) (zs : Int) (ey : zs = (y : Int)) : MetLI l yX3_credit wsX3_credit 7 102 8 48 G o lo b [.ref o, .int (zI zs)] ((cfN b (y : Int) : Int)) (b) := by
  subst ey
  exact x_lp (fun lim dif => x_ntI (c_X3_credit l hfl G o lo hlo b lim dif (y : Int) (by omega)) (kR_t (by omega) rfl))
theorem r_empty (l : Launch) (hfl : l.stackTraces = false) (G : XG) (o lo : Nat) (hlo : lo ≤ o) (b : XB) (y : Nat) (hy : y < 4) (q : Nat) (hq : q < 8) (zs : Int) (zq : Int) (ey : zs = (y : Int)) (eq : zq = (q : Int)) : MetLI l yX3_empty wsX3_empty 7 102 8 48 G o lo b [.ref o, .int (zI zs), .int (zI zq)] ((bN b q y : Int)) (uN b q y 0) := by
  subst ey
  subst eq
  exact x_lp (fun lim dif => x_ntI (c_X3_empty l hfl G o lo hlo b lim dif (y : Int) (by omega) (q : Int) (by omega)) (kR_t (by omega) rfl))
theorem r_judge (l : Launch) (hfl : l.stackTraces = false) (G : XG) (o lo : Nat) (hlo : lo ≤ o) (b : XB) (q : Nat) (hq : q < 8) (c : Nat) (hc : c < 40) (j : Nat) (hj : j ≤ 2) (zq : Int) (zc : Int) (zj : Int) (eq : zq = (q : Int)) (ec : zc = (c : Int)) (ej : zj = (j : Int)) : MetLI l yX3_judge wsX3_judge 7 102 8 48 G o lo b [.ref o, .int (zI zq), .int (zI zc), .int (zI zj)] ((bJ b q c : Int)) (uJ b q c j) := by
  subst eq
  subst ec
  subst ej
  exact x_lp (fun lim dif => x_ntI (c_X3_judge l hfl G o lo hlo b lim dif (q : Int) (by omega) (c : Int) (by omega) (j : Int) (by omega)) (kR_t (by omega) rfl))
theorem r_sum (l : Launch) (hfl : l.stackTraces = false) (G : XG) (o lo : Nat) (hlo : lo ≤ o) (b : XB) (y : Nat) (hy : y < 4) (y2 : Nat) (hy2 : y2 < 4) (d : Nat) (hd : 1 ≤ d ∧ d ≤ 20) (zs : Int) (zt : Int) (zd : Int) (ey : zs = (y : Int)) (ey2 : zt = (y2 : Int)) (ed : zd = (d : Int)) : MetLI l yX3_sum wsX3_sum 7 117 8 48 G o lo b [.ref o, .int (zI zs), .int (zI zt), .int (zI zd)] (sxZ (dfZ b y y2 d) 0) (b) := by
  subst ey
  subst ey2
  subst ed
  exact x_lp (fun lim dif => x_ntI (c_X3_sum l hfl G o lo hlo b lim dif (y : Int) (by omega) (y2 : Int) (by omega) (d : Int) (by omega)) (kR_t (by omega) rfl))
theorem r_test (l : Launch) (hfl : l.stackTraces = false) (G : XG) (o lo : Nat) (hlo : lo ≤ o) (b : XB) (y : Nat) (hy : y < 4) (y2 : Nat) (hy2 : y2 < 4) (d : Nat) (hd : 1 ≤ d ∧ d ≤ 20) (zs : Int) (zt : Int) (zd : Int) (ey : zs = (y : Int)) (ey2 : zt = (y2 : Int)) (ed : zd = (d : Int)) : MetLI l yX3_test wsX3_test 7 117 8 48 G o lo b [.ref o, .int (zI zs), .int (zI zt), .int (zI zd)] ((tsN (dfZ b y y2 d) : Int)) (b) := by
  subst ey
  subst ey2
  subst ed
  exact x_lp (fun lim dif => x_ntI (c_X3_test l hfl G o lo hlo b lim dif (y : Int) (by omega) (y2 : Int) (by omega) (d : Int) (by omega)) (kR_t (by omega) rfl))
theorem r_cross (l : Launch) (hfl : l.stackTraces = false) (G : XG) (o lo : Nat) (hlo : lo ≤ o) (b : XB) (y : Nat) (hy : y < 4) (y2 : Nat) (hy2 : y2 < 4) (q : Nat) (hq : q < 8) (d : Nat) (hd : 1 ≤ d ∧ d ≤ 20) (hne : ¬ y = y2) (zs : Int) (zt : Int) (zq : Int) (zd : Int) (ey : zs = (y : Int)) (ey2 : zt = (y2 : Int)) (eq : zq = (q : Int)) (ed : zd = (d : Int)) : MetLI l yX3_cross wsX3_cross 7 102 8 48 G o lo b [.ref o, .int (zI zs), .int (zI zt), .int (zI zq), .int (zI zd)] ((bL (crB b q y y2 (d : Int)) : Int)) (crB b q y y2 (d : Int)) := by
  subst ey
  subst ey2
  subst eq
  subst ed
  exact x_lp (fun lim dif => x_ntI (c_X3_cross l hfl G o lo hlo b lim dif (y : Int) (by omega) (y2 : Int) (by omega) (q : Int) (by omega) (d : Int) (by omega)) (kR_t (by omega) rfl))
