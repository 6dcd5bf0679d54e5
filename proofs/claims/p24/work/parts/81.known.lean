/-! ===== the law, from its entry ===== -/
theorem nest_on : ∀ w ∈ xk_nest, w.onTables = true := by decide +kernel
theorem nest_in : ∀ w ∈ xk_nest, w ∈ lw_tbl := by decide +kernel
theorem bad_on : ∀ w ∈ xt_bad, w.onTables = true := by decide +kernel
theorem bad_in : ∀ w ∈ xt_bad, w ∈ lw_tbl := by decide +kernel
theorem str_in : ∀ w ∈ xt_strs, Cond.stringRef RX3 w.1 w.2 ∈ lw_tbl := by decide +kernel
set_option maxHeartbeats 4000000 in
set_option maxRecDepth 100000 in
theorem law_known {p : Program} {l : Launch} {s : State} {m : MethodId} {meth : Method} {c : Code} (hflags : l.flags = flags0) {b L : Nat} {xs : Nat → Int32} (C0 : lw_At p s m meth c b L xs) : ∃ G : XG, CF p l s m c b L xs G ∧ va_AO RX1 s ∧ va_AO RX2 s := by
  obtain ⟨hx, hb, hr, hml, hown, hts, hX, hbl, hlocks, hgv⟩ := id C0
  have hg := flat_of_before _ hgv
  obtain ⟨c0, i0, hKn0⟩ := u_known (C := RX0) (T := TX0) (N := 5) (n := 5) hts inX0 (hts (.instantiable RX0 5) (by decide +kernel))
  obtain ⟨c1, i1, hKn1⟩ := u_known (C := RX1) (T := TX1) (N := 2) (n := 2) hts inX1 (hts (.instantiable RX1 2) (by decide +kernel))
  obtain ⟨c2, i2, hKn2⟩ := u_known (C := RX2) (T := TX2) (N := 3) (n := 3) hts inX2 (hts (.instantiable RX2 3) (by decide +kernel))
  obtain ⟨c3, i3, hKn3⟩ := u_known (C := RX3) (T := TX3) (N := 3) (n := 3) hts inX3 (hts (.instantiable RX3 3) (by decide +kernel))
  obtain ⟨dC, dI, hKc⟩ : ∃ (dC : Nat → ClassId) (dI : Nat → Nat → Nat), ∀ (k : Nat) (q : vw_C), vwCl[k]? = some q → u_Kn s q.1 q.2.1 q.2.2 (dC k) (dI k) := by
    refine ⟨fun k => if k = 0 then c0 else if k = 1 then c1 else if k = 2 then c2 else c3, fun k => if k = 0 then i0 else if k = 1 then i1 else if k = 2 then i2 else i3, ?_⟩
    intro k q hq
    match k, hq with
    | 0, hq => cases hq; exact hKn0
    | 1, hq => cases hq; exact hKn1
    | 2, hq => cases hq; exact hKn2
    | 3, hq => cases hq; exact hKn3
    | k + 4, hq => simp [vwCl] at hq
  have hO1 := hts (.arrayOver (.object RX1)) (by decide +kernel)
  have hO2 := hts (.arrayOver (.object RX2)) (by decide +kernel)
  obtain ⟨cI, kI, mI, hI1, hI2, hI3⟩ := Cond.arrayClass_spec (hts (.arrayClass .int) (by decide +kernel))
  obtain ⟨cZ, kZ, mZ, hZ1, hZ2, hZ3⟩ := Cond.arrayClass_spec (hts (.arrayClass .boolean) (by decide +kernel))
  obtain ⟨mQ, cQ, kQ, q1, q2, q3, q4, q5⟩ := Cond.arrayOver_spec hO1
  obtain ⟨mR, cR, kR9, r1, r2, r3, r4, r5⟩ := Cond.arrayOver_spec hO2
  have hKt : ∀ (k : Nat) (q : ClassId × FieldType), ([(cI, .int), (cZ, .boolean), (cQ, .object RX1), (cR, .object RX2)] : List (ClassId × FieldType))[k]? = some q → ArrOfT s q.1 q.2 ∧ va_RA s q.1 q.2 := by
    intro k q hq
    match k, hq with
    | 0, hq => cases hq; exact ⟨fun n z => ⟨(fun k h => by cases h), kI, hI2, mI, hI3⟩, hI1⟩
    | 1, hq => cases hq; exact ⟨fun n z => ⟨(fun k h => by cases h), kZ, hZ2, mZ, hZ3⟩, hZ1⟩
    | 2, hq => cases hq; exact ⟨fun n z => ⟨(fun k h => by cases h), kQ, q3, mQ, q4⟩, ⟨kQ, mQ, q3, q4, q1, q5⟩⟩
    | 3, hq => cases hq; exact ⟨fun n z => ⟨(fun k h => by cases h), kR9, r3, mR, r4⟩, ⟨kR9, mR, r3, r4, r1, r5⟩⟩
    | k + 4, hq => simp at hq
  have hK : XK ((dC, dI), cI, cZ, cQ, cR, cI) s := ⟨⟨hKc, hKt⟩, fun w hw => va_Nw.of (nest_on w hw) (hts w (nest_in w hw))⟩
  have hT : XT s.heap.size s := by
    refine ⟨vx_Zqof (hts (.laysStatic Bundle.tN "UNASSIGNED_STACK" Bundle.steD) (by decide +kernel)) (hts (.initialized Bundle.tN) (by decide +kernel)) (hg (.isRef (.static Bundle.tN "UNASSIGNED_STACK" Bundle.steD)) (by decide +kernel)) (fun a h1 h2 => absurd h1 (Nat.not_lt.mpr h2)), vx_Zqof (hts (.laysStatic Bundle.tN "SUPPRESSED_SENTINEL" Bundle.listD) (by decide +kernel)) (hts (.initialized Bundle.tN) (by decide +kernel)) (hg (.isRef (.static Bundle.tN "SUPPRESSED_SENTINEL" Bundle.listD)) (by decide +kernel)) (fun a h1 h2 => absurd h1 (Nat.not_lt.mpr h2)), fun w hw => ?_, fun w hw => va_Nw.of (bad_on w hw) (hts w (bad_in w hw))⟩
    have h1 := hts _ (str_in w hw)
    obtain ⟨k, cf, i, a, -, -, -, -, -, h6⟩ := Cond.stringRef_spec hKn3.2.1 h1
    exact ⟨a, vk_R.of h1 h6⟩
  have hfl : l.stackTraces = false := by
    show (!l.flags.contains noTraceFlag) = false
    rw [hflags]
    decide +kernel
  exact ⟨_, ⟨hx, hb, hml, hown, fun w h => hts w (wsL_law_in w h), hX, hbl, hK, hT, hfl⟩, va_AO.of hO1, va_AO.of hO2⟩
