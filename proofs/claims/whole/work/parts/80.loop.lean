/-! ===== the law's loop ===== -/
set_option maxHeartbeats 4000000 in
set_option maxRecDepth 100000 in
theorem law_loop {p : Program} {l : Launch} {e : Env} {s : State} {m : MethodId} {below : List Frame} {meth : Method} {c : Code} {b0 L : Nat} {xs : Nat → Int32} {G : XG} (hr : meth.sig.returnType = ret) (hlocks : meth.locks = false) (C : CF p l s m c b0 L xs G) (hL : L ≤ 2560) : ∀ (n i : Nat) (b : XB) (H : Heap) (locs : List Loc) (ls : Array Slot) (cells slots : Nat), L ≤ 5 * n + i → i ≤ L + 5 → cells + 8 * n ≤ 601024 → slots + 48 * n ≤ 7293034 → LI G s.heap.size b s H locs → lv_has ls 8 [(4, .int (zI (i : Int))), (3, .ref (s.heap.size + 134)), (2, .ref (s.heap.size + 127)), (1, .ref s.heap.size), (0, .ref b0)] → W p l e room_1 s m #[Value.ref b0] below meth c H locs cells slots (lw_Z below #[Value.ref b0] s) (F0 m 23 ls []) := by
  obtain ⟨hx, hb, hml, hown, hts, hX, hbl, hK, hT, hN, hfl⟩ := id C
  have hbA : ¬ (s.heap.size ≤ b0) := by omega
  have fin : ∀ (H : Heap) (locs : List Loc) (ls : Array Slot) (cells slots : Nat), cells ≤ 601024 → slots ≤ 7293034 → va_S (fun q => s.heap.size ≤ q) s.heap H locs → W p l e room_1 s m #[Value.ref b0] below meth c H locs cells slots (lw_Z below #[Value.ref b0] s) (F0 m 1648 ls []) := by
    intro H locs ls cells slots h1 h2 hS
    refine va_forget (fun q hq => hS.2.2 q hq) ?_
    refine W.widen (k := 601024) (n := 7293034) h1 h2 ?_
    refine lv_iconst (v := 1) hx hb dL_law_1648 (by decide) ?_
    exact lw_ret hx hb hr hlocks dL_law_1649
  have head : ∀ (i : Nat) (H : Heap) (locs : List Loc) (ls : Array Slot) (cells slots : Nat), i ≤ L + 5 → cells ≤ 601024 → slots ≤ 7293034 → va_S (fun q => s.heap.size ≤ q) s.heap H locs → lv_has ls 8 [(4, .int (zI (i : Int))), (3, .ref (s.heap.size + 134)), (2, .ref (s.heap.size + 127)), (1, .ref s.heap.size), (0, .ref b0)] → (i + 5 ≤ L → W p l e room_1 s m #[Value.ref b0] below meth c H locs cells slots (lw_Z below #[Value.ref b0] s) (F0 m 32 ls [])) → W p l e room_1 s m #[Value.ref b0] below meth c H locs cells slots (lw_Z below #[Value.ref b0] s) (F0 m 23 ls []) := by
    intro i H locs ls cells slots h0 h1 h2 hS hl k2
    refine lv_iload hx hb dL_law_23 (lv_at hl 0 rfl) ?_
    refine lv_aload_n hx hb dL_law_25 rfl (lv_at hl 4 rfl) ?_
    refine va_slen hx hb hX hbl hbA hS dL_law_26 ?_
    rw [show Int32.ofNat L = zI (L : Int) from zI_nat L]
    refine x_iconst hx hb dL_law_27 ?_
    refine x_isub hx hb dL_law_28 ?_
    exact x_icmp_gt (tgt := 1648) hx hb dL_law_29 (by decide) (by omega) (fun _ => fin H locs ls cells slots h1 h2 hS) (fun h => k2 (by omega))
  intro n
  induction n with
  | zero =>
    intro i b H locs ls cells slots h1 h2 h3 h4 I hl
    exact head i H locs ls cells slots h2 (by omega) (by omega) I.2.2.2.2 hl (fun h => absurd h (by omega))
  | succ n ih =>
    intro i b H locs ls cells slots h1 h2 h3 h4 I hl
    refine head i H locs ls cells slots h2 (by omega) (by omega) I.2.2.2.2 hl (fun hi => ?_)
    have nxt : ∀ (b9 : XB) (H9 : Heap) (locs9 : List Loc) (ls9 : Array Slot) (cells9 slots9 : Nat), cells9 + 8 * n ≤ 601024 → slots9 + 48 * n ≤ 7293034 → LI G s.heap.size b9 s H9 locs9 → lv_has ls9 8 [(4, .int (zI (i : Int))), (3, .ref (s.heap.size + 134)), (2, .ref (s.heap.size + 127)), (1, .ref s.heap.size), (0, .ref b0)] → W p l e room_1 s m #[Value.ref b0] below meth c H9 locs9 cells9 slots9 (lw_Z below #[Value.ref b0] s) (F0 m 1642 ls9 []) := by
      intro b9 H9 locs9 ls9 cells9 slots9 g1 g2 hI9 hl9
      refine x_iinc (lv' := [(4, .int (zI ((i : Int) + 5))), (3, .ref (s.heap.size + 134)), (2, .ref (s.heap.size + 127)), (1, .ref s.heap.size), (0, .ref b0)]) (k := 0) hx hb dL_law_1642 hl9 rfl (by decide) rfl (fun ls hl => ?_)
      refine lv_goto (tgt := 23) hx hb dL_law_1645 (by decide) ?_
      rw [show (i : Int) + 5 = ((i + 5 : Nat) : Int) from by omega] at hl
      exact ih (i + 5) b9 H9 locs9 ls cells9 slots9 (by omega) (by omega) g1 g2 hI9 hl
    obtain ⟨z0, hz0, e0⟩ := x_num (xs i)
    refine lv_aload_n hx hb dL_law_32 rfl (lv_at hl 4 rfl) ?_
    refine lv_iload hx hb dL_law_33 (lv_at hl 0 rfl) ?_
    refine x_sld hx hb hX hbl hbA I.2.2.2.2 i rfl (by omega) hL e0 dL_law_35 ?_
    refine lv_bipush (v := zI 31) hx hb dL_law_36 (by decide +kernel) ?_
    refine lv_iand hx hb dL_law_38 ?_
    obtain ⟨v, hv, ev⟩ := x_num (zI z0 &&& zI 31)
    rw [ev]
    clear ev
    by_cases h0x : v = 0
    · subst h0x
      refine lv_tableIn (off := 97) (tgt := 136) hx hb dL_law_39 (by decide +kernel) (by decide +kernel) (by decide +kernel) (by decide) ?_
      exact cs_append C i hi hL I hl ⟨by omega, by omega⟩ (fun b9 H9 locs9 ls9 hI9 hl9 => nxt b9 H9 locs9 ls9 _ _ (by omega) (by omega) hI9 hl9)
    by_cases h1x : v = 1
    · subst h1x
      refine lv_tableIn (off := 189) (tgt := 228) hx hb dL_law_39 (by decide +kernel) (by decide +kernel) (by decide +kernel) (by decide) ?_
      exact cs_empty C i hi hL I hl ⟨by omega, by omega⟩ (fun b9 H9 locs9 ls9 hI9 hl9 => nxt b9 H9 locs9 ls9 _ _ (by omega) (by omega) hI9 hl9)
    by_cases h2x : v = 2
    · subst h2x
      refine lv_tableIn (off := 257) (tgt := 296) hx hb dL_law_39 (by decide +kernel) (by decide +kernel) (by decide +kernel) (by decide) ?_
      exact cs_length C i hi hL I hl ⟨by omega, by omega⟩ (fun b9 H9 locs9 ls9 hI9 hl9 => nxt b9 H9 locs9 ls9 _ _ (by omega) (by omega) hI9 hl9)
    by_cases h3x : v = 3
    · subst h3x
      refine lv_tableIn (off := 325) (tgt := 364) hx hb dL_law_39 (by decide +kernel) (by decide +kernel) (by decide +kernel) (by decide) ?_
      exact cs_at C i hi hL I hl ⟨by omega, by omega⟩ (fun b9 H9 locs9 ls9 hI9 hl9 => nxt b9 H9 locs9 ls9 _ _ (by omega) (by omega) hI9 hl9)
    by_cases h4x : v = 4
    · subst h4x
      refine lv_tableIn (off := 405) (tgt := 444) hx hb dL_law_39 (by decide +kernel) (by decide +kernel) (by decide +kernel) (by decide) ?_
      exact cs_judge C i hi hL I hl ⟨by omega, by omega⟩ (fun b9 H9 locs9 ls9 hI9 hl9 => nxt b9 H9 locs9 ls9 _ _ (by omega) (by omega) hI9 hl9)
    by_cases h5x : v = 5
    · subst h5x
      refine lv_tableIn (off := 485) (tgt := 524) hx hb dL_law_39 (by decide +kernel) (by decide +kernel) (by decide +kernel) (by decide) ?_
      exact cs_pool C i hi hL I hl ⟨by omega, by omega⟩ (fun b9 H9 locs9 ls9 hI9 hl9 => nxt b9 H9 locs9 ls9 _ _ (by omega) (by omega) hI9 hl9)
    by_cases h6x : v = 6
    · subst h6x
      refine lv_tableIn (off := 553) (tgt := 592) hx hb dL_law_39 (by decide +kernel) (by decide +kernel) (by decide +kernel) (by decide) ?_
      exact cs_toJudge C i hi hL I hl ⟨by omega, by omega⟩ (fun b9 H9 locs9 ls9 hI9 hl9 => nxt b9 H9 locs9 ls9 _ _ (by omega) (by omega) hI9 hl9)
    by_cases h7x : v = 7
    · subst h7x
      refine lv_tableIn (off := 621) (tgt := 660) hx hb dL_law_39 (by decide +kernel) (by decide +kernel) (by decide +kernel) (by decide) ?_
      exact cs_hits C i hi hL I hl ⟨by omega, by omega⟩ (fun b9 H9 locs9 ls9 hI9 hl9 => nxt b9 H9 locs9 ls9 _ _ (by omega) (by omega) hI9 hl9)
    by_cases h8x : v = 8
    · subst h8x
      refine lv_tableIn (off := 701) (tgt := 740) hx hb dL_law_39 (by decide +kernel) (by decide +kernel) (by decide +kernel) (by decide) ?_
      exact cs_precisionNumerator C i hi hL I hl ⟨by omega, by omega⟩ (fun b9 H9 locs9 ls9 hI9 hl9 => nxt b9 H9 locs9 ls9 _ _ (by omega) (by omega) hI9 hl9)
    by_cases h9x : v = 9
    · subst h9x
      refine lv_tableIn (off := 780) (tgt := 819) hx hb dL_law_39 (by decide +kernel) (by decide +kernel) (by decide +kernel) (by decide) ?_
      exact cs_precisionDenominator C i hi hL I hl ⟨by omega, by omega⟩ (fun b9 H9 locs9 ls9 hI9 hl9 => nxt b9 H9 locs9 ls9 _ _ (by omega) (by omega) hI9 hl9)
    by_cases h10x : v = 10
    · subst h10x
      refine lv_tableIn (off := 859) (tgt := 898) hx hb dL_law_39 (by decide +kernel) (by decide +kernel) (by decide +kernel) (by decide) ?_
      exact cs_reciprocalNumerator C i hi hL I hl ⟨by omega, by omega⟩ (fun b9 H9 locs9 ls9 hI9 hl9 => nxt b9 H9 locs9 ls9 _ _ (by omega) (by omega) hI9 hl9)
    by_cases h11x : v = 11
    · subst h11x
      refine lv_tableIn (off := 926) (tgt := 965) hx hb dL_law_39 (by decide +kernel) (by decide +kernel) (by decide +kernel) (by decide) ?_
      exact cs_reciprocalDenominator C i hi hL I hl ⟨by omega, by omega⟩ (fun b9 H9 locs9 ls9 hI9 hl9 => nxt b9 H9 locs9 ls9 _ _ (by omega) (by omega) hI9 hl9)
    by_cases h12x : v = 12
    · subst h12x
      refine lv_tableIn (off := 993) (tgt := 1032) hx hb dL_law_39 (by decide +kernel) (by decide +kernel) (by decide +kernel) (by decide) ?_
      exact cs_meanNumerator C i hi hL I hl ⟨by omega, by omega⟩ (fun b9 H9 locs9 ls9 hI9 hl9 => nxt b9 H9 locs9 ls9 _ _ (by omega) (by omega) hI9 hl9)
    by_cases h13x : v = 13
    · subst h13x
      refine lv_tableIn (off := 1060) (tgt := 1099) hx hb dL_law_39 (by decide +kernel) (by decide +kernel) (by decide +kernel) (by decide) ?_
      exact cs_meanDenominator C i hi hL I hl ⟨by omega, by omega⟩ (fun b9 H9 locs9 ls9 hI9 hl9 => nxt b9 H9 locs9 ls9 _ _ (by omega) (by omega) hI9 hl9)
    by_cases h14x : v = 14
    · subst h14x
      refine lv_tableIn (off := 1127) (tgt := 1166) hx hb dL_law_39 (by decide +kernel) (by decide +kernel) (by decide +kernel) (by decide) ?_
      exact cs_best C i hi hL I hl ⟨by omega, by omega⟩ (fun b9 H9 locs9 ls9 hI9 hl9 => nxt b9 H9 locs9 ls9 _ _ (by omega) (by omega) hI9 hl9)
    by_cases h15x : v = 15
    · subst h15x
      refine lv_tableIn (off := 1183) (tgt := 1222) hx hb dL_law_39 (by decide +kernel) (by decide +kernel) (by decide +kernel) (by decide) ?_
      exact cs_cross C i hi hL I hl ⟨by omega, by omega⟩ (fun b9 H9 locs9 ls9 hI9 hl9 => nxt b9 H9 locs9 ls9 _ _ (by omega) (by omega) hI9 hl9)
    by_cases h16x : v = 16
    · subst h16x
      refine lv_tableIn (off := 1275) (tgt := 1314) hx hb dL_law_39 (by decide +kernel) (by decide +kernel) (by decide +kernel) (by decide) ?_
      exact cs_crossed C i hi hL I hl ⟨by omega, by omega⟩ (fun b9 H9 locs9 ls9 hI9 hl9 => nxt b9 H9 locs9 ls9 _ _ (by omega) (by omega) hI9 hl9)
    by_cases h17x : v = 17
    · subst h17x
      refine lv_tableIn (off := 1331) (tgt := 1370) hx hb dL_law_39 (by decide +kernel) (by decide +kernel) (by decide +kernel) (by decide) ?_
      exact cs_click C i hi hL I hl ⟨by omega, by omega⟩ (fun b9 H9 locs9 ls9 hI9 hl9 => nxt b9 H9 locs9 ls9 _ _ (by omega) (by omega) hI9 hl9)
    by_cases h18x : v = 18
    · subst h18x
      refine lv_tableIn (off := 1387) (tgt := 1426) hx hb dL_law_39 (by decide +kernel) (by decide +kernel) (by decide +kernel) (by decide) ?_
      exact cs_credit C i hi hL I hl ⟨by omega, by omega⟩ (fun b9 H9 locs9 ls9 hI9 hl9 => nxt b9 H9 locs9 ls9 _ _ (by omega) (by omega) hI9 hl9)
    by_cases h19x : v = 19
    · subst h19x
      refine lv_tableIn (off := 1443) (tgt := 1482) hx hb dL_law_39 (by decide +kernel) (by decide +kernel) (by decide +kernel) (by decide) ?_
      exact cs_sum C i hi hL I hl ⟨by omega, by omega⟩ (fun b9 H9 locs9 ls9 hI9 hl9 => nxt b9 H9 locs9 ls9 _ _ (by omega) (by omega) hI9 hl9)
    by_cases h20x : v = 20
    · subst h20x
      refine lv_tableIn (off := 1523) (tgt := 1562) hx hb dL_law_39 (by decide +kernel) (by decide +kernel) (by decide +kernel) (by decide) ?_
      exact cs_test C i hi hL I hl ⟨by omega, by omega⟩ (fun b9 H9 locs9 ls9 hI9 hl9 => nxt b9 H9 locs9 ls9 _ _ (by omega) (by omega) hI9 hl9)
    refine lv_tableOut (tgt := 1642) hx hb dL_law_39 (by rw [zI_toInt hv]; omega) (by decide) ?_
    exact nxt b H locs ls _ _ (by omega) (by omega) I hl
