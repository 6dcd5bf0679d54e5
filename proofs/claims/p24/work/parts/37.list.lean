/-- is a document in the crossed list? -/
def hldB (b : XB) (d : Int) : Bool := (List.range (bL b)).any (fun k => decide ((bLD b k : Int) = d))
theorem hld_t {b : XB} {d : Int} {k : Nat} (hk : k < bL b) (h : (bLD b k : Int) = d) : hldB b d = true := List.any_eq_true.mpr ⟨k, List.mem_range.mpr hk, decide_eq_true h⟩
theorem hld_f {b : XB} {d : Int} (h : ∀ k, k < bL b → ¬ ((bLD b k : Int) = d)) : ¬ hldB b d = true := fun x => by
  obtain ⟨y, hy, h2⟩ := List.any_eq_true.mp x
  exact h y (List.mem_range.mp hy) (of_decide_eq_true h2)
set_option maxHeartbeats 4000000 in
set_option maxRecDepth 100000 in
theorem c_X0_holds (l : Launch) (G : XG) (o : Nat) (b : XB) (lim : Int) (dif : Nat → Int) (d : Int) (hd : -2147483648 ≤ d ∧ d < 2147483648) : MetI l yX0_holds wsX0_holds (rmF 0 0) (BPc G o b lim dif [.ref (o + 122), .int (zI d)]) (bI (hldB b d = true)) := by
  refine Met.ofW (cc := cX0_holds) (maxL := 3) (ret := (some .boolean)) (by decide) rfl ?_
  intro p e s m args below meth c s₁ B hml hv
  obtain ⟨rfl, hW, hi, hK⟩ := hv
  have hx := B.exec
  have hb := B.bytes
  have hr := B.returns
  have hts := atoms_spec (ws := wsX0_holds) B.pre
  have hown : s.vm.findClass RX0 = some m.cls := findClass_of_methodNamed B.named
  have hlocks := B.notSynchronized
  have hl := lv_entry ([.ref (o + 122), .int (zI d)]) (n := 3) (Nat.le_of_ble_eq_true rfl)
  rw [lg_entry_eq]
  generalize (lg_sl ([.ref (o + 122), .int (zI d)]) ++ List.replicate (3 - (lg_sl ([.ref (o + 122), .int (zI d)])).length) Slot.unset).toArray = ls at hl ⊢
  have hl : lv_has ls 3 [(0, .ref (o + 122)), (1, .int (zI d))] := hl
  have hll := hi.l
  refine x_iconst hx hb dX0_holds_0 ?_
  refine lv_istore_n (lv' := [(2, .int (zI 0)), (0, .ref (o + 122)), (1, .int (zI d))]) hx hb dX0_holds_1 rfl hl (by decide) rfl (fun ls hl => ?_)
  refine x_loop1 (fun (k : Nat) => (k ≤ bL b) ∧ (∀ j, j < k → ¬ ((bLD b j : Int) = d))) (fun (k : Nat) => bL b - k) (fun (k : Nat) => [(2, .int (zI (k : Int))), (0, .ref (o + 122)), (1, .int (zI d))]) (0) (show ((0) ≤ bL b) ∧ (∀ j, j < (0) → ¬ ((bLD b j : Int) = d)) from ⟨(Nat.zero_le _), (fun j hj => absurd hj (Nat.not_lt_zero _))⟩) (show lv_has ls 3 [(2, .int (zI ((0) : Int))), (0, .ref (o + 122)), (1, .int (zI d))] from (lv_cons (x_at (lv_at hl 0 rfl) (by omega)) (lv_cons (lv_at hl 1 rfl) (lv_cons (lv_at hl 2 rfl) (lv_nil hl))))) (fun k ls hI2 hl ih2 => ?_)
  obtain ⟨hk, hm⟩ : (k ≤ bL b) ∧ (∀ j, j < k → ¬ ((bLD b j : Int) = d)) := hI2
  have hl : lv_has ls 3 [(2, .int (zI (k : Int))), (0, .ref (o + 122)), (1, .int (zI d))] := hl
  refine lv_iload_n hx hb dX0_holds_2 rfl (lv_at hl 0 rfl) ?_
  refine lv_aload_n hx hb dX0_holds_3 rfl (lv_at hl 1 rfl) ?_
  refine x_get (ci := 0) (C := RX0) (T := TX0) (N := 5) (own := RX0) (index := 32) (v := .int (zI (bL b : Int))) hx hb hts (by decide +kernel) hown hK hW.cl rfl 4 (by decide) (by decide +kernel) rfl rfl dX0_holds_4 ?_
  refine x_icmp_ge (tgt := 28) hx hb dX0_holds_7 (by decide) (by omega) (fun h1 => ?_) (fun h2 => ?_)
  · refine x_iconst hx hb dX0_holds_28 ?_
    exact x_retB hx hb hr (⟨(bI_f (hld_f (fun j hj => hm j (by omega)))).symm, by omega, by omega⟩) dX0_holds_29 hlocks
  · refine lv_aload_n hx hb dX0_holds_10 rfl (lv_at hl 1 rfl) ?_
    refine x_get (ci := 0) (C := RX0) (T := TX0) (N := 5) (own := RX0) (index := 9) (v := .ref (o + 123)) hx hb hts (by decide +kernel) hown hK hW.cl rfl 0 (by decide) (by decide +kernel) rfl rfl dX0_holds_11 ?_
    refine lv_iload_n hx hb dX0_holds_14 rfl (lv_at hl 0 rfl) ?_
    refine x_iald hx hb hK hW.ld (k) (by omega) (by omega) (by decide) dX0_holds_15 ?_
    have hv3 := hi.ld (k)
    refine lv_iload_n hx hb dX0_holds_16 rfl (lv_at hl 2 rfl) ?_
    refine x_icmp_ne (tgt := 22) hx hb dX0_holds_17 (by decide) (by omega) (fun h4 => ?_) (fun h5 => ?_)
    · refine x_iinc (lv' := [(2, .int (zI ((k : Int) + 1))), (0, .ref (o + 122)), (1, .int (zI d))]) (k := 0) hx hb dX0_holds_22 hl rfl (by decide) rfl (fun ls hl => ?_)
      refine lv_goto (tgt := 2) hx hb dX0_holds_25 (by decide) ?_
      exact ih2 (k + 1) ls (show ((k + 1) ≤ bL b) ∧ (∀ j, j < (k + 1) → ¬ ((bLD b j : Int) = d)) from ⟨(by omega), (lt_s hm (by omega))⟩) (show bL b - (k + 1) < bL b - k from (by omega)) (lv_cons (x_at (lv_at hl 0 rfl) (by omega)) (lv_cons (lv_at hl 1 rfl) (lv_cons (lv_at hl 2 rfl) (lv_nil hl))))
    · refine x_iconst hx hb dX0_holds_20 ?_
      exact x_retB hx hb hr (⟨(bI_t (hld_t (k := k) (by omega) (by omega))).symm, by omega, by omega⟩) dX0_holds_21 hlocks
/-- how many clicks are credited to a system -/
def cfP (b : XB) (z : Int) (k : Nat) : Bool := decide (¬ bLC b k = 0) && decide ((bLG b k : Int) = z)
def cfN (b : XB) (z : Int) : Nat := cnt9 (cfP b z) 0 (bL b)
theorem cf_t {b : XB} {z : Int} {k : Nat} (h : ¬ bLC b k = 0) (h2 : (bLG b k : Int) = z) : cnt9 (cfP b z) 0 (k + 1) = cnt9 (cfP b z) 0 k + 1 := cnt9_t (by rw [Nat.zero_add, cfP, decide_eq_true h, decide_eq_true h2]; rfl)
theorem cf_f {b : XB} {z : Int} {k : Nat} (h : bLC b k = 0 ∨ ¬ ((bLG b k : Int) = z)) : cnt9 (cfP b z) 0 (k + 1) = cnt9 (cfP b z) 0 k := cnt9_f (by
  rw [Nat.zero_add, cfP, Bool.and_eq_true, decide_eq_true_eq, decide_eq_true_eq]
  rintro ⟨a, c⟩
  rcases h with h | h
  · exact a h
  · exact h c)
set_option maxHeartbeats 4000000 in
set_option maxRecDepth 100000 in
theorem c_X0_clicksFor (l : Launch) (G : XG) (o : Nat) (b : XB) (lim : Int) (dif : Nat → Int) (z : Int) (hz : -2147483648 ≤ z ∧ z < 2147483648) : MetI l yX0_clicksFor wsX0_clicksFor (rmF 0 0) (BPc G o b lim dif [.ref (o + 122), .int (zI z)]) (cfN b z : Int) := by
  refine Met.ofW (cc := cX0_clicksFor) (maxL := 4) (ret := (some .int)) (by decide) rfl ?_
  intro p e s m args below meth c s₁ B hml hv
  obtain ⟨rfl, hW, hi, hK⟩ := hv
  have hx := B.exec
  have hb := B.bytes
  have hr := B.returns
  have hts := atoms_spec (ws := wsX0_clicksFor) B.pre
  have hown : s.vm.findClass RX0 = some m.cls := findClass_of_methodNamed B.named
  have hlocks := B.notSynchronized
  have hl := lv_entry ([.ref (o + 122), .int (zI z)]) (n := 4) (Nat.le_of_ble_eq_true rfl)
  rw [lg_entry_eq]
  generalize (lg_sl ([.ref (o + 122), .int (zI z)]) ++ List.replicate (4 - (lg_sl ([.ref (o + 122), .int (zI z)])).length) Slot.unset).toArray = ls at hl ⊢
  have hl : lv_has ls 4 [(0, .ref (o + 122)), (1, .int (zI z))] := hl
  have hll := hi.l
  refine x_iconst hx hb dX0_clicksFor_0 ?_
  refine lv_istore_n (lv' := [(2, .int (zI 0)), (0, .ref (o + 122)), (1, .int (zI z))]) hx hb dX0_clicksFor_1 rfl hl (by decide) rfl (fun ls hl => ?_)
  refine x_iconst hx hb dX0_clicksFor_2 ?_
  refine lv_istore_n (lv' := [(3, .int (zI 0)), (2, .int (zI 0)), (0, .ref (o + 122)), (1, .int (zI z))]) hx hb dX0_clicksFor_3 rfl hl (by decide) rfl (fun ls hl => ?_)
  refine x_loop1 (fun (k : Nat) => (k ≤ bL b) ∧ (cnt9 (cfP b z) 0 k ≤ k)) (fun (k : Nat) => bL b - k) (fun (k : Nat) => [(2, .int (zI (cnt9 (cfP b z) 0 k : Int))), (3, .int (zI (k : Int))), (0, .ref (o + 122)), (1, .int (zI z))]) (0) (show ((0) ≤ bL b) ∧ (cnt9 (cfP b z) 0 (0) ≤ (0)) from ⟨(Nat.zero_le _), (cnt9_le _ _ _)⟩) (show lv_has ls 4 [(2, .int (zI (cnt9 (cfP b z) 0 (0) : Int))), (3, .int (zI ((0) : Int))), (0, .ref (o + 122)), (1, .int (zI z))] from (lv_cons (x_at (lv_at hl 1 rfl) (rfl)) (lv_cons (x_at (lv_at hl 0 rfl) (by omega)) (lv_cons (lv_at hl 2 rfl) (lv_cons (lv_at hl 3 rfl) (lv_nil hl)))))) (fun k ls hI4 hl ih4 => ?_)
  obtain ⟨hk, hc⟩ : (k ≤ bL b) ∧ (cnt9 (cfP b z) 0 k ≤ k) := hI4
  have hl : lv_has ls 4 [(2, .int (zI (cnt9 (cfP b z) 0 k : Int))), (3, .int (zI (k : Int))), (0, .ref (o + 122)), (1, .int (zI z))] := hl
  refine lv_iload_n hx hb dX0_clicksFor_4 rfl (lv_at hl 1 rfl) ?_
  refine lv_aload_n hx hb dX0_clicksFor_5 rfl (lv_at hl 2 rfl) ?_
  refine x_get (ci := 0) (C := RX0) (T := TX0) (N := 5) (own := RX0) (index := 32) (v := .int (zI (bL b : Int))) hx hb hts (by decide +kernel) hown hK hW.cl rfl 4 (by decide) (by decide +kernel) rfl rfl dX0_clicksFor_6 ?_
  refine x_icmp_ge (tgt := 40) hx hb dX0_clicksFor_9 (by decide) (by omega) (fun h1 => ?_) (fun h2 => ?_)
  · refine lv_iload_n hx hb dX0_clicksFor_40 rfl (lv_at hl 0 rfl) ?_
    exact x_retI hx hb hr (by rw [show k = bL b from by omega]; rfl) dX0_clicksFor_41 hlocks
  · refine lv_aload_n hx hb dX0_clicksFor_12 rfl (lv_at hl 2 rfl) ?_
    refine x_get (ci := 0) (C := RX0) (T := TX0) (N := 5) (own := RX0) (index := 18) (v := .ref (o + 125)) hx hb hts (by decide +kernel) hown hK hW.cl rfl 2 (by decide) (by decide +kernel) rfl rfl dX0_clicksFor_13 ?_
    refine lv_iload_n hx hb dX0_clicksFor_16 rfl (lv_at hl 1 rfl) ?_
    refine x_zald hx hb hK hW.lc (k) (by omega) (by omega) (by decide) dX0_clicksFor_17 ?_
    have hv3 := hi.lc (k)
    refine x_if_eq (tgt := 34) hx hb dX0_clicksFor_18 (by decide) (by omega) (fun h4 => ?_) (fun h5 => ?_)
    · refine x_iinc (lv' := [(3, .int (zI ((k : Int) + 1))), (2, .int (zI (cnt9 (cfP b z) 0 k : Int))), (0, .ref (o + 122)), (1, .int (zI z))]) (k := 1) hx hb dX0_clicksFor_34 hl rfl (by decide) rfl (fun ls hl => ?_)
      refine lv_goto (tgt := 4) hx hb dX0_clicksFor_37 (by decide) ?_
      exact ih4 (k + 1) ls (show ((k + 1) ≤ bL b) ∧ (cnt9 (cfP b z) 0 (k + 1) ≤ (k + 1)) from ⟨(by omega), (cnt9_le _ _ _)⟩) (show bL b - (k + 1) < bL b - k from (by omega)) (lv_cons (x_at (lv_at hl 1 rfl) (by rw [cf_f (by omega)])) (lv_cons (x_at (lv_at hl 0 rfl) (by omega)) (lv_cons (lv_at hl 2 rfl) (lv_cons (lv_at hl 3 rfl) (lv_nil hl)))))
    · refine lv_aload_n hx hb dX0_clicksFor_21 rfl (lv_at hl 2 rfl) ?_
      refine x_get (ci := 0) (C := RX0) (T := TX0) (N := 5) (own := RX0) (index := 15) (v := .ref (o + 124)) hx hb hts (by decide +kernel) hown hK hW.cl rfl 1 (by decide) (by decide +kernel) rfl rfl dX0_clicksFor_22 ?_
      refine lv_iload_n hx hb dX0_clicksFor_25 rfl (lv_at hl 1 rfl) ?_
      refine x_iald hx hb hK hW.lg (k) (by omega) (by omega) (by decide) dX0_clicksFor_26 ?_
      have hv6 := hi.lg (k)
      refine lv_iload_n hx hb dX0_clicksFor_27 rfl (lv_at hl 3 rfl) ?_
      refine x_icmp_ne (tgt := 34) hx hb dX0_clicksFor_28 (by decide) (by omega) (fun h7 => ?_) (fun h8 => ?_)
      · refine x_iinc (lv' := [(3, .int (zI ((k : Int) + 1))), (2, .int (zI (cnt9 (cfP b z) 0 k : Int))), (0, .ref (o + 122)), (1, .int (zI z))]) (k := 1) hx hb dX0_clicksFor_34 hl rfl (by decide) rfl (fun ls hl => ?_)
        refine lv_goto (tgt := 4) hx hb dX0_clicksFor_37 (by decide) ?_
        exact ih4 (k + 1) ls (show ((k + 1) ≤ bL b) ∧ (cnt9 (cfP b z) 0 (k + 1) ≤ (k + 1)) from ⟨(by omega), (cnt9_le _ _ _)⟩) (show bL b - (k + 1) < bL b - k from (by omega)) (lv_cons (x_at (lv_at hl 1 rfl) (by rw [cf_f (by omega)])) (lv_cons (x_at (lv_at hl 0 rfl) (by omega)) (lv_cons (lv_at hl 2 rfl) (lv_cons (lv_at hl 3 rfl) (lv_nil hl)))))
      · refine x_iinc (lv' := [(2, .int (zI ((cnt9 (cfP b z) 0 k : Int) + 1))), (3, .int (zI (k : Int))), (0, .ref (o + 122)), (1, .int (zI z))]) (k := 0) hx hb dX0_clicksFor_31 hl rfl (by decide) rfl (fun ls hl => ?_)
        refine x_iinc (lv' := [(3, .int (zI ((k : Int) + 1))), (2, .int (zI ((cnt9 (cfP b z) 0 k : Int) + 1))), (0, .ref (o + 122)), (1, .int (zI z))]) (k := 1) hx hb dX0_clicksFor_34 hl rfl (by decide) rfl (fun ls hl => ?_)
        refine lv_goto (tgt := 4) hx hb dX0_clicksFor_37 (by decide) ?_
        exact ih4 (k + 1) ls (show ((k + 1) ≤ bL b) ∧ (cnt9 (cfP b z) 0 (k + 1) ≤ (k + 1)) from ⟨(by omega), (cnt9_le _ _ _)⟩) (show bL b - (k + 1) < bL b - k from (by omega)) (lv_cons (x_at (lv_at hl 1 rfl) (by rw [cf_t (by omega) (by omega)]; rfl)) (lv_cons (x_at (lv_at hl 0 rfl) (by omega)) (lv_cons (lv_at hl 2 rfl) (lv_cons (lv_at hl 3 rfl) (lv_nil hl)))))
set_option maxHeartbeats 4000000 in
set_option maxRecDepth 100000 in
theorem c_X0_restart (l : Launch) (G : XG) (o : Nat) (b : XB) (lim : Int) (dif : Nat → Int) (z : Int) (hz : 1 ≤ z ∧ z ≤ 20) : MetWV l yX0_restart wsX0_restart (rmF 1 21) (BPc G o b lim dif [.ref (o + 122), .int (zI z)]) (fun H => BW G o (uL b 0) z dif H) (xA o) := by
  refine Met.ofW (cc := cX0_restart) (maxL := 2) (ret := none) (by decide) rfl ?_
  intro p e s m args below meth c s₁ B hml hv
  obtain ⟨rfl, hW, hi, hK⟩ := hv
  have hx := B.exec
  have hb := B.bytes
  have hr := B.returns
  have hts := atoms_spec (ws := wsX0_restart) B.pre
  have hown : s.vm.findClass RX0 = some m.cls := findClass_of_methodNamed B.named
  have hlocks := B.notSynchronized
  have hl := lv_entry ([.ref (o + 122), .int (zI z)]) (n := 2) (Nat.le_of_ble_eq_true rfl)
  rw [lg_entry_eq]
  generalize (lg_sl ([.ref (o + 122), .int (zI z)]) ++ List.replicate (2 - (lg_sl ([.ref (o + 122), .int (zI z)])).length) Slot.unset).toArray = ls at hl ⊢
  have hl : lv_has ls 2 [(0, .ref (o + 122)), (1, .int (zI z))] := hl
  have hS : va_S (xA o) s.heap s.heap [] := va_S.rf
  refine lv_aload_n hx hb dX0_restart_0 rfl (lv_at hl 0 rfl) ?_
  refine lv_iload_n hx hb dX0_restart_1 rfl (lv_at hl 1 rfl) ?_
  refine lv_bipush (v := zI 20) hx hb dX0_restart_2 (by decide +kernel) ?_
  refine x_min (index := 22) (rest := [.ref (o + 122)]) hx hb hml hl hown hts (by decide +kernel) (Nat.le_of_ble_eq_true rfl) (by omega) (Nat.le_of_ble_eq_true rfl) ⟨Nat.le_of_ble_eq_true rfl, Nat.le_of_ble_eq_true rfl⟩ dX0_restart_4 ?_
  refine x_put (ci := 0) (C := RX0) (T := TX0) (N := 5) (own := RX0) (index := 28) hx hb hts (by decide +kernel) tyX0 tyX0_ok nmX0 hown hK hW.cl hS ⟨by omega, by omega⟩ rfl 3 (by decide) (by decide +kernel) rfl rfl rfl rfl (Nat.le_of_ble_eq_true rfl) dX0_restart_7 (fun H1 locs1 h1 hz1 hn1 hS => ?_)
  have hW := hW.putCL (v := bL b) rfl h1 hn1
  refine lv_aload_n hx hb dX0_restart_10 rfl (lv_at hl 0 rfl) ?_
  refine x_iconst hx hb dX0_restart_11 ?_
  refine x_put (ci := 0) (C := RX0) (T := TX0) (N := 5) (own := RX0) (index := 32) hx hb hts (by decide +kernel) tyX0 tyX0_ok nmX0 hown hK hW.cl hS ⟨by omega, by omega⟩ rfl 4 (by decide) (by decide +kernel) rfl rfl rfl rfl (Nat.le_of_ble_eq_true rfl) dX0_restart_12 (fun H1 locs1 h1 hz1 hn1 hS => ?_)
  have hW := hW.putCL (v := 0) (show 0 = ((0 : Nat) : Int) from by omega) h1 hn1
  have hW : BW G o (uL b 0) (min z 20) dif _ := hW
  rw [show min z 20 = z from by omega] at hW
  exact W.vret hx hb hr (fun t ht _ => ⟨⟨(), rfl, trivial, _, ht, hW⟩, hS.F ht⟩) hS.2.2 dX0_restart_15
/-- a place of a run whose document isn't in the list -/
def tkP (b : XB) (q y k : Nat) : Bool := !hldB b (bD b q y k : Int)
def tkF (b : XB) (q y : Nat) : Nat := fst9 (tkP b q y) 0 (bN b q y)
/-- a document comes to the list's end -/
def bAdd (b : XB) (d g : Nat) : XB := uL (uLC (uLG (uLD b (bL b) d) (bL b) g) (bL b) 0) (bL b + 1)
/-- a system's turn -/
def tkB (b : XB) (lim : Int) (q y g : Nat) : XB := if (bL b : Int) < lim ∧ tkF b q y < bN b q y then bAdd b (bD b q y (tkF b q y)) g else b
theorem tk_full {b : XB} {lim : Int} {q y g : Nat} (h : lim ≤ (bL b : Int)) : tkB b lim q y g = b := if_neg (fun x => by omega)
theorem tk_none {b : XB} {lim : Int} {q y g : Nat} (h : ∀ k, k < bN b q y → tkP b q y k = false) : tkB b lim q y g = b := by
  have := fst9_uniq (P := tkP b q y) (i := 0) (f := bN b q y) (k := bN b q y) (Nat.zero_le _) (fun j _ hj => h j hj) (Or.inl (Nat.zero_add _).symm)
  exact if_neg (fun x => by have := x.2; unfold tkF at this; omega)
theorem tk_at {b : XB} {lim : Int} {q y g k : Nat} (hl : (bL b : Int) < lim) (hk : k < bN b q y) (h : ∀ j, j < k → tkP b q y j = false) (he : tkP b q y k = true) : tkB b lim q y g = bAdd b (bD b q y k) g := by
  have e : tkF b q y = k := fst9_uniq (P := tkP b q y) (i := 0) (f := bN b q y) (k := k) (Nat.zero_le _) (fun j _ hj => h j hj) (Or.inr ⟨by omega, he⟩)
  rw [tkB, e, if_pos ⟨hl, hk⟩]
theorem bAdd_inv {b : XB} (hi : bInv b) {d g : Nat} (hl : bL b < 20) (hd : d < 40) (hg : g < 4) : bInv (bAdd b d g) := uL_inv (uLC_inv (uLG_inv (uLD_inv hi hd) hg) (by omega)) (by omega)
theorem tkB_inv {b : XB} (hi : bInv b) {lim : Int} (hlim : lim ≤ 20) {q y g : Nat} (hg : g < 4) : bInv (tkB b lim q y g) := by
  unfold tkB
  split
  · exact bAdd_inv hi (by omega) (hi.d q y _) hg
  · exact hi
set_option maxHeartbeats 4000000 in
set_option maxRecDepth 100000 in
theorem c_X0_takeFrom (l : Launch) (G : XG) (o : Nat) (b : XB) (lim : Int) (dif : Nat → Int) (q y : Nat) (hq : q < 8) (hy : y < 4) (zg : Int) (g : Nat) (hzg : zg = (g : Int)) (hg : g < 4) (hlim : 1 ≤ lim ∧ lim ≤ 20) : MetWV l yX0_takeFrom wsX0_takeFrom (rmF 1 22) (BPc G o b lim dif [.ref (o + 122), .ref (o + 2 + 15 * q + 2 + 3 * y), .int (zI zg)]) (fun H => BW G o (tkB b lim q y g) lim dif H) (xA o) := by
  refine Met.ofW (cc := cX0_takeFrom) (maxL := 5) (ret := none) (by decide) rfl ?_
  intro p e s m args below meth c s₁ B hml hv
  obtain ⟨rfl, hW, hi, hK⟩ := hv
  have hx := B.exec
  have hb := B.bytes
  have hr := B.returns
  have hts := atoms_spec (ws := wsX0_takeFrom) B.pre
  have hown : s.vm.findClass RX0 = some m.cls := findClass_of_methodNamed B.named
  have hlocks := B.notSynchronized
  have hl := lv_entry ([.ref (o + 122), .ref (o + 2 + 15 * q + 2 + 3 * y), .int (zI zg)]) (n := 5) (Nat.le_of_ble_eq_true rfl)
  rw [lg_entry_eq]
  generalize (lg_sl ([.ref (o + 122), .ref (o + 2 + 15 * q + 2 + 3 * y), .int (zI zg)]) ++ List.replicate (5 - (lg_sl ([.ref (o + 122), .ref (o + 2 + 15 * q + 2 + 3 * y), .int (zI zg)])).length) Slot.unset).toArray = ls at hl ⊢
  have hl : lv_has ls 5 [(0, .ref (o + 122)), (1, .ref (o + 2 + 15 * q + 2 + 3 * y)), (2, .int (zI zg))] := hl
  have hS : va_S (xA o) s.heap s.heap [] := va_S.rf
  have hn20 := hi.n q y
  have hll := hi.l
  refine x_iconst hx hb dX0_takeFrom_0 ?_
  refine lv_istore_n (lv' := [(3, .int (zI 1)), (0, .ref (o + 122)), (1, .ref (o + 2 + 15 * q + 2 + 3 * y)), (2, .int (zI zg))]) hx hb dX0_takeFrom_1 rfl hl (by decide) rfl (fun ls hl => ?_)
  refine x_loop1 (fun (k : Nat) => (k ≤ bN b q y) ∧ (∀ j, j < k → tkP b q y j = false)) (fun (k : Nat) => bN b q y - k) (fun (k : Nat) => [(3, .int (zI ((k : Int) + 1))), (0, .ref (o + 122)), (1, .ref (o + 2 + 15 * q + 2 + 3 * y)), (2, .int (zI zg))]) (0) (show ((0) ≤ bN b q y) ∧ (∀ j, j < (0) → tkP b q y j = false) from ⟨(Nat.zero_le _), (fun j hj => absurd hj (Nat.not_lt_zero _))⟩) (show lv_has ls 5 [(3, .int (zI (((0) : Int) + 1))), (0, .ref (o + 122)), (1, .ref (o + 2 + 15 * q + 2 + 3 * y)), (2, .int (zI zg))] from (lv_cons (x_at (lv_at hl 0 rfl) (by omega)) (lv_cons (lv_at hl 1 rfl) (lv_cons (lv_at hl 2 rfl) (lv_cons (lv_at hl 3 rfl) (lv_nil hl)))))) (fun k ls hI2 hl ih2 => ?_)
  obtain ⟨hk, hm⟩ : (k ≤ bN b q y) ∧ (∀ j, j < k → tkP b q y j = false) := hI2
  have hl : lv_has ls 5 [(3, .int (zI ((k : Int) + 1))), (0, .ref (o + 122)), (1, .ref (o + 2 + 15 * q + 2 + 3 * y)), (2, .int (zI zg))] := hl
  refine lv_iload_n hx hb dX0_takeFrom_2 rfl (lv_at hl 0 rfl) ?_
  refine lv_aload_n hx hb dX0_takeFrom_3 rfl (lv_at hl 2 rfl) ?_
  refine x_getN (ci := 2) (C := RX2) (T := TX2) (N := 3) (own := RX0) (index := 35) (v := .int (zI (bN b q y : Int))) hx hb hts (by decide +kernel) hown hK (hW.r (q := q) (s := y) (by omega) (by omega)) rfl 2 (by decide) nk_RX0_35 rfl rfl dX0_takeFrom_4 ?_
  refine x_icmp_gt (tgt := 85) hx hb dX0_takeFrom_7 (by decide) (by omega) (fun h1 => ?_) (fun h2 => ?_)
  · have e9 : tkB b lim q y g = b := by first | exact tk_full (by omega) | exact tk_none (fun j hj => hm j (by omega))
    rw [e9]
    exact W.vret hx hb hr (fun t ht _ => ⟨⟨(), rfl, trivial, _, ht, hW⟩, hS.F ht⟩) hS.2.2 dX0_takeFrom_85
  · refine lv_aload_n hx hb dX0_takeFrom_10 rfl (lv_at hl 1 rfl) ?_
    refine x_get (ci := 0) (C := RX0) (T := TX0) (N := 5) (own := RX0) (index := 32) (v := .int (zI (bL b : Int))) hx hb hts (by decide +kernel) hown hK hW.cl rfl 4 (by decide) (by decide +kernel) rfl rfl dX0_takeFrom_11 ?_
    refine lv_aload_n hx hb dX0_takeFrom_14 rfl (lv_at hl 1 rfl) ?_
    refine x_get (ci := 0) (C := RX0) (T := TX0) (N := 5) (own := RX0) (index := 28) (v := .int (zI lim)) hx hb hts (by decide +kernel) hown hK hW.cl rfl 3 (by decide) (by decide +kernel) rfl rfl dX0_takeFrom_15 ?_
    refine x_icmp_ge (tgt := 85) hx hb dX0_takeFrom_18 (by decide) (by omega) (fun h3 => ?_) (fun h4 => ?_)
    · have e9 : tkB b lim q y g = b := by first | exact tk_full (by omega) | exact tk_none (fun j hj => hm j (by omega))
      rw [e9]
      exact W.vret hx hb hr (fun t ht _ => ⟨⟨(), rfl, trivial, _, ht, hW⟩, hS.F ht⟩) hS.2.2 dX0_takeFrom_85
    · refine lv_aload_n hx hb dX0_takeFrom_21 rfl (lv_at hl 2 rfl) ?_
      refine lv_iload_n hx hb dX0_takeFrom_22 rfl (lv_at hl 0 rfl) ?_
      refine x_cI (va_runVN (As := [.int (zI ((k : Int) + 1))]) (rest := []) ⟨hx, hb, hml, hown, hts⟩ (c_X2_documentAt l G o b lim dif q y (by omega) (by omega) ((k : Int) + 1) (by omega)) ⟨va_cnB 1 hts gX0_takeFrom_X2_documentAt_n38 rfl rfl rfl (x_nestM hK nk_RX0_38) (hts (.initialized RX2) (by decide +kernel)) (by decide +kernel) ⟨Nat.le_of_ble_eq_true rfl, Nat.le_of_ble_eq_true rfl⟩, hts (.instanceMethod yX2_documentAt) (by decide +kernel), hts (.selects RX2 yX2_documentAt yX2_documentAt) (by decide +kernel)⟩ (x_preV hW hi hK (hW.r (q := q) (s := y) (by omega) (by omega)) (ci := 2) (q := (RX2, TX2, 3)) rfl) rfl rfl hl.1 rfl (lv_room (Nat.le_of_ble_eq_true rfl)) dX0_takeFrom_23 ⟨Nat.le_of_ble_eq_true rfl, Nat.le_of_ble_eq_true rfl⟩) ?_
      have hdk := dAt_k b q y k (by omega)
      rw [hdk]
      have hd4 := hi.d q y k
      refine lv_istore (lv' := [(4, .int (zI (bD b q y k : Int))), (3, .int (zI ((k : Int) + 1))), (0, .ref (o + 122)), (1, .ref (o + 2 + 15 * q + 2 + 3 * y)), (2, .int (zI zg))]) hx hb dX0_takeFrom_26 hl (by decide) rfl (fun ls hl => ?_)
      refine lv_aload_n hx hb dX0_takeFrom_28 rfl (lv_at hl 2 rfl) ?_
      refine lv_iload hx hb dX0_takeFrom_29 (lv_at hl 0 rfl) ?_
      refine x_cI (va_runV (As := [.int (zI (bD b q y k : Int))]) (rest := []) ⟨hx, hb, hml, hown, hts⟩ (c_X0_holds l G o b lim dif (bD b q y k : Int) (by omega)) (cwV 1 hts gX0_takeFrom_X0_holds rfl rfl rfl (by decide +kernel) ⟨Nat.le_of_ble_eq_true rfl, Nat.le_of_ble_eq_true rfl⟩) (x_preV hW hi hK hW.cl (ci := 0) (q := (RX0, TX0, 5)) rfl) rfl rfl hl.1 rfl (lv_room (Nat.le_of_ble_eq_true rfl)) dX0_takeFrom_31 ⟨Nat.le_of_ble_eq_true rfl, Nat.le_of_ble_eq_true rfl⟩) ?_
      refine x_ifB_ne (tgt := 79) hx hb dX0_takeFrom_34 (by decide) (fun h5 => ?_) (fun h6 => ?_)
      · have hyes := h5
        refine x_iinc (lv' := [(3, .int (zI (((k : Int) + 1) + 1))), (4, .int (zI (bD b q y k : Int))), (0, .ref (o + 122)), (1, .ref (o + 2 + 15 * q + 2 + 3 * y)), (2, .int (zI zg))]) (k := 1) hx hb dX0_takeFrom_79 hl rfl (by decide) rfl (fun ls hl => ?_)
        refine lv_goto (tgt := 2) hx hb dX0_takeFrom_82 (by decide) ?_
        exact ih2 (k + 1) ls (show ((k + 1) ≤ bN b q y) ∧ (∀ j, j < (k + 1) → tkP b q y j = false) from ⟨(by omega), (lt_s hm (by unfold tkP; rw [hyes]; rfl))⟩) (show bN b q y - (k + 1) < bN b q y - k from (by omega)) (lv_cons (x_at (lv_at hl 0 rfl) (by omega)) (lv_cons (lv_at hl 2 rfl) (lv_cons (lv_at hl 3 rfl) (lv_cons (lv_at hl 4 rfl) (lv_nil hl)))))
      · have hno := h6
        refine lv_aload_n hx hb dX0_takeFrom_37 rfl (lv_at hl 2 rfl) ?_
        refine x_get (ci := 0) (C := RX0) (T := TX0) (N := 5) (own := RX0) (index := 9) (v := .ref (o + 123)) hx hb hts (by decide +kernel) hown hK hW.cl rfl 0 (by decide) (by decide +kernel) rfl rfl dX0_takeFrom_38 ?_
        refine lv_aload_n hx hb dX0_takeFrom_41 rfl (lv_at hl 2 rfl) ?_
        refine x_get (ci := 0) (C := RX0) (T := TX0) (N := 5) (own := RX0) (index := 32) (v := .int (zI (bL b : Int))) hx hb hts (by decide +kernel) hown hK hW.cl rfl 4 (by decide) (by decide +kernel) rfl rfl dX0_takeFrom_42 ?_
        refine lv_iload hx hb dX0_takeFrom_45 (lv_at hl 0 rfl) ?_
        refine x_iast hx hb hK hW.ld hS ⟨by omega, by omega⟩ (bL b) (by omega) (by omega) (by decide) dX0_takeFrom_47 (fun H1 locs1 h1 hz1 hn1 hS => ?_)
        have hW := hW.putLD (k := bL b) (v := bD b q y k) (by omega) h1 hn1
        refine lv_aload_n hx hb dX0_takeFrom_48 rfl (lv_at hl 2 rfl) ?_
        refine x_get (ci := 0) (C := RX0) (T := TX0) (N := 5) (own := RX0) (index := 15) (v := .ref (o + 124)) hx hb hts (by decide +kernel) hown hK hW.cl rfl 1 (by decide) (by decide +kernel) rfl rfl dX0_takeFrom_49 ?_
        refine lv_aload_n hx hb dX0_takeFrom_52 rfl (lv_at hl 2 rfl) ?_
        refine x_get (ci := 0) (C := RX0) (T := TX0) (N := 5) (own := RX0) (index := 32) (v := .int (zI (bL b : Int))) hx hb hts (by decide +kernel) hown hK hW.cl rfl 4 (by decide) (by decide +kernel) rfl rfl dX0_takeFrom_53 ?_
        refine lv_iload_n hx hb dX0_takeFrom_56 rfl (lv_at hl 4 rfl) ?_
        refine x_iast hx hb hK hW.lg hS ⟨by omega, by omega⟩ (bL b) (by omega) (by omega) (by decide) dX0_takeFrom_57 (fun H1 locs1 h1 hz1 hn1 hS => ?_)
        have hW := hW.putLG (k := bL b) (v := g) (by omega) h1 hn1
        refine lv_aload_n hx hb dX0_takeFrom_58 rfl (lv_at hl 2 rfl) ?_
        refine x_get (ci := 0) (C := RX0) (T := TX0) (N := 5) (own := RX0) (index := 18) (v := .ref (o + 125)) hx hb hts (by decide +kernel) hown hK hW.cl rfl 2 (by decide) (by decide +kernel) rfl rfl dX0_takeFrom_59 ?_
        refine lv_aload_n hx hb dX0_takeFrom_62 rfl (lv_at hl 2 rfl) ?_
        refine x_get (ci := 0) (C := RX0) (T := TX0) (N := 5) (own := RX0) (index := 32) (v := .int (zI (bL b : Int))) hx hb hts (by decide +kernel) hown hK hW.cl rfl 4 (by decide) (by decide +kernel) rfl rfl dX0_takeFrom_63 ?_
        refine x_iconst hx hb dX0_takeFrom_66 ?_
        refine x_zast hx hb hK hW.lc hS ⟨by omega, by omega⟩ (bL b) (by omega) (by omega) (by decide) (x_nar (by omega)) dX0_takeFrom_67 (fun H1 locs1 h1 hz1 hn1 hS => ?_)
        have hW := hW.putLC (k := bL b) (v := 0) (by omega) h1 hn1
        refine lv_aload_n hx hb dX0_takeFrom_68 rfl (lv_at hl 2 rfl) ?_
        refine lv_dup hx hb dX0_takeFrom_69 rfl ?_
        refine x_get (ci := 0) (C := RX0) (T := TX0) (N := 5) (own := RX0) (index := 32) (v := .int (zI (bL b : Int))) hx hb hts (by decide +kernel) hown hK hW.cl rfl 4 (by decide) (by decide +kernel) rfl rfl dX0_takeFrom_70 ?_
        refine x_iconst hx hb dX0_takeFrom_73 ?_
        refine x_iadd hx hb dX0_takeFrom_74 ?_
        refine x_put (ci := 0) (C := RX0) (T := TX0) (N := 5) (own := RX0) (index := 32) hx hb hts (by decide +kernel) tyX0 tyX0_ok nmX0 hown hK hW.cl hS ⟨by omega, by omega⟩ rfl 4 (by decide) (by decide +kernel) rfl rfl rfl rfl (Nat.le_of_ble_eq_true rfl) dX0_takeFrom_75 (fun H1 locs1 h1 hz1 hn1 hS => ?_)
        have hW := hW.putCL (v := bL b + 1) (show ((bL b : Int) + 1) = ((bL b + 1 : Nat) : Int) from by omega) h1 hn1
        rw [show tkB b lim q y g = bAdd b (bD b q y k) g from tk_at (by omega) (by omega) hm (by unfold tkP; rw [bne9 hno]; rfl)]
        exact W.vret hx hb hr (fun t ht _ => ⟨⟨(), rfl, trivial, _, ht, hW⟩, hS.F ht⟩) hS.2.2 dX0_takeFrom_78
/-- a document with its score comes to a run's end -/
def bApp (b : XB) (q y d c : Nat) : XB := uN (uS (uD b q y (bN b q y) d) q y (bN b q y) c) q y (bN b q y + 1)
theorem bApp_n (b : XB) (q y d c : Nat) : bN (bApp b q y d c) q y = bN b q y + 1 := if_pos ⟨rfl, rfl⟩
theorem bApp_inv {b : XB} (hi : bInv b) {q y d c : Nat} (hn : bN b q y < 20) (hd : d < 40) (hc : c ≤ 1000) : bInv (bApp b q y d c) := uN_inv (uS_inv (uD_inv hi hd) hc) (by omega)
set_option maxHeartbeats 4000000 in
set_option maxRecDepth 100000 in
theorem c_X2_add (l : Launch) (G : XG) (o : Nat) (b : XB) (lim : Int) (dif : Nat → Int) (q y : Nat) (hq : q < 8) (hy : y < 4) (zd zc : Int) (d sc : Nat) (hzd : zd = (d : Int)) (hzc : zc = (sc : Int)) (hlt : bN b q y < 20) : MetWI l yX2_add wsX2_add (rmF 0 0) (BPc G o b lim dif [.ref (o + 2 + 15 * q + 2 + 3 * y), .int (zI zd), .int (zI zc)]) ((bN b q y : Int) + 1) (fun H => BW G o (bApp b q y d sc) lim dif H) (xA o) := by
  refine Met.ofW (cc := cX2_add) (maxL := 3) (ret := (some .int)) (by decide) rfl ?_
  intro p e s m args below meth c s₁ B hml hv
  obtain ⟨rfl, hW, hi, hK⟩ := hv
  have hx := B.exec
  have hb := B.bytes
  have hr := B.returns
  have hts := atoms_spec (ws := wsX2_add) B.pre
  have hown : s.vm.findClass RX2 = some m.cls := findClass_of_methodNamed B.named
  have hlocks := B.notSynchronized
  have hl := lv_entry ([.ref (o + 2 + 15 * q + 2 + 3 * y), .int (zI zd), .int (zI zc)]) (n := 3) (Nat.le_of_ble_eq_true rfl)
  rw [lg_entry_eq]
  generalize (lg_sl ([.ref (o + 2 + 15 * q + 2 + 3 * y), .int (zI zd), .int (zI zc)]) ++ List.replicate (3 - (lg_sl ([.ref (o + 2 + 15 * q + 2 + 3 * y), .int (zI zd), .int (zI zc)])).length) Slot.unset).toArray = ls at hl ⊢
  have hl : lv_has ls 3 [(0, .ref (o + 2 + 15 * q + 2 + 3 * y)), (1, .int (zI zd)), (2, .int (zI zc))] := hl
  have hS : va_S (xA o) s.heap s.heap [] := va_S.rf
  have hn20 := hi.n q y
  refine lv_aload_n hx hb dX2_add_0 rfl (lv_at hl 0 rfl) ?_
  refine x_get (ci := 2) (C := RX2) (T := TX2) (N := 3) (own := RX2) (index := 18) (v := .int (zI (bN b q y : Int))) hx hb hts (by decide +kernel) hown hK (hW.r (q := q) (s := y) (by omega) (by omega)) rfl 2 (by decide) (by decide +kernel) rfl rfl dX2_add_1 ?_
  refine lv_bipush (v := zI 20) hx hb dX2_add_4 (by decide +kernel) ?_
  refine x_icmp_ge (tgt := 39) hx hb dX2_add_6 (by decide) (by omega) (fun h1 => ?_) (fun h2 => ?_)
  · exact absurd h1 (by omega)
  · refine lv_aload_n hx hb dX2_add_9 rfl (lv_at hl 0 rfl) ?_
    refine x_get (ci := 2) (C := RX2) (T := TX2) (N := 3) (own := RX2) (index := 9) (v := .ref (o + 2 + 15 * q + 2 + 3 * y + 1)) hx hb hts (by decide +kernel) hown hK (hW.r (q := q) (s := y) (by omega) (by omega)) rfl 0 (by decide) (by decide +kernel) rfl rfl dX2_add_10 ?_
    refine lv_aload_n hx hb dX2_add_13 rfl (lv_at hl 0 rfl) ?_
    refine x_get (ci := 2) (C := RX2) (T := TX2) (N := 3) (own := RX2) (index := 18) (v := .int (zI (bN b q y : Int))) hx hb hts (by decide +kernel) hown hK (hW.r (q := q) (s := y) (by omega) (by omega)) rfl 2 (by decide) (by decide +kernel) rfl rfl dX2_add_14 ?_
    refine lv_iload_n hx hb dX2_add_17 rfl (lv_at hl 1 rfl) ?_
    refine x_iast hx hb hK (hW.rd (q := q) (s := y) (by omega) (by omega)) hS ⟨by omega, by omega⟩ (bN b q y) (by omega) (by omega) (by decide) dX2_add_18 (fun H1 locs1 h1 hz1 hn1 hS => ?_)
    have hW := hW.putRD (q := q) (y := y) (k := bN b q y) (v := d) (by omega) (by omega) (by omega) h1 hn1
    refine lv_aload_n hx hb dX2_add_19 rfl (lv_at hl 0 rfl) ?_
    refine x_get (ci := 2) (C := RX2) (T := TX2) (N := 3) (own := RX2) (index := 15) (v := .ref (o + 2 + 15 * q + 2 + 3 * y + 2)) hx hb hts (by decide +kernel) hown hK (hW.r (q := q) (s := y) (by omega) (by omega)) rfl 1 (by decide) (by decide +kernel) rfl rfl dX2_add_20 ?_
    refine lv_aload_n hx hb dX2_add_23 rfl (lv_at hl 0 rfl) ?_
    refine x_get (ci := 2) (C := RX2) (T := TX2) (N := 3) (own := RX2) (index := 18) (v := .int (zI (bN b q y : Int))) hx hb hts (by decide +kernel) hown hK (hW.r (q := q) (s := y) (by omega) (by omega)) rfl 2 (by decide) (by decide +kernel) rfl rfl dX2_add_24 ?_
    refine lv_iload_n hx hb dX2_add_27 rfl (lv_at hl 2 rfl) ?_
    refine x_iast hx hb hK (hW.rc (q := q) (s := y) (by omega) (by omega)) hS ⟨by omega, by omega⟩ (bN b q y) (by omega) (by omega) (by decide) dX2_add_28 (fun H1 locs1 h1 hz1 hn1 hS => ?_)
    have hW := hW.putRC (q := q) (y := y) (k := bN b q y) (v := sc) (by omega) (by omega) (by omega) h1 hn1
    refine lv_aload_n hx hb dX2_add_29 rfl (lv_at hl 0 rfl) ?_
    refine lv_dup hx hb dX2_add_30 rfl ?_
    refine x_get (ci := 2) (C := RX2) (T := TX2) (N := 3) (own := RX2) (index := 18) (v := .int (zI (bN b q y : Int))) hx hb hts (by decide +kernel) hown hK (hW.r (q := q) (s := y) (by omega) (by omega)) rfl 2 (by decide) (by decide +kernel) rfl rfl dX2_add_31 ?_
    refine x_iconst hx hb dX2_add_34 ?_
    refine x_iadd hx hb dX2_add_35 ?_
    refine x_put (ci := 2) (C := RX2) (T := TX2) (N := 3) (own := RX2) (index := 18) hx hb hts (by decide +kernel) tyX2 tyX2_ok nmX2 hown hK (hW.r (q := q) (s := y) (by omega) (by omega)) hS ⟨by omega, by omega⟩ rfl 2 (by decide) (by decide +kernel) rfl rfl rfl rfl (Nat.le_of_ble_eq_true rfl) dX2_add_36 (fun H1 locs1 h1 hz1 hn1 hS => ?_)
    have hW := hW.putRN (q := q) (y := y) (v := bN b q y + 1) (by omega) (by omega) (show ((bN b q y : Int) + 1) = ((bN b q y + 1 : Nat) : Int) from by omega) h1 hn1
    refine lv_aload_n hx hb dX2_add_39 rfl (lv_at hl 0 rfl) ?_
    refine x_get (ci := 2) (C := RX2) (T := TX2) (N := 3) (own := RX2) (index := 18) (v := .int (zI (bN (bApp b q y d sc) q y : Int))) hx hb hts (by decide +kernel) hown hK (hW.r (q := q) (s := y) (by omega) (by omega)) rfl 2 (by decide) (by decide +kernel) rfl rfl dX2_add_40 ?_
    exact W.iret hx hb hr (fun t ht _ => ⟨⟨_, (), rfl, congrArg zI (by rw [bApp_n]; omega), _, ht, hW⟩, hS.F ht⟩) hS.2.2 dX2_add_43
