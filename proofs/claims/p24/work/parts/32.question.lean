/-- is a document in a question's pool? -/
def pldB (b : XB) (q : Nat) (d de : Int) : Bool := (List.range 4).any (fun y => decide (¬ rk b q y d = -1 ∧ rk b q y d ≤ de))
theorem pld_t {b : XB} {q y : Nat} {d de : Int} (hy : y < 4) (h1 : ¬ rk b q y d = -1) (h2 : rk b q y d ≤ de) : pldB b q d de = true := List.any_eq_true.mpr ⟨y, List.mem_range.mpr hy, decide_eq_true ⟨h1, h2⟩⟩
theorem pld_f {b : XB} {q : Nat} {d de : Int} (h : ∀ y, y < 4 → ¬ (¬ rk b q y d = -1 ∧ rk b q y d ≤ de)) : ¬ pldB b q d de = true := fun x => by
  obtain ⟨y, hy, h2⟩ := List.any_eq_true.mp x
  exact h y (List.mem_range.mp hy) (of_decide_eq_true h2)
/-- how many documents are in it -/
def poolN (b : XB) (q : Nat) (de : Int) : Nat := cnt9 (fun k => pldB b q (k : Int) de) 0 40
def fuP (b : XB) (q : Nat) (de : Int) (k : Nat) : Bool := decide (bJ b q k = 0) && pldB b q (k : Int) de
/-- the first of them that is not judged -/
def fuZ (b : XB) (q : Nat) (de : Int) : Int := if fst9 (fuP b q de) 0 40 < 40 then (fst9 (fuP b q de) 0 40 : Int) else -1
theorem fu_at {b : XB} {q k : Nat} {de : Int} (hk : k < 40) (h : ∀ j, j < k → fuP b q de j = false) (he : fuP b q de k = true) : fuZ b q de = (k : Int) := by
  have := fst9_uniq (P := fuP b q de) (i := 0) (f := 40) (k := k) (Nat.zero_le _) (fun j _ hj => h j hj) (Or.inr ⟨by omega, he⟩)
  rw [fuZ, this, if_pos hk]
theorem fu_no {b : XB} {q : Nat} {de : Int} (h : ∀ j, j < 40 → fuP b q de j = false) : fuZ b q de = -1 := by
  have := fst9_uniq (P := fuP b q de) (i := 0) (f := 40) (k := 40) (Nat.zero_le _) (fun j _ hj => h j hj) (Or.inl rfl)
  rw [fuZ, this, if_neg (Nat.lt_irrefl _)]
theorem fuP_j {b : XB} {q k : Nat} {de : Int} (h : ¬ bJ b q k = 0) : fuP b q de k = false := by unfold fuP; rw [decide_eq_false h]; rfl
theorem fuP_p {b : XB} {q k : Nat} {de : Int} (h : ¬ pldB b q (k : Int) de = true) : fuP b q de k = false := by unfold fuP; rw [bne9 h, Bool.and_false]
theorem fuP_t {b : XB} {q k : Nat} {de : Int} (h : bJ b q k = 0) (h2 : pldB b q (k : Int) de = true) : fuP b q de k = true := by unfold fuP; rw [decide_eq_true h, h2]; rfl
set_option maxHeartbeats 4000000 in
set_option maxRecDepth 100000 in
theorem c_X1_isPooled (l : Launch) (G : XG) (o : Nat) (b : XB) (lim : Int) (dif : Nat → Int) (q : Nat) (hq : q < 8) (d de : Int) (hd : -2147483648 ≤ d ∧ d < 2147483648) (hde : -2147483648 ≤ de ∧ de < 2147483648) : MetI l yX1_isPooled wsX1_isPooled (rmF 1 22) (BPc G o b lim dif [.ref (o + 2 + 15 * q), .int (zI d), .int (zI de)]) (bI (pldB b q d de = true)) := by
  refine Met.ofW (cc := cX1_isPooled) (maxL := 5) (ret := (some .boolean)) (by decide) rfl ?_
  intro p e s m args below meth c s₁ B hml hv
  obtain ⟨rfl, hW, hi, hK⟩ := hv
  have hx := B.exec
  have hb := B.bytes
  have hr := B.returns
  have hts := atoms_spec (ws := wsX1_isPooled) B.pre
  have hown : s.vm.findClass RX1 = some m.cls := findClass_of_methodNamed B.named
  have hlocks := B.notSynchronized
  have hl := lv_entry ([.ref (o + 2 + 15 * q), .int (zI d), .int (zI de)]) (n := 5) (Nat.le_of_ble_eq_true rfl)
  rw [lg_entry_eq]
  generalize (lg_sl ([.ref (o + 2 + 15 * q), .int (zI d), .int (zI de)]) ++ List.replicate (5 - (lg_sl ([.ref (o + 2 + 15 * q), .int (zI d), .int (zI de)])).length) Slot.unset).toArray = ls at hl ⊢
  have hl : lv_has ls 5 [(0, .ref (o + 2 + 15 * q)), (1, .int (zI d)), (2, .int (zI de))] := hl
  refine x_iconst hx hb dX1_isPooled_0 ?_
  refine lv_istore_n (lv' := [(3, .int (zI 0)), (0, .ref (o + 2 + 15 * q)), (1, .int (zI d)), (2, .int (zI de))]) hx hb dX1_isPooled_1 rfl hl (by decide) rfl (fun ls hl => ?_)
  refine x_loop1 (fun (t : Nat) => (t ≤ 4) ∧ (∀ j, j < t → ¬ (¬ rk b q j d = -1 ∧ rk b q j d ≤ de))) (fun (t : Nat) => 4 - t) (fun (t : Nat) => [(3, .int (zI (t : Int))), (0, .ref (o + 2 + 15 * q)), (1, .int (zI d)), (2, .int (zI de))]) (0) (show ((0) ≤ 4) ∧ (∀ j, j < (0) → ¬ (¬ rk b q j d = -1 ∧ rk b q j d ≤ de)) from ⟨(Nat.zero_le _), (fun j hj => absurd hj (Nat.not_lt_zero _))⟩) (show lv_has ls 5 [(3, .int (zI ((0) : Int))), (0, .ref (o + 2 + 15 * q)), (1, .int (zI d)), (2, .int (zI de))] from (lv_cons (x_at (lv_at hl 0 rfl) (by omega)) (lv_cons (lv_at hl 1 rfl) (lv_cons (lv_at hl 2 rfl) (lv_cons (lv_at hl 3 rfl) (lv_nil hl)))))) (fun t ls hI2 hl ih2 => ?_)
  obtain ⟨ht, hm⟩ : (t ≤ 4) ∧ (∀ j, j < t → ¬ (¬ rk b q j d = -1 ∧ rk b q j d ≤ de)) := hI2
  have hl : lv_has ls 5 [(3, .int (zI (t : Int))), (0, .ref (o + 2 + 15 * q)), (1, .int (zI d)), (2, .int (zI de))] := hl
  refine lv_iload_n hx hb dX1_isPooled_2 rfl (lv_at hl 0 rfl) ?_
  refine x_iconst hx hb dX1_isPooled_3 ?_
  refine x_icmp_ge (tgt := 39) hx hb dX1_isPooled_4 (by decide) (by omega) (fun h1 => ?_) (fun h2 => ?_)
  · refine x_iconst hx hb dX1_isPooled_39 ?_
    exact x_retB hx hb hr (⟨(bI_f (pld_f (fun j hj => hm j (by omega)))).symm, by omega, by omega⟩) dX1_isPooled_40 hlocks
  · refine lv_aload_n hx hb dX1_isPooled_7 rfl (lv_at hl 1 rfl) ?_
    refine x_get (ci := 1) (C := RX1) (T := TX1) (N := 2) (own := RX1) (index := 11) (v := .ref (o + 2 + 15 * q + 1)) hx hb hts (by decide +kernel) hown hK (hW.q (q := q) (by omega)) rfl 0 (by decide) (by decide +kernel) rfl rfl dX1_isPooled_8 ?_
    refine lv_iload_n hx hb dX1_isPooled_11 rfl (lv_at hl 0 rfl) ?_
    refine x_aaldr hx hb hK (hW.rs (q := q) (by omega)) (t) (by omega) (by omega) (by decide) dX1_isPooled_12 ?_
    refine lv_iload_n hx hb dX1_isPooled_13 rfl (lv_at hl 2 rfl) ?_
    refine x_cI (va_runVN (As := [.int (zI d)]) (rest := []) ⟨hx, hb, hml, hown, hts⟩ (c_X2_rankOf l G o b lim dif q t (by omega) (by omega) d (by omega)) ⟨va_cnB 1 hts gX1_isPooled_X2_rankOf_n22 rfl rfl rfl (x_nestM hK nk_RX1_22) (hts (.initialized RX2) (by decide +kernel)) (by decide +kernel) ⟨Nat.le_of_ble_eq_true rfl, Nat.le_of_ble_eq_true rfl⟩, hts (.instanceMethod yX2_rankOf) (by decide +kernel), hts (.selects RX2 yX2_rankOf yX2_rankOf) (by decide +kernel)⟩ (x_preV hW hi hK (hW.r (q := q) (s := t) (by omega) (by omega)) (ci := 2) (q := (RX2, TX2, 3)) rfl) rfl rfl hl.1 rfl (lv_room (Nat.le_of_ble_eq_true rfl)) dX1_isPooled_14 ⟨Nat.le_of_ble_eq_true rfl, Nat.le_of_ble_eq_true rfl⟩) ?_
    have hrk := rk_rng b q t d
    have hnt := hi.n q t
    refine lv_istore (lv' := [(4, .int (zI (rk b q t d))), (3, .int (zI (t : Int))), (0, .ref (o + 2 + 15 * q)), (1, .int (zI d)), (2, .int (zI de))]) hx hb dX1_isPooled_17 hl (by decide) rfl (fun ls hl => ?_)
    refine lv_iload hx hb dX1_isPooled_19 (lv_at hl 0 rfl) ?_
    refine x_iconst hx hb dX1_isPooled_21 ?_
    refine x_icmp_eq (tgt := 33) hx hb dX1_isPooled_22 (by decide) (by omega) (fun h3 => ?_) (fun h4 => ?_)
    · refine x_iinc (lv' := [(3, .int (zI ((t : Int) + 1))), (4, .int (zI (rk b q t d))), (0, .ref (o + 2 + 15 * q)), (1, .int (zI d)), (2, .int (zI de))]) (k := 1) hx hb dX1_isPooled_33 hl rfl (by decide) rfl (fun ls hl => ?_)
      refine lv_goto (tgt := 2) hx hb dX1_isPooled_36 (by decide) ?_
      exact ih2 (t + 1) ls (show ((t + 1) ≤ 4) ∧ (∀ j, j < (t + 1) → ¬ (¬ rk b q j d = -1 ∧ rk b q j d ≤ de)) from ⟨(by omega), (lt_s hm (by omega))⟩) (show 4 - (t + 1) < 4 - t from (by omega)) (lv_cons (x_at (lv_at hl 0 rfl) (by omega)) (lv_cons (lv_at hl 2 rfl) (lv_cons (lv_at hl 3 rfl) (lv_cons (lv_at hl 4 rfl) (lv_nil hl)))))
    · refine lv_iload hx hb dX1_isPooled_25 (lv_at hl 0 rfl) ?_
      refine lv_iload_n hx hb dX1_isPooled_27 rfl (lv_at hl 4 rfl) ?_
      refine x_icmp_gt (tgt := 33) hx hb dX1_isPooled_28 (by decide) (by omega) (fun h5 => ?_) (fun h6 => ?_)
      · refine x_iinc (lv' := [(3, .int (zI ((t : Int) + 1))), (4, .int (zI (rk b q t d))), (0, .ref (o + 2 + 15 * q)), (1, .int (zI d)), (2, .int (zI de))]) (k := 1) hx hb dX1_isPooled_33 hl rfl (by decide) rfl (fun ls hl => ?_)
        refine lv_goto (tgt := 2) hx hb dX1_isPooled_36 (by decide) ?_
        exact ih2 (t + 1) ls (show ((t + 1) ≤ 4) ∧ (∀ j, j < (t + 1) → ¬ (¬ rk b q j d = -1 ∧ rk b q j d ≤ de)) from ⟨(by omega), (lt_s hm (by omega))⟩) (show 4 - (t + 1) < 4 - t from (by omega)) (lv_cons (x_at (lv_at hl 0 rfl) (by omega)) (lv_cons (lv_at hl 2 rfl) (lv_cons (lv_at hl 3 rfl) (lv_cons (lv_at hl 4 rfl) (lv_nil hl)))))
      · refine x_iconst hx hb dX1_isPooled_31 ?_
        exact x_retB hx hb hr (⟨(bI_t (pld_t (y := t) (by omega) (by omega) (by omega))).symm, by omega, by omega⟩) dX1_isPooled_32 hlocks
set_option maxHeartbeats 4000000 in
set_option maxRecDepth 100000 in
theorem c_X1_poolSize (l : Launch) (G : XG) (o : Nat) (b : XB) (lim : Int) (dif : Nat → Int) (q : Nat) (hq : q < 8) (de : Int) (hde : -2147483648 ≤ de ∧ de < 2147483648) : MetI l yX1_poolSize wsX1_poolSize (rmF 2 46) (BPc G o b lim dif [.ref (o + 2 + 15 * q), .int (zI de)]) (poolN b q de : Int) := by
  refine Met.ofW (cc := cX1_poolSize) (maxL := 4) (ret := (some .int)) (by decide) rfl ?_
  intro p e s m args below meth c s₁ B hml hv
  obtain ⟨rfl, hW, hi, hK⟩ := hv
  have hx := B.exec
  have hb := B.bytes
  have hr := B.returns
  have hts := atoms_spec (ws := wsX1_poolSize) B.pre
  have hown : s.vm.findClass RX1 = some m.cls := findClass_of_methodNamed B.named
  have hlocks := B.notSynchronized
  have hl := lv_entry ([.ref (o + 2 + 15 * q), .int (zI de)]) (n := 4) (Nat.le_of_ble_eq_true rfl)
  rw [lg_entry_eq]
  generalize (lg_sl ([.ref (o + 2 + 15 * q), .int (zI de)]) ++ List.replicate (4 - (lg_sl ([.ref (o + 2 + 15 * q), .int (zI de)])).length) Slot.unset).toArray = ls at hl ⊢
  have hl : lv_has ls 4 [(0, .ref (o + 2 + 15 * q)), (1, .int (zI de))] := hl
  refine x_iconst hx hb dX1_poolSize_0 ?_
  refine lv_istore_n (lv' := [(2, .int (zI 0)), (0, .ref (o + 2 + 15 * q)), (1, .int (zI de))]) hx hb dX1_poolSize_1 rfl hl (by decide) rfl (fun ls hl => ?_)
  refine x_iconst hx hb dX1_poolSize_2 ?_
  refine lv_istore_n (lv' := [(3, .int (zI 0)), (2, .int (zI 0)), (0, .ref (o + 2 + 15 * q)), (1, .int (zI de))]) hx hb dX1_poolSize_3 rfl hl (by decide) rfl (fun ls hl => ?_)
  refine x_loop1 (fun (k : Nat) => (k ≤ 40) ∧ (cnt9 (fun j => pldB b q (j : Int) de) 0 k ≤ k)) (fun (k : Nat) => 40 - k) (fun (k : Nat) => [(2, .int (zI (cnt9 (fun j => pldB b q (j : Int) de) 0 k : Int))), (3, .int (zI (k : Int))), (0, .ref (o + 2 + 15 * q)), (1, .int (zI de))]) (0) (show ((0) ≤ 40) ∧ (cnt9 (fun j => pldB b q (j : Int) de) 0 (0) ≤ (0)) from ⟨(Nat.zero_le _), (cnt9_le _ _ _)⟩) (show lv_has ls 4 [(2, .int (zI (cnt9 (fun j => pldB b q (j : Int) de) 0 (0) : Int))), (3, .int (zI ((0) : Int))), (0, .ref (o + 2 + 15 * q)), (1, .int (zI de))] from (lv_cons (x_at (lv_at hl 1 rfl) (rfl)) (lv_cons (x_at (lv_at hl 0 rfl) (by omega)) (lv_cons (lv_at hl 2 rfl) (lv_cons (lv_at hl 3 rfl) (lv_nil hl)))))) (fun k ls hI4 hl ih4 => ?_)
  obtain ⟨hk, hc⟩ : (k ≤ 40) ∧ (cnt9 (fun j => pldB b q (j : Int) de) 0 k ≤ k) := hI4
  have hl : lv_has ls 4 [(2, .int (zI (cnt9 (fun j => pldB b q (j : Int) de) 0 k : Int))), (3, .int (zI (k : Int))), (0, .ref (o + 2 + 15 * q)), (1, .int (zI de))] := hl
  refine lv_iload_n hx hb dX1_poolSize_4 rfl (lv_at hl 1 rfl) ?_
  refine lv_bipush (v := zI 40) hx hb dX1_poolSize_5 (by decide +kernel) ?_
  refine x_icmp_ge (tgt := 28) hx hb dX1_poolSize_7 (by decide) (by omega) (fun h1 => ?_) (fun h2 => ?_)
  · refine lv_iload_n hx hb dX1_poolSize_28 rfl (lv_at hl 0 rfl) ?_
    exact x_retI hx hb hr (by rw [show k = 40 from by omega]; rfl) dX1_poolSize_29 hlocks
  · refine lv_aload_n hx hb dX1_poolSize_10 rfl (lv_at hl 2 rfl) ?_
    refine lv_iload_n hx hb dX1_poolSize_11 rfl (lv_at hl 1 rfl) ?_
    refine lv_iload_n hx hb dX1_poolSize_12 rfl (lv_at hl 3 rfl) ?_
    refine x_cI (va_runV (As := [.int (zI (k : Int)), .int (zI de)]) (rest := []) ⟨hx, hb, hml, hown, hts⟩ (c_X1_isPooled l G o b lim dif q (by omega) (k : Int) de (by omega) (by omega)) (cwV 2 hts gX1_poolSize_X1_isPooled rfl rfl rfl (by decide +kernel) ⟨Nat.le_of_ble_eq_true rfl, Nat.le_of_ble_eq_true rfl⟩) (x_preV hW hi hK (hW.q (q := q) (by omega)) (ci := 1) (q := (RX1, TX1, 2)) rfl) rfl rfl hl.1 rfl (lv_room (Nat.le_of_ble_eq_true rfl)) dX1_poolSize_13 ⟨Nat.le_of_ble_eq_true rfl, Nat.le_of_ble_eq_true rfl⟩) ?_
    refine x_ifB_eq (tgt := 22) hx hb dX1_poolSize_16 (by decide) (fun h3 => ?_) (fun h4 => ?_)
    · have hno := h3
      refine x_iinc (lv' := [(3, .int (zI ((k : Int) + 1))), (2, .int (zI (cnt9 (fun j => pldB b q (j : Int) de) 0 k : Int))), (0, .ref (o + 2 + 15 * q)), (1, .int (zI de))]) (k := 1) hx hb dX1_poolSize_22 hl rfl (by decide) rfl (fun ls hl => ?_)
      refine lv_goto (tgt := 4) hx hb dX1_poolSize_25 (by decide) ?_
      exact ih4 (k + 1) ls (show ((k + 1) ≤ 40) ∧ (cnt9 (fun j => pldB b q (j : Int) de) 0 (k + 1) ≤ (k + 1)) from ⟨(by omega), (cnt9_le _ _ _)⟩) (show 40 - (k + 1) < 40 - k from (by omega)) (lv_cons (x_at (lv_at hl 1 rfl) (by rw [cnt9_f (by rw [Nat.zero_add]; exact hno)])) (lv_cons (x_at (lv_at hl 0 rfl) (by omega)) (lv_cons (lv_at hl 2 rfl) (lv_cons (lv_at hl 3 rfl) (lv_nil hl)))))
    · have hyes := h4
      refine x_iinc (lv' := [(2, .int (zI ((cnt9 (fun j => pldB b q (j : Int) de) 0 k : Int) + 1))), (3, .int (zI (k : Int))), (0, .ref (o + 2 + 15 * q)), (1, .int (zI de))]) (k := 0) hx hb dX1_poolSize_19 hl rfl (by decide) rfl (fun ls hl => ?_)
      refine x_iinc (lv' := [(3, .int (zI ((k : Int) + 1))), (2, .int (zI ((cnt9 (fun j => pldB b q (j : Int) de) 0 k : Int) + 1))), (0, .ref (o + 2 + 15 * q)), (1, .int (zI de))]) (k := 1) hx hb dX1_poolSize_22 hl rfl (by decide) rfl (fun ls hl => ?_)
      refine lv_goto (tgt := 4) hx hb dX1_poolSize_25 (by decide) ?_
      exact ih4 (k + 1) ls (show ((k + 1) ≤ 40) ∧ (cnt9 (fun j => pldB b q (j : Int) de) 0 (k + 1) ≤ (k + 1)) from ⟨(by omega), (cnt9_le _ _ _)⟩) (show 40 - (k + 1) < 40 - k from (by omega)) (lv_cons (x_at (lv_at hl 1 rfl) (by rw [cnt9_t (by rw [Nat.zero_add]; exact hyes)]; rfl)) (lv_cons (x_at (lv_at hl 0 rfl) (by omega)) (lv_cons (lv_at hl 2 rfl) (lv_cons (lv_at hl 3 rfl) (lv_nil hl)))))
set_option maxHeartbeats 4000000 in
set_option maxRecDepth 100000 in
theorem c_X1_firstUnjudged (l : Launch) (G : XG) (o : Nat) (b : XB) (lim : Int) (dif : Nat → Int) (q : Nat) (hq : q < 8) (de : Int) (hde : -2147483648 ≤ de ∧ de < 2147483648) : MetI l yX1_firstUnjudged wsX1_firstUnjudged (rmF 2 46) (BPc G o b lim dif [.ref (o + 2 + 15 * q), .int (zI de)]) (fuZ b q de) := by
  refine Met.ofW (cc := cX1_firstUnjudged) (maxL := 3) (ret := (some .int)) (by decide) rfl ?_
  intro p e s m args below meth c s₁ B hml hv
  obtain ⟨rfl, hW, hi, hK⟩ := hv
  have hx := B.exec
  have hb := B.bytes
  have hr := B.returns
  have hts := atoms_spec (ws := wsX1_firstUnjudged) B.pre
  have hown : s.vm.findClass RX1 = some m.cls := findClass_of_methodNamed B.named
  have hlocks := B.notSynchronized
  have hl := lv_entry ([.ref (o + 2 + 15 * q), .int (zI de)]) (n := 3) (Nat.le_of_ble_eq_true rfl)
  rw [lg_entry_eq]
  generalize (lg_sl ([.ref (o + 2 + 15 * q), .int (zI de)]) ++ List.replicate (3 - (lg_sl ([.ref (o + 2 + 15 * q), .int (zI de)])).length) Slot.unset).toArray = ls at hl ⊢
  have hl : lv_has ls 3 [(0, .ref (o + 2 + 15 * q)), (1, .int (zI de))] := hl
  refine x_iconst hx hb dX1_firstUnjudged_0 ?_
  refine lv_istore_n (lv' := [(2, .int (zI 0)), (0, .ref (o + 2 + 15 * q)), (1, .int (zI de))]) hx hb dX1_firstUnjudged_1 rfl hl (by decide) rfl (fun ls hl => ?_)
  refine x_loop1 (fun (k : Nat) => (k ≤ 40) ∧ (∀ j, j < k → fuP b q de j = false)) (fun (k : Nat) => 40 - k) (fun (k : Nat) => [(2, .int (zI (k : Int))), (0, .ref (o + 2 + 15 * q)), (1, .int (zI de))]) (0) (show ((0) ≤ 40) ∧ (∀ j, j < (0) → fuP b q de j = false) from ⟨(Nat.zero_le _), (fun j hj => absurd hj (Nat.not_lt_zero _))⟩) (show lv_has ls 3 [(2, .int (zI ((0) : Int))), (0, .ref (o + 2 + 15 * q)), (1, .int (zI de))] from (lv_cons (x_at (lv_at hl 0 rfl) (by omega)) (lv_cons (lv_at hl 1 rfl) (lv_cons (lv_at hl 2 rfl) (lv_nil hl))))) (fun k ls hI2 hl ih2 => ?_)
  obtain ⟨hk, hm⟩ : (k ≤ 40) ∧ (∀ j, j < k → fuP b q de j = false) := hI2
  have hl : lv_has ls 3 [(2, .int (zI (k : Int))), (0, .ref (o + 2 + 15 * q)), (1, .int (zI de))] := hl
  refine lv_iload_n hx hb dX1_firstUnjudged_2 rfl (lv_at hl 0 rfl) ?_
  refine lv_bipush (v := zI 40) hx hb dX1_firstUnjudged_3 (by decide +kernel) ?_
  refine x_icmp_ge (tgt := 34) hx hb dX1_firstUnjudged_5 (by decide) (by omega) (fun h1 => ?_) (fun h2 => ?_)
  · refine x_iconst hx hb dX1_firstUnjudged_34 ?_
    exact x_retI hx hb hr ((fu_no (fun j hj => hm j (by omega))).symm) dX1_firstUnjudged_35 hlocks
  · refine lv_aload_n hx hb dX1_firstUnjudged_8 rfl (lv_at hl 1 rfl) ?_
    refine x_get (ci := 1) (C := RX1) (T := TX1) (N := 2) (own := RX1) (index := 18) (v := .ref (o + 2 + 15 * q + 14)) hx hb hts (by decide +kernel) hown hK (hW.q (q := q) (by omega)) rfl 1 (by decide) (by decide +kernel) rfl rfl dX1_firstUnjudged_9 ?_
    refine lv_iload_n hx hb dX1_firstUnjudged_12 rfl (lv_at hl 0 rfl) ?_
    have hj2 := hi.j q k
    refine x_iald hx hb hK (hW.ju (q := q) (by omega)) (k) (by omega) (by omega) (by decide) dX1_firstUnjudged_13 ?_
    have hv3 := hi.j q (k)
    refine x_if_ne (tgt := 28) hx hb dX1_firstUnjudged_14 (by decide) (by omega) (fun h4 => ?_) (fun h5 => ?_)
    · refine x_iinc (lv' := [(2, .int (zI ((k : Int) + 1))), (0, .ref (o + 2 + 15 * q)), (1, .int (zI de))]) (k := 0) hx hb dX1_firstUnjudged_28 hl rfl (by decide) rfl (fun ls hl => ?_)
      refine lv_goto (tgt := 2) hx hb dX1_firstUnjudged_31 (by decide) ?_
      exact ih2 (k + 1) ls (show ((k + 1) ≤ 40) ∧ (∀ j, j < (k + 1) → fuP b q de j = false) from ⟨(by omega), (lt_s hm (by first | exact fuP_j (by omega) | exact fuP_p (by assumption)))⟩) (show 40 - (k + 1) < 40 - k from (by omega)) (lv_cons (x_at (lv_at hl 0 rfl) (by omega)) (lv_cons (lv_at hl 1 rfl) (lv_cons (lv_at hl 2 rfl) (lv_nil hl))))
    · refine lv_aload_n hx hb dX1_firstUnjudged_17 rfl (lv_at hl 1 rfl) ?_
      refine lv_iload_n hx hb dX1_firstUnjudged_18 rfl (lv_at hl 0 rfl) ?_
      refine lv_iload_n hx hb dX1_firstUnjudged_19 rfl (lv_at hl 2 rfl) ?_
      refine x_cI (va_runV (As := [.int (zI (k : Int)), .int (zI de)]) (rest := []) ⟨hx, hb, hml, hown, hts⟩ (c_X1_isPooled l G o b lim dif q (by omega) (k : Int) de (by omega) (by omega)) (cwV 2 hts gX1_firstUnjudged_X1_isPooled rfl rfl rfl (by decide +kernel) ⟨Nat.le_of_ble_eq_true rfl, Nat.le_of_ble_eq_true rfl⟩) (x_preV hW hi hK (hW.q (q := q) (by omega)) (ci := 1) (q := (RX1, TX1, 2)) rfl) rfl rfl hl.1 rfl (lv_room (Nat.le_of_ble_eq_true rfl)) dX1_firstUnjudged_20 ⟨Nat.le_of_ble_eq_true rfl, Nat.le_of_ble_eq_true rfl⟩) ?_
      refine x_ifB_eq (tgt := 28) hx hb dX1_firstUnjudged_23 (by decide) (fun h6 => ?_) (fun h7 => ?_)
      · refine x_iinc (lv' := [(2, .int (zI ((k : Int) + 1))), (0, .ref (o + 2 + 15 * q)), (1, .int (zI de))]) (k := 0) hx hb dX1_firstUnjudged_28 hl rfl (by decide) rfl (fun ls hl => ?_)
        refine lv_goto (tgt := 2) hx hb dX1_firstUnjudged_31 (by decide) ?_
        exact ih2 (k + 1) ls (show ((k + 1) ≤ 40) ∧ (∀ j, j < (k + 1) → fuP b q de j = false) from ⟨(by omega), (lt_s hm (by first | exact fuP_j (by omega) | exact fuP_p (by assumption)))⟩) (show 40 - (k + 1) < 40 - k from (by omega)) (lv_cons (x_at (lv_at hl 0 rfl) (by omega)) (lv_cons (lv_at hl 1 rfl) (lv_cons (lv_at hl 2 rfl) (lv_nil hl))))
      · refine lv_iload_n hx hb dX1_firstUnjudged_26 rfl (lv_at hl 0 rfl) ?_
        exact x_retI hx hb hr ((fu_at (by omega) hm (fuP_t (by omega) (by assumption))).symm) dX1_firstUnjudged_27 hlocks
/-- is the document at a place of a run relevant? -/
def relP (b : XB) (q y k : Nat) : Bool := decide (bJ b q (bD b q y k) = 2)
/-- .. at a rank -/
def relZ (b : XB) (q y : Nat) (r : Int) : Bool := decide (1 ≤ r) && decide (r ≤ (bN b q y : Int)) && relP b q y (r.toNat - 1)
theorem relZ_k {b : XB} {q y k : Nat} (hk : k < bN b q y) : relZ b q y ((k : Int) + 1) = relP b q y k := by
  unfold relZ
  rw [decide_eq_true (by omega), decide_eq_true (by omega), show ((k : Int) + 1).toNat - 1 = k from by omega]
  rfl
theorem relZ_t {b : XB} {q y : Nat} {r : Int} (h : 0 ≤ dAt b q y r) (h2 : bJ b q (dAt b q y r).toNat = 2) : relZ b q y r = true := by
  unfold dAt at h h2
  split at h
  · rename_i h3
    rw [if_pos h3] at h2
    unfold relZ relP
    rw [decide_eq_true h3.1, decide_eq_true h3.2, decide_eq_true (by simpa using h2)]
    rfl
  · omega
theorem relZ_f {b : XB} {q y : Nat} {r : Int} (h : dAt b q y r < 0 ∨ ¬ bJ b q (dAt b q y r).toNat = 2) : ¬ relZ b q y r = true := by
  intro x
  unfold relZ relP at x
  rw [Bool.and_eq_true, Bool.and_eq_true, decide_eq_true_eq, decide_eq_true_eq, decide_eq_true_eq] at x
  obtain ⟨⟨h1, h2⟩, h3⟩ := x
  have e : dAt b q y r = (bD b q y (r.toNat - 1) : Int) := if_pos ⟨h1, h2⟩
  rw [e] at h
  rcases h with h | h
  · omega
  · exact h (by simpa using h3)
set_option maxHeartbeats 4000000 in
set_option maxRecDepth 100000 in
theorem c_X1_isRelevantAt (l : Launch) (G : XG) (o : Nat) (b : XB) (lim : Int) (dif : Nat → Int) (q : Nat) (hq : q < 8) (y : Nat) (hy : y < 4) (r : Int) (hr : -2147483648 ≤ r ∧ r < 2147483648) : MetI l yX1_isRelevantAt wsX1_isRelevantAt (rmF 1 21) (BPc G o b lim dif [.ref (o + 2 + 15 * q), .ref (o + 2 + 15 * q + 2 + 3 * y), .int (zI r)]) (bI (relZ b q y r = true)) := by
  refine Met.ofW (cc := cX1_isRelevantAt) (maxL := 4) (ret := (some .boolean)) (by decide) rfl ?_
  intro p e s m args below meth c s₁ B hml hv
  obtain ⟨rfl, hW, hi, hK⟩ := hv
  have hx := B.exec
  have hb := B.bytes
  have hr := B.returns
  have hts := atoms_spec (ws := wsX1_isRelevantAt) B.pre
  have hown : s.vm.findClass RX1 = some m.cls := findClass_of_methodNamed B.named
  have hlocks := B.notSynchronized
  have hl := lv_entry ([.ref (o + 2 + 15 * q), .ref (o + 2 + 15 * q + 2 + 3 * y), .int (zI r)]) (n := 4) (Nat.le_of_ble_eq_true rfl)
  rw [lg_entry_eq]
  generalize (lg_sl ([.ref (o + 2 + 15 * q), .ref (o + 2 + 15 * q + 2 + 3 * y), .int (zI r)]) ++ List.replicate (4 - (lg_sl ([.ref (o + 2 + 15 * q), .ref (o + 2 + 15 * q + 2 + 3 * y), .int (zI r)])).length) Slot.unset).toArray = ls at hl ⊢
  have hl : lv_has ls 4 [(0, .ref (o + 2 + 15 * q)), (1, .ref (o + 2 + 15 * q + 2 + 3 * y)), (2, .int (zI r))] := hl
  refine lv_aload_n hx hb dX1_isRelevantAt_0 rfl (lv_at hl 1 rfl) ?_
  refine lv_iload_n hx hb dX1_isRelevantAt_1 rfl (lv_at hl 2 rfl) ?_
  refine x_cI (va_runVN (As := [.int (zI r)]) (rest := []) ⟨hx, hb, hml, hown, hts⟩ (c_X2_documentAt l G o b lim dif q y (by omega) (by omega) r (by omega)) ⟨va_cnB 1 hts gX1_isRelevantAt_X2_documentAt_n30 rfl rfl rfl (x_nestM hK nk_RX1_30) (hts (.initialized RX2) (by decide +kernel)) (by decide +kernel) ⟨Nat.le_of_ble_eq_true rfl, Nat.le_of_ble_eq_true rfl⟩, hts (.instanceMethod yX2_documentAt) (by decide +kernel), hts (.selects RX2 yX2_documentAt yX2_documentAt) (by decide +kernel)⟩ (x_preV hW hi hK (hW.r (q := q) (s := y) (by omega) (by omega)) (ci := 2) (q := (RX2, TX2, 3)) rfl) rfl rfl hl.1 rfl (lv_room (Nat.le_of_ble_eq_true rfl)) dX1_isRelevantAt_2 ⟨Nat.le_of_ble_eq_true rfl, Nat.le_of_ble_eq_true rfl⟩) ?_
  have hda := dAt_rng hi q y r
  refine lv_istore_n (lv' := [(3, .int (zI (dAt b q y r))), (0, .ref (o + 2 + 15 * q)), (1, .ref (o + 2 + 15 * q + 2 + 3 * y)), (2, .int (zI r))]) hx hb dX1_isRelevantAt_5 rfl hl (by decide) rfl (fun ls hl => ?_)
  refine lv_iload_n hx hb dX1_isRelevantAt_6 rfl (lv_at hl 0 rfl) ?_
  refine x_if_lt (tgt := 30) hx hb dX1_isRelevantAt_7 (by decide) (by omega) (fun h1 => ?_) (fun h2 => ?_)
  · refine x_iconst hx hb dX1_isRelevantAt_30 ?_
    exact x_retB hx hb hr (⟨(bI_f (relZ_f (by omega))).symm, by omega, by omega⟩) dX1_isRelevantAt_31 hlocks
  · refine lv_iload_n hx hb dX1_isRelevantAt_10 rfl (lv_at hl 0 rfl) ?_
    refine lv_bipush (v := zI 40) hx hb dX1_isRelevantAt_11 (by decide +kernel) ?_
    refine x_icmp_ge (tgt := 30) hx hb dX1_isRelevantAt_13 (by decide) (by omega) (fun h3 => ?_) (fun h4 => ?_)
    · exact absurd h3 (by omega)
    · refine lv_aload_n hx hb dX1_isRelevantAt_16 rfl (lv_at hl 1 rfl) ?_
      refine x_get (ci := 1) (C := RX1) (T := TX1) (N := 2) (own := RX1) (index := 18) (v := .ref (o + 2 + 15 * q + 14)) hx hb hts (by decide +kernel) hown hK (hW.q (q := q) (by omega)) rfl 1 (by decide) (by decide +kernel) rfl rfl dX1_isRelevantAt_17 ?_
      have hj2 := hi.j q (dAt b q y r).toNat
      refine lv_iload_n hx hb dX1_isRelevantAt_20 rfl (lv_at hl 0 rfl) ?_
      refine x_iald hx hb hK (hW.ju (q := q) (by omega)) (((dAt b q y r)).toNat) (by omega) (by omega) (by decide) dX1_isRelevantAt_21 ?_
      have hv5 := hi.j q (((dAt b q y r)).toNat)
      refine x_iconst hx hb dX1_isRelevantAt_22 ?_
      refine x_icmp_ne (tgt := 30) hx hb dX1_isRelevantAt_23 (by decide) (by omega) (fun h6 => ?_) (fun h7 => ?_)
      · refine x_iconst hx hb dX1_isRelevantAt_30 ?_
        exact x_retB hx hb hr (⟨(bI_f (relZ_f (by omega))).symm, by omega, by omega⟩) dX1_isRelevantAt_31 hlocks
      · refine x_iconst hx hb dX1_isRelevantAt_26 ?_
        refine lv_goto (tgt := 31) hx hb dX1_isRelevantAt_27 (by decide) ?_
        exact x_retB hx hb hr (⟨(bI_t (relZ_t (by omega) (by omega))).symm, by omega, by omega⟩) dX1_isRelevantAt_31 hlocks
/-- how many relevant ones stand from the place lo on, ahead of the place h -/
def relN (b : XB) (q y lo h : Nat) : Nat := cnt9 (relP b q y) lo (min h (bN b q y) - lo)
theorem relN_le (b : XB) (q y lo h : Nat) : relN b q y lo h ≤ h - lo := by
  have := cnt9_le (relP b q y) lo (min h (bN b q y) - lo)
  unfold relN
  omega
set_option maxHeartbeats 4000000 in
set_option maxRecDepth 100000 in
theorem c_X1_relevantWithin (l : Launch) (G : XG) (o : Nat) (b : XB) (lim : Int) (dif : Nat → Int) (q : Nat) (hq : q < 8) (y : Nat) (hy : y < 4) (zl zh : Int) (lo h : Nat) (hzl : zl = (lo : Int) + 1) (hzh : zh = (h : Int)) (hlo : lo ≤ 20) (hh : h ≤ 20) : MetI l yX1_relevantWithin wsX1_relevantWithin (rmF 2 44) (BPc G o b lim dif [.ref (o + 2 + 15 * q), .ref (o + 2 + 15 * q + 2 + 3 * y), .int (zI zl), .int (zI zh)]) (relN b q y lo h : Int) := by
  refine Met.ofW (cc := cX1_relevantWithin) (maxL := 6) (ret := (some .int)) (by decide) rfl ?_
  intro p e s m args below meth c s₁ B hml hv
  obtain ⟨rfl, hW, hi, hK⟩ := hv
  have hx := B.exec
  have hb := B.bytes
  have hr := B.returns
  have hts := atoms_spec (ws := wsX1_relevantWithin) B.pre
  have hown : s.vm.findClass RX1 = some m.cls := findClass_of_methodNamed B.named
  have hlocks := B.notSynchronized
  have hl := lv_entry ([.ref (o + 2 + 15 * q), .ref (o + 2 + 15 * q + 2 + 3 * y), .int (zI zl), .int (zI zh)]) (n := 6) (Nat.le_of_ble_eq_true rfl)
  rw [lg_entry_eq]
  generalize (lg_sl ([.ref (o + 2 + 15 * q), .ref (o + 2 + 15 * q + 2 + 3 * y), .int (zI zl), .int (zI zh)]) ++ List.replicate (6 - (lg_sl ([.ref (o + 2 + 15 * q), .ref (o + 2 + 15 * q + 2 + 3 * y), .int (zI zl), .int (zI zh)])).length) Slot.unset).toArray = ls at hl ⊢
  have hl : lv_has ls 6 [(0, .ref (o + 2 + 15 * q)), (1, .ref (o + 2 + 15 * q + 2 + 3 * y)), (2, .int (zI zl)), (3, .int (zI zh))] := hl
  have hn20 := hi.n q y
  refine x_iconst hx hb dX1_relevantWithin_0 ?_
  refine lv_istore (lv' := [(4, .int (zI 0)), (0, .ref (o + 2 + 15 * q)), (1, .ref (o + 2 + 15 * q + 2 + 3 * y)), (2, .int (zI zl)), (3, .int (zI zh))]) hx hb dX1_relevantWithin_1 hl (by decide) rfl (fun ls hl => ?_)
  refine lv_iload_n hx hb dX1_relevantWithin_3 rfl (lv_at hl 3 rfl) ?_
  refine lv_istore (lv' := [(5, .int (zI zl)), (4, .int (zI 0)), (0, .ref (o + 2 + 15 * q)), (1, .ref (o + 2 + 15 * q + 2 + 3 * y)), (2, .int (zI zl)), (3, .int (zI zh))]) hx hb dX1_relevantWithin_4 hl (by decide) rfl (fun ls hl => ?_)
  refine x_loop1 (fun (k : Nat) => (k ≤ min h (bN b q y) - lo)) (fun (k : Nat) => min h (bN b q y) - lo - k) (fun (k : Nat) => [(5, .int (zI ((lo + k : Int) + 1))), (4, .int (zI (cnt9 (relP b q y) lo (k) : Int))), (0, .ref (o + 2 + 15 * q)), (1, .ref (o + 2 + 15 * q + 2 + 3 * y)), (3, .int (zI zh))]) (0) (show ((0) ≤ min h (bN b q y) - lo) from (Nat.zero_le _)) (show lv_has ls 6 [(5, .int (zI ((lo + (0) : Int) + 1))), (4, .int (zI (cnt9 (relP b q y) lo ((0)) : Int))), (0, .ref (o + 2 + 15 * q)), (1, .ref (o + 2 + 15 * q + 2 + 3 * y)), (3, .int (zI zh))] from (lv_cons (x_at (lv_at hl 0 rfl) (by omega)) (lv_cons (x_at (lv_at hl 1 rfl) (rfl)) (lv_cons (lv_at hl 2 rfl) (lv_cons (lv_at hl 3 rfl) (lv_cons (lv_at hl 5 rfl) (lv_nil hl))))))) (fun k ls hI6 hl ih6 => ?_)
  have hk : k ≤ min h (bN b q y) - lo := hI6
  have hl : lv_has ls 6 [(5, .int (zI ((lo + k : Int) + 1))), (4, .int (zI (cnt9 (relP b q y) lo (k) : Int))), (0, .ref (o + 2 + 15 * q)), (1, .ref (o + 2 + 15 * q + 2 + 3 * y)), (3, .int (zI zh))] := hl
  refine lv_iload hx hb dX1_relevantWithin_6 (lv_at hl 0 rfl) ?_
  refine lv_iload_n hx hb dX1_relevantWithin_8 rfl (lv_at hl 4 rfl) ?_
  refine x_icmp_gt (tgt := 40) hx hb dX1_relevantWithin_9 (by decide) (by omega) (fun h1 => ?_) (fun h2 => ?_)
  · refine lv_iload hx hb dX1_relevantWithin_40 (lv_at hl 1 rfl) ?_
    exact x_retI hx hb hr (by rw [show k = min h (bN b q y) - lo from by omega]; rfl) dX1_relevantWithin_42 hlocks
  · refine lv_iload hx hb dX1_relevantWithin_12 (lv_at hl 0 rfl) ?_
    refine lv_aload_n hx hb dX1_relevantWithin_14 rfl (lv_at hl 3 rfl) ?_
    refine x_getN (ci := 2) (C := RX2) (T := TX2) (N := 3) (own := RX1) (index := 33) (v := .int (zI (bN b q y : Int))) hx hb hts (by decide +kernel) hown hK (hW.r (q := q) (s := y) (by omega) (by omega)) rfl 2 (by decide) nk_RX1_33 rfl rfl dX1_relevantWithin_15 ?_
    refine x_icmp_gt (tgt := 40) hx hb dX1_relevantWithin_18 (by decide) (by omega) (fun h3 => ?_) (fun h4 => ?_)
    · refine lv_iload hx hb dX1_relevantWithin_40 (lv_at hl 1 rfl) ?_
      exact x_retI hx hb hr (by rw [show k = min h (bN b q y) - lo from by omega]; rfl) dX1_relevantWithin_42 hlocks
    · refine lv_aload_n hx hb dX1_relevantWithin_21 rfl (lv_at hl 2 rfl) ?_
      refine lv_aload_n hx hb dX1_relevantWithin_22 rfl (lv_at hl 3 rfl) ?_
      refine lv_iload hx hb dX1_relevantWithin_23 (lv_at hl 0 rfl) ?_
      refine x_cI (va_runV (As := [.ref (o + 2 + 15 * q + 2 + 3 * y), .int (zI ((lo + k : Int) + 1))]) (rest := []) ⟨hx, hb, hml, hown, hts⟩ (c_X1_isRelevantAt l G o b lim dif q (by omega) y (by omega) ((lo + k : Int) + 1) (by omega)) (cwV 2 hts gX1_relevantWithin_X1_isRelevantAt rfl rfl rfl (by decide +kernel) ⟨Nat.le_of_ble_eq_true rfl, Nat.le_of_ble_eq_true rfl⟩) (x_preV hW hi hK (hW.q (q := q) (by omega)) (ci := 1) (q := (RX1, TX1, 2)) rfl) rfl rfl hl.1 rfl (lv_room (Nat.le_of_ble_eq_true rfl)) dX1_relevantWithin_25 ⟨Nat.le_of_ble_eq_true rfl, Nat.le_of_ble_eq_true rfl⟩) ?_
      refine x_ifB_eq (tgt := 34) hx hb dX1_relevantWithin_28 (by decide) (fun h5 => ?_) (fun h6 => ?_)
      · have hno := h5
        refine x_iinc (lv' := [(5, .int (zI (((lo + k : Int) + 1) + 1))), (4, .int (zI (cnt9 (relP b q y) lo (k) : Int))), (0, .ref (o + 2 + 15 * q)), (1, .ref (o + 2 + 15 * q + 2 + 3 * y)), (3, .int (zI zh))]) (k := 0) hx hb dX1_relevantWithin_34 hl rfl (by decide) rfl (fun ls hl => ?_)
        refine lv_goto (tgt := 6) hx hb dX1_relevantWithin_37 (by decide) ?_
        exact ih6 (k + 1) ls (show ((k + 1) ≤ min h (bN b q y) - lo) from (by omega)) (show min h (bN b q y) - lo - (k + 1) < min h (bN b q y) - lo - k from (by omega)) (lv_cons (x_at (lv_at hl 0 rfl) (by omega)) (lv_cons (x_at (lv_at hl 1 rfl) (by rw [cnt9_f (by rw [← relZ_k (by omega)]; exact hno)])) (lv_cons (lv_at hl 2 rfl) (lv_cons (lv_at hl 3 rfl) (lv_cons (lv_at hl 4 rfl) (lv_nil hl))))))
      · have hyes := h6
        refine x_iinc (lv' := [(4, .int (zI ((cnt9 (relP b q y) lo (k) : Int) + 1))), (5, .int (zI ((lo + k : Int) + 1))), (0, .ref (o + 2 + 15 * q)), (1, .ref (o + 2 + 15 * q + 2 + 3 * y)), (3, .int (zI zh))]) (k := 1) hx hb dX1_relevantWithin_31 hl rfl (by decide) rfl (fun ls hl => ?_)
        refine x_iinc (lv' := [(5, .int (zI (((lo + k : Int) + 1) + 1))), (4, .int (zI ((cnt9 (relP b q y) lo (k) : Int) + 1))), (0, .ref (o + 2 + 15 * q)), (1, .ref (o + 2 + 15 * q + 2 + 3 * y)), (3, .int (zI zh))]) (k := 1) hx hb dX1_relevantWithin_34 hl rfl (by decide) rfl (fun ls hl => ?_)
        refine lv_goto (tgt := 6) hx hb dX1_relevantWithin_37 (by decide) ?_
        exact ih6 (k + 1) ls (show ((k + 1) ≤ min h (bN b q y) - lo) from (by omega)) (show min h (bN b q y) - lo - (k + 1) < min h (bN b q y) - lo - k from (by omega)) (lv_cons (x_at (lv_at hl 0 rfl) (by omega)) (lv_cons (x_at (lv_at hl 1 rfl) (by rw [cnt9_t (by rw [← relZ_k (by omega)]; exact hyes)]; rfl)) (lv_cons (lv_at hl 2 rfl) (lv_cons (lv_at hl 3 rfl) (lv_cons (lv_at hl 4 rfl) (lv_nil hl))))))
