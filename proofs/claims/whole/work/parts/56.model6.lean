def hldT (b : XB) (d : Int) (t : Nat) : Bool := (List.range t).any (fun k => decide ((bLD b k : Int) = d))
theorem hl_s (b : XB) (d : Int) (t : Nat) : hldT b d (t + 1) = (hldT b d t || decide ((bLD b t : Int) = d)) := by
  unfold hldT
  rw [List.range_succ, List.any_append]
  simp only [List.any_cons, List.any_nil, Bool.or_false]
theorem hl_t1 {b : XB} {d : Int} {t : Nat} (h : hldT b d t = true) : hldT b d (t + 1) = true := by rw [hl_s, h]; rfl
theorem hl_t2 {b : XB} {d : Int} {t : Nat} (h : (bLD b t : Int) = d) : hldT b d (t + 1) = true := by rw [hl_s, decide_eq_true h, Bool.or_true]
theorem hl_f {b : XB} {d : Int} {t : Nat} (h1 : ¬ hldT b d t = true) (h : ¬ ((bLD b t : Int) = d)) : ¬ hldT b d (t + 1) = true := by rw [hl_s, decide_eq_false h, Bool.or_false]; exact h1
set_option maxHeartbeats 4000000 in
set_option maxRecDepth 100000 in
theorem c_X4_isListed (l : Launch) (G : XG) (o : Nat) (b : XB) (th ov un : Int) (zd : Int) (hzd : -2147483648 ≤ zd ∧ zd < 2147483648) : MetI l yX4_isListed wsX4_isListed (rmF 0 0) (MPc G o b th ov un [.ref o, .int (zI zd)]) (bI (hldB b zd = true)) := by
  refine Met.ofW (cc := cX4_isListed) (maxL := 4) (ret := (some .boolean)) (by decide) rfl ?_
  intro p e s m args below meth c s₁ B hml hv
  obtain ⟨rfl, hW, hi, hK⟩ := hv
  have hx := B.exec
  have hb := B.bytes
  have hr := B.returns
  have hts := atoms_spec (ws := wsX4_isListed) B.pre
  have hown : s.vm.findClass RX4 = some m.cls := findClass_of_methodNamed B.named
  have hlocks := B.notSynchronized
  have hl := lv_entry ([.ref o, .int (zI zd)]) (n := 4) (Nat.le_of_ble_eq_true rfl)
  rw [lg_entry_eq]
  generalize (lg_sl ([.ref o, .int (zI zd)]) ++ List.replicate (4 - (lg_sl ([.ref o, .int (zI zd)])).length) Slot.unset).toArray = ls at hl ⊢
  have hl : lv_has ls 4 [(0, .ref o), (1, .int (zI zd))] := hl
  have hll := hi.l
  refine x_iconst hx hb dX4_isListed_0 ?_
  refine lv_istore_n (lv' := [(2, .int (zI 0)), (0, .ref o), (1, .int (zI zd))]) hx hb dX4_isListed_1 rfl hl (by decide) rfl (fun ls hl => ?_)
  refine x_iconst hx hb dX4_isListed_2 ?_
  refine lv_istore_n (lv' := [(3, .int (zI 0)), (2, .int (zI 0)), (0, .ref o), (1, .int (zI zd))]) hx hb dX4_isListed_3 rfl hl (by decide) rfl (fun ls hl => ?_)
  refine x_loop1 (fun (k : Nat) => (k ≤ bL b)) (fun (k : Nat) => bL b - k) (fun (k : Nat) => [(3, .int (zI (k : Int))), (2, .int (zI (bI (hldT b zd k = true)))), (0, .ref o), (1, .int (zI zd))]) (0) (show ((0) ≤ bL b) from (Nat.zero_le _)) (show lv_has ls 4 [(3, .int (zI ((0) : Int))), (2, .int (zI (bI (hldT b zd (0) = true)))), (0, .ref o), (1, .int (zI zd))] from (lv_cons (x_at (lv_at hl 0 rfl) (by omega)) (lv_cons (x_at (lv_at hl 1 rfl) ((bI_f (fun h => by cases h)).symm)) (lv_cons (lv_at hl 2 rfl) (lv_cons (lv_at hl 3 rfl) (lv_nil hl)))))) (fun k ls hI4 hl ih4 => ?_)
  have hk : k ≤ bL b := hI4
  have hl : lv_has ls 4 [(3, .int (zI (k : Int))), (2, .int (zI (bI (hldT b zd k = true)))), (0, .ref o), (1, .int (zI zd))] := hl
  refine lv_iload_n hx hb dX4_isListed_4 rfl (lv_at hl 0 rfl) ?_
  refine lv_aload_n hx hb dX4_isListed_5 rfl (lv_at hl 2 rfl) ?_
  refine x_get (ci := 4) (C := RX4) (T := TX4) (N := 10) (own := RX4) (index := 98) (v := .int (zI (bL b : Int))) hx hb hts (by decide +kernel) hown hK hW.ob rfl 3 (by decide) (by decide +kernel) rfl rfl dX4_isListed_6 ?_
  refine x_icmp_ge (tgt := 38) hx hb dX4_isListed_9 (by decide) (by omega) (fun h1 => ?_) (fun h2 => ?_)
  · refine lv_iload_n hx hb dX4_isListed_38 rfl (lv_at hl 1 rfl) ?_
    exact x_retB hx hb hr (by obtain rfl : k = bL b := (by omega); exact ⟨rfl, bI_rng _⟩) dX4_isListed_39 hlocks
  · refine lv_iload_n hx hb dX4_isListed_12 rfl (lv_at hl 1 rfl) ?_
    refine x_ifB_ne (tgt := 26) hx hb dX4_isListed_13 (by decide) (fun h3 => ?_) (fun h4 => ?_)
    · have hyp := h3
      refine x_iconst hx hb dX4_isListed_26 ?_
      refine lv_goto (tgt := 31) hx hb dX4_isListed_27 (by decide) ?_
      refine lv_istore_n (lv' := [(2, .int (zI 1)), (3, .int (zI (k : Int))), (0, .ref o), (1, .int (zI zd))]) hx hb dX4_isListed_31 rfl hl (by decide) rfl (fun ls hl => ?_)
      refine x_iinc (lv' := [(3, .int (zI ((k : Int) + 1))), (2, .int (zI 1)), (0, .ref o), (1, .int (zI zd))]) (k := 1) hx hb dX4_isListed_32 hl rfl (by decide) rfl (fun ls hl => ?_)
      refine lv_goto (tgt := 4) hx hb dX4_isListed_35 (by decide) ?_
      exact ih4 (k + 1) ls (show ((k + 1) ≤ bL b) from (by omega)) (show bL b - (k + 1) < bL b - k from (by omega)) (lv_cons (x_at (lv_at hl 0 rfl) (by omega)) (lv_cons (x_at (lv_at hl 1 rfl) (by first | exact (bI_t (hl_t1 (by assumption))).symm | exact (bI_t (hl_t2 (by omega))).symm)) (lv_cons (lv_at hl 2 rfl) (lv_cons (lv_at hl 3 rfl) (lv_nil hl)))))
    · have hnp := h4
      refine lv_aload_n hx hb dX4_isListed_16 rfl (lv_at hl 2 rfl) ?_
      refine x_get (ci := 4) (C := RX4) (T := TX4) (N := 10) (own := RX4) (index := 19) (v := .ref (o + 4)) hx hb hts (by decide +kernel) hown hK hW.ob rfl 4 (by decide) (by decide +kernel) rfl rfl dX4_isListed_17 ?_
      refine lv_iload_n hx hb dX4_isListed_20 rfl (lv_at hl 0 rfl) ?_
      refine x_iald hx hb hK hW.li (k) (by omega) (by omega) (by decide) dX4_isListed_21 ?_
      have hv5 := hi.ld (k)
      refine lv_iload_n hx hb dX4_isListed_22 rfl (lv_at hl 3 rfl) ?_
      refine x_icmp_ne (tgt := 30) hx hb dX4_isListed_23 (by decide) (by omega) (fun h6 => ?_) (fun h7 => ?_)
      · refine x_iconst hx hb dX4_isListed_30 ?_
        refine lv_istore_n (lv' := [(2, .int (zI 0)), (3, .int (zI (k : Int))), (0, .ref o), (1, .int (zI zd))]) hx hb dX4_isListed_31 rfl hl (by decide) rfl (fun ls hl => ?_)
        refine x_iinc (lv' := [(3, .int (zI ((k : Int) + 1))), (2, .int (zI 0)), (0, .ref o), (1, .int (zI zd))]) (k := 1) hx hb dX4_isListed_32 hl rfl (by decide) rfl (fun ls hl => ?_)
        refine lv_goto (tgt := 4) hx hb dX4_isListed_35 (by decide) ?_
        exact ih4 (k + 1) ls (show ((k + 1) ≤ bL b) from (by omega)) (show bL b - (k + 1) < bL b - k from (by omega)) (lv_cons (x_at (lv_at hl 0 rfl) (by omega)) (lv_cons (x_at (lv_at hl 1 rfl) ((bI_f (hl_f hnp (by omega))).symm)) (lv_cons (lv_at hl 2 rfl) (lv_cons (lv_at hl 3 rfl) (lv_nil hl)))))
      · refine x_iconst hx hb dX4_isListed_26 ?_
        refine lv_goto (tgt := 31) hx hb dX4_isListed_27 (by decide) ?_
        refine lv_istore_n (lv' := [(2, .int (zI 1)), (3, .int (zI (k : Int))), (0, .ref o), (1, .int (zI zd))]) hx hb dX4_isListed_31 rfl hl (by decide) rfl (fun ls hl => ?_)
        refine x_iinc (lv' := [(3, .int (zI ((k : Int) + 1))), (2, .int (zI 1)), (0, .ref o), (1, .int (zI zd))]) (k := 1) hx hb dX4_isListed_32 hl rfl (by decide) rfl (fun ls hl => ?_)
        refine lv_goto (tgt := 4) hx hb dX4_isListed_35 (by decide) ?_
        exact ih4 (k + 1) ls (show ((k + 1) ≤ bL b) from (by omega)) (show bL b - (k + 1) < bL b - k from (by omega)) (lv_cons (x_at (lv_at hl 0 rfl) (by omega)) (lv_cons (x_at (lv_at hl 1 rfl) (by first | exact (bI_t (hl_t1 (by assumption))).symm | exact (bI_t (hl_t2 (by omega))).symm)) (lv_cons (lv_at hl 2 rfl) (lv_cons (lv_at hl 3 rfl) (lv_nil hl)))))
def gvB (b : XB) (q y g : Nat) : XB := if tkF b q y < bN b q y then bAdd b (bD b q y (tkF b q y)) g else b
theorem gv_at {b : XB} {q y g k : Nat} (hk : k < bN b q y) (h : ∀ j, j < k → tkP b q y j = false) (he : tkP b q y k = true) : tkF b q y = k ∧ gvB b q y g = bAdd b (bD b q y k) g := by
  have e : tkF b q y = k := fst9_uniq (P := tkP b q y) (i := 0) (f := bN b q y) (k := k) (Nat.zero_le _) (fun j _ hj => h j hj) (Or.inr ⟨by omega, he⟩)
  exact ⟨e, by rw [gvB, e, if_pos hk]⟩
theorem gv_no {b : XB} {q y g : Nat} (h : ∀ k, k < bN b q y → tkP b q y k = false) : tkF b q y = bN b q y ∧ gvB b q y g = b := by
  have e : tkF b q y = bN b q y := fst9_uniq (P := tkP b q y) (i := 0) (f := bN b q y) (k := bN b q y) (Nat.zero_le _) (fun j _ hj => h j hj) (Or.inl (Nat.zero_add _).symm)
  exact ⟨e, by rw [gvB, e, if_neg (Nat.lt_irrefl _)]⟩
theorem tk_eq {b : XB} {d : Int} {q y k : Nat} (hd : (bD b q y k : Int) = d) : tkP b q y k = !hldB b d := by rw [tkP, hd]
theorem gvB_inv {b : XB} (hi : bInv b) {q y g : Nat} (hl : bL b < 20) (hg : g < 4) : bInv (gvB b q y g) := by
  unfold gvB
  split
  · exact bAdd_inv hi hl (hi.d q y _) hg
  · exact hi
set_option maxHeartbeats 4000000 in
set_option maxRecDepth 100000 in
theorem c_X4_gives (l : Launch) (G : XG) (o : Nat) (b : XB) (th ov un : Int) (q y : Nat) (hq : q < 8) (hy : y < 4) (zs zq : Int) (hzs : zs = (y : Int)) (hzq : zq = (q : Int)) (hlt : bL b < 20) : MetWI l yX4_gives wsX4_gives (rmF 1 23) (MPc G o b th ov un [.ref o, .int (zI zs), .int (zI zq)]) (bI (tkF b q y < bN b q y)) (fun H => MW G o (gvB b q y y) th ov un H) (mA o) := by
  refine Met.ofW (cc := cX4_gives) (maxL := 5) (ret := (some .boolean)) (by decide) rfl ?_
  intro p e s m args below meth c s₁ B hml hv
  obtain ⟨rfl, hW, hi, hK⟩ := hv
  have hx := B.exec
  have hb := B.bytes
  have hr := B.returns
  have hts := atoms_spec (ws := wsX4_gives) B.pre
  have hown : s.vm.findClass RX4 = some m.cls := findClass_of_methodNamed B.named
  have hlocks := B.notSynchronized
  have hl := lv_entry ([.ref o, .int (zI zs), .int (zI zq)]) (n := 5) (Nat.le_of_ble_eq_true rfl)
  rw [lg_entry_eq]
  generalize (lg_sl ([.ref o, .int (zI zs), .int (zI zq)]) ++ List.replicate (5 - (lg_sl ([.ref o, .int (zI zs), .int (zI zq)])).length) Slot.unset).toArray = ls at hl ⊢
  have hl : lv_has ls 5 [(0, .ref o), (1, .int (zI zs)), (2, .int (zI zq))] := hl
  have hS : va_S (mA o) s.heap s.heap [] := va_S.rf
  have hn20 := hi.n q y
  have hll := hi.l
  refine lv_bipush (v := zI 8) hx hb dX4_gives_0 (by decide +kernel) ?_
  refine lv_iload_n hx hb dX4_gives_2 rfl (lv_at hl 1 rfl) ?_
  refine x_imul hx hb dX4_gives_3 ?_
  refine lv_iload_n hx hb dX4_gives_4 rfl (lv_at hl 2 rfl) ?_
  refine x_iadd hx hb dX4_gives_5 ?_
  refine lv_istore_n (lv' := [(3, .int (zI ((8 * zs) + zq))), (0, .ref o), (1, .int (zI zs)), (2, .int (zI zq))]) hx hb dX4_gives_6 rfl hl (by decide) rfl (fun ls hl => ?_)
  refine x_iconst hx hb dX4_gives_7 ?_
  refine lv_istore (lv' := [(4, .int (zI 0)), (3, .int (zI ((8 * zs) + zq))), (0, .ref o), (1, .int (zI zs)), (2, .int (zI zq))]) hx hb dX4_gives_8 hl (by decide) rfl (fun ls hl => ?_)
  refine x_loop1 (fun (k : Nat) => (k ≤ bN b q y) ∧ (∀ j, j < k → tkP b q y j = false)) (fun (k : Nat) => bN b q y - k) (fun (k : Nat) => [(4, .int (zI (k : Int))), (0, .ref o), (3, .int (zI ((8 * (y : Int)) + (q : Int)))), (1, .int (zI zs))]) (0) (show ((0) ≤ bN b q y) ∧ (∀ j, j < (0) → tkP b q y j = false) from ⟨(Nat.zero_le _), (fun j hj => absurd hj (Nat.not_lt_zero _))⟩) (show lv_has ls 5 [(4, .int (zI ((0) : Int))), (0, .ref o), (3, .int (zI ((8 * (y : Int)) + (q : Int)))), (1, .int (zI zs))] from (lv_cons (x_at (lv_at hl 0 rfl) (by omega)) (lv_cons (lv_at hl 2 rfl) (lv_cons (x_at (lv_at hl 1 rfl) (by omega)) (lv_cons (lv_at hl 3 rfl) (lv_nil hl)))))) (fun k ls hI10 hl ih10 => ?_)
  obtain ⟨hk, hm⟩ : (k ≤ bN b q y) ∧ (∀ j, j < k → tkP b q y j = false) := hI10
  have hl : lv_has ls 5 [(4, .int (zI (k : Int))), (0, .ref o), (3, .int (zI ((8 * (y : Int)) + (q : Int)))), (1, .int (zI zs))] := hl
  refine lv_iload hx hb dX4_gives_10 (lv_at hl 0 rfl) ?_
  refine lv_aload_n hx hb dX4_gives_12 rfl (lv_at hl 1 rfl) ?_
  refine x_get (ci := 4) (C := RX4) (T := TX4) (N := 10) (own := RX4) (index := 7) (v := .ref (o + 1)) hx hb hts (by decide +kernel) hown hK hW.ob rfl 0 (by decide) (by decide +kernel) rfl rfl dX4_gives_13 ?_
  refine lv_iload_n hx hb dX4_gives_16 rfl (lv_at hl 2 rfl) ?_
  refine x_iald hx hb hK hW.le (8 * y + q) (by omega) (by omega) (by decide) dX4_gives_17 ?_
  have hv1 := mN_at b (q := q) (y := y) (by omega)
  refine x_icmp_ge (tgt := 49) hx hb dX4_gives_18 (by decide) (by omega) (fun h2 => ?_) (fun h3 => ?_)
  · refine lv_iload hx hb dX4_gives_49 (lv_at hl 0 rfl) ?_
    refine lv_aload_n hx hb dX4_gives_51 rfl (lv_at hl 1 rfl) ?_
    refine x_get (ci := 4) (C := RX4) (T := TX4) (N := 10) (own := RX4) (index := 7) (v := .ref (o + 1)) hx hb hts (by decide +kernel) hown hK hW.ob rfl 0 (by decide) (by decide +kernel) rfl rfl dX4_gives_52 ?_
    refine lv_iload_n hx hb dX4_gives_55 rfl (lv_at hl 2 rfl) ?_
    refine x_iald hx hb hK hW.le (8 * y + q) (by omega) (by omega) (by decide) dX4_gives_56 ?_
    have hv4 := mN_at b (q := q) (y := y) (by omega)
    refine x_icmp_ne (tgt := 62) hx hb dX4_gives_57 (by decide) (by omega) (fun h5 => ?_) (fun h6 => ?_)
    · refine lv_aload_n hx hb dX4_gives_62 rfl (lv_at hl 1 rfl) ?_
      refine x_get (ci := 4) (C := RX4) (T := TX4) (N := 10) (own := RX4) (index := 19) (v := .ref (o + 4)) hx hb hts (by decide +kernel) hown hK hW.ob rfl 4 (by decide) (by decide +kernel) rfl rfl dX4_gives_63 ?_
      refine lv_aload_n hx hb dX4_gives_66 rfl (lv_at hl 1 rfl) ?_
      refine x_get (ci := 4) (C := RX4) (T := TX4) (N := 10) (own := RX4) (index := 98) (v := .int (zI (bL b : Int))) hx hb hts (by decide +kernel) hown hK hW.ob rfl 3 (by decide) (by decide +kernel) rfl rfl dX4_gives_67 ?_
      refine lv_aload_n hx hb dX4_gives_70 rfl (lv_at hl 1 rfl) ?_
      refine x_get (ci := 4) (C := RX4) (T := TX4) (N := 10) (own := RX4) (index := 13) (v := .ref (o + 2)) hx hb hts (by decide +kernel) hown hK hW.ob rfl 1 (by decide) (by decide +kernel) rfl rfl dX4_gives_71 ?_
      refine lv_bipush (v := zI 20) hx hb dX4_gives_74 (by decide +kernel) ?_
      refine lv_iload_n hx hb dX4_gives_76 rfl (lv_at hl 2 rfl) ?_
      refine x_imul hx hb dX4_gives_77 ?_
      refine lv_iload hx hb dX4_gives_78 (lv_at hl 0 rfl) ?_
      refine x_iadd hx hb dX4_gives_80 ?_
      refine x_iald hx hb hK hW.ro (20 * (8 * y + q) + k) (by omega) (by omega) (by decide) dX4_gives_81 ?_
      have hv7 := mR_at hi (b := b) (q := q) (y := y) (k := k) (by omega) (by omega)
      refine lv_bipush (v := zI 64) hx hb dX4_gives_82 (by decide +kernel) ?_
      refine x_irem hx hb (by omega) (by omega) dX4_gives_84 ?_
      refine x_iast hx hb hK hW.li hS ⟨by omega, by omega⟩ (bL b) (by omega) (by omega) (by decide) dX4_gives_85 (fun H1 locs1 h1 hz1 hn1 hS => ?_)
      have hW := hW.putLi (k := bL b) (v := bD b q y k) (by omega) h1 hn1
      refine lv_aload_n hx hb dX4_gives_86 rfl (lv_at hl 1 rfl) ?_
      refine x_get (ci := 4) (C := RX4) (T := TX4) (N := 10) (own := RX4) (index := 22) (v := .ref (o + 5)) hx hb hts (by decide +kernel) hown hK hW.ob rfl 5 (by decide) (by decide +kernel) rfl rfl dX4_gives_87 ?_
      refine lv_aload_n hx hb dX4_gives_90 rfl (lv_at hl 1 rfl) ?_
      refine x_get (ci := 4) (C := RX4) (T := TX4) (N := 10) (own := RX4) (index := 98) (v := .int (zI (bL b : Int))) hx hb hts (by decide +kernel) hown hK hW.ob rfl 3 (by decide) (by decide +kernel) rfl rfl dX4_gives_91 ?_
      refine lv_iload_n hx hb dX4_gives_94 rfl (lv_at hl 3 rfl) ?_
      refine x_iast hx hb hK hW.gi hS ⟨by omega, by omega⟩ (bL b) (by omega) (by omega) (by decide) dX4_gives_95 (fun H1 locs1 h1 hz1 hn1 hS => ?_)
      have hW := hW.putG (k := bL b) (v := y) (by omega) h1 hn1
      refine lv_aload_n hx hb dX4_gives_96 rfl (lv_at hl 1 rfl) ?_
      refine x_get (ci := 4) (C := RX4) (T := TX4) (N := 10) (own := RX4) (index := 25) (v := .ref (o + 6)) hx hb hts (by decide +kernel) hown hK hW.ob rfl 6 (by decide) (by decide +kernel) rfl rfl dX4_gives_97 ?_
      refine lv_aload_n hx hb dX4_gives_100 rfl (lv_at hl 1 rfl) ?_
      refine x_get (ci := 4) (C := RX4) (T := TX4) (N := 10) (own := RX4) (index := 98) (v := .int (zI (bL b : Int))) hx hb hts (by decide +kernel) hown hK hW.ob rfl 3 (by decide) (by decide +kernel) rfl rfl dX4_gives_101 ?_
      refine x_iconst hx hb dX4_gives_104 ?_
      refine x_iast hx hb hK hW.ck hS ⟨by omega, by omega⟩ (bL b) (by omega) (by omega) (by decide) dX4_gives_105 (fun H1 locs1 h1 hz1 hn1 hS => ?_)
      have hW := hW.putK (k := bL b) (v := 0) (by omega) h1 hn1
      refine lv_aload_n hx hb dX4_gives_106 rfl (lv_at hl 1 rfl) ?_
      refine lv_dup hx hb dX4_gives_107 rfl ?_
      refine x_get (ci := 4) (C := RX4) (T := TX4) (N := 10) (own := RX4) (index := 98) (v := .int (zI (bL b : Int))) hx hb hts (by decide +kernel) hown hK hW.ob rfl 3 (by decide) (by decide +kernel) rfl rfl dX4_gives_108 ?_
      refine x_iconst hx hb dX4_gives_111 ?_
      refine x_iadd hx hb dX4_gives_112 ?_
      refine x_put (ci := 4) (C := RX4) (T := TX4) (N := 10) (own := RX4) (index := 98) hx hb hts (by decide +kernel) tyX4 tyX4_ok nmX4 hown hK hW.ob hS ⟨by omega, by omega⟩ rfl 3 (by decide) (by decide +kernel) rfl rfl rfl rfl (Nat.le_of_ble_eq_true rfl) dX4_gives_113 (fun H1 locs1 h1 hz1 hn1 hS => ?_)
      have hW := hW.putC (v := bL b + 1) (show ((bL b : Int) + 1) = ((bL b + 1 : Nat) : Int) from by omega) h1 hn1
      refine x_iconst hx hb dX4_gives_116 ?_
      have hg9 := gv_at (b := b) (q := q) (y := y) (g := y) (k := k) (by omega) hm (by first | (exfalso; omega) | (rw [tk_eq (d := ((mR b (20 * (8 * y + q) + k) : Int) % 64)) (by omega), bne9 hno]; rfl))
      rw [hg9.2]
      exact W.zret hx hb hr (x_nar (by omega)) (fun t ht _ => ⟨⟨_, (), rfl, congrArg zI ((bI_t (by omega)).symm), _, ht, hW⟩, hS.F ht⟩) hS.2.2 dX4_gives_117
    · refine x_iconst hx hb dX4_gives_60 ?_
      have hg9 := gv_no (b := b) (q := q) (y := y) (g := y) (fun j hj => hm j (by omega))
      rw [hg9.2]
      exact W.zret hx hb hr (x_nar (by omega)) (fun t ht _ => ⟨⟨_, (), rfl, congrArg zI ((bI_f (by omega)).symm), _, ht, hW⟩, hS.F ht⟩) hS.2.2 dX4_gives_61
  · refine lv_aload_n hx hb dX4_gives_21 rfl (lv_at hl 1 rfl) ?_
    refine lv_aload_n hx hb dX4_gives_22 rfl (lv_at hl 1 rfl) ?_
    refine x_get (ci := 4) (C := RX4) (T := TX4) (N := 10) (own := RX4) (index := 13) (v := .ref (o + 2)) hx hb hts (by decide +kernel) hown hK hW.ob rfl 1 (by decide) (by decide +kernel) rfl rfl dX4_gives_23 ?_
    refine lv_bipush (v := zI 20) hx hb dX4_gives_26 (by decide +kernel) ?_
    refine lv_iload_n hx hb dX4_gives_28 rfl (lv_at hl 2 rfl) ?_
    refine x_imul hx hb dX4_gives_29 ?_
    refine lv_iload hx hb dX4_gives_30 (lv_at hl 0 rfl) ?_
    refine x_iadd hx hb dX4_gives_32 ?_
    refine x_iald hx hb hK hW.ro (20 * (8 * y + q) + k) (by omega) (by omega) (by decide) dX4_gives_33 ?_
    have hv8 := mR_at hi (b := b) (q := q) (y := y) (k := k) (by omega) (by omega)
    refine lv_bipush (v := zI 64) hx hb dX4_gives_34 (by decide +kernel) ?_
    refine x_irem hx hb (by omega) (by omega) dX4_gives_36 ?_
    refine x_cI (va_runV (As := [.int (zI ((mR b (20 * (8 * y + q) + k) : Int) % 64))]) (rest := []) ⟨hx, hb, hml, hown, hts⟩ (c_X4_isListed l G o b th ov un ((mR b (20 * (8 * y + q) + k) : Int) % 64) (by omega)) (cwV 1 hts gX4_gives_X4_isListed rfl rfl rfl (by decide +kernel) ⟨Nat.le_of_ble_eq_true rfl, Nat.le_of_ble_eq_true rfl⟩) (x_preM hW hi hK) rfl rfl hl.1 rfl (lv_room (Nat.le_of_ble_eq_true rfl)) dX4_gives_37 ⟨Nat.le_of_ble_eq_true rfl, Nat.le_of_ble_eq_true rfl⟩) ?_
    refine x_ifB_eq (tgt := 49) hx hb dX4_gives_40 (by decide) (fun h9 => ?_) (fun h10 => ?_)
    · have hno := h9
      refine lv_iload hx hb dX4_gives_49 (lv_at hl 0 rfl) ?_
      refine lv_aload_n hx hb dX4_gives_51 rfl (lv_at hl 1 rfl) ?_
      refine x_get (ci := 4) (C := RX4) (T := TX4) (N := 10) (own := RX4) (index := 7) (v := .ref (o + 1)) hx hb hts (by decide +kernel) hown hK hW.ob rfl 0 (by decide) (by decide +kernel) rfl rfl dX4_gives_52 ?_
      refine lv_iload_n hx hb dX4_gives_55 rfl (lv_at hl 2 rfl) ?_
      refine x_iald hx hb hK hW.le (8 * y + q) (by omega) (by omega) (by decide) dX4_gives_56 ?_
      have hv11 := mN_at b (q := q) (y := y) (by omega)
      refine x_icmp_ne (tgt := 62) hx hb dX4_gives_57 (by decide) (by omega) (fun h12 => ?_) (fun h13 => ?_)
      · refine lv_aload_n hx hb dX4_gives_62 rfl (lv_at hl 1 rfl) ?_
        refine x_get (ci := 4) (C := RX4) (T := TX4) (N := 10) (own := RX4) (index := 19) (v := .ref (o + 4)) hx hb hts (by decide +kernel) hown hK hW.ob rfl 4 (by decide) (by decide +kernel) rfl rfl dX4_gives_63 ?_
        refine lv_aload_n hx hb dX4_gives_66 rfl (lv_at hl 1 rfl) ?_
        refine x_get (ci := 4) (C := RX4) (T := TX4) (N := 10) (own := RX4) (index := 98) (v := .int (zI (bL b : Int))) hx hb hts (by decide +kernel) hown hK hW.ob rfl 3 (by decide) (by decide +kernel) rfl rfl dX4_gives_67 ?_
        refine lv_aload_n hx hb dX4_gives_70 rfl (lv_at hl 1 rfl) ?_
        refine x_get (ci := 4) (C := RX4) (T := TX4) (N := 10) (own := RX4) (index := 13) (v := .ref (o + 2)) hx hb hts (by decide +kernel) hown hK hW.ob rfl 1 (by decide) (by decide +kernel) rfl rfl dX4_gives_71 ?_
        refine lv_bipush (v := zI 20) hx hb dX4_gives_74 (by decide +kernel) ?_
        refine lv_iload_n hx hb dX4_gives_76 rfl (lv_at hl 2 rfl) ?_
        refine x_imul hx hb dX4_gives_77 ?_
        refine lv_iload hx hb dX4_gives_78 (lv_at hl 0 rfl) ?_
        refine x_iadd hx hb dX4_gives_80 ?_
        refine x_iald hx hb hK hW.ro (20 * (8 * y + q) + k) (by omega) (by omega) (by decide) dX4_gives_81 ?_
        have hv14 := mR_at hi (b := b) (q := q) (y := y) (k := k) (by omega) (by omega)
        refine lv_bipush (v := zI 64) hx hb dX4_gives_82 (by decide +kernel) ?_
        refine x_irem hx hb (by omega) (by omega) dX4_gives_84 ?_
        refine x_iast hx hb hK hW.li hS ⟨by omega, by omega⟩ (bL b) (by omega) (by omega) (by decide) dX4_gives_85 (fun H1 locs1 h1 hz1 hn1 hS => ?_)
        have hW := hW.putLi (k := bL b) (v := bD b q y k) (by omega) h1 hn1
        refine lv_aload_n hx hb dX4_gives_86 rfl (lv_at hl 1 rfl) ?_
        refine x_get (ci := 4) (C := RX4) (T := TX4) (N := 10) (own := RX4) (index := 22) (v := .ref (o + 5)) hx hb hts (by decide +kernel) hown hK hW.ob rfl 5 (by decide) (by decide +kernel) rfl rfl dX4_gives_87 ?_
        refine lv_aload_n hx hb dX4_gives_90 rfl (lv_at hl 1 rfl) ?_
        refine x_get (ci := 4) (C := RX4) (T := TX4) (N := 10) (own := RX4) (index := 98) (v := .int (zI (bL b : Int))) hx hb hts (by decide +kernel) hown hK hW.ob rfl 3 (by decide) (by decide +kernel) rfl rfl dX4_gives_91 ?_
        refine lv_iload_n hx hb dX4_gives_94 rfl (lv_at hl 3 rfl) ?_
        refine x_iast hx hb hK hW.gi hS ⟨by omega, by omega⟩ (bL b) (by omega) (by omega) (by decide) dX4_gives_95 (fun H1 locs1 h1 hz1 hn1 hS => ?_)
        have hW := hW.putG (k := bL b) (v := y) (by omega) h1 hn1
        refine lv_aload_n hx hb dX4_gives_96 rfl (lv_at hl 1 rfl) ?_
        refine x_get (ci := 4) (C := RX4) (T := TX4) (N := 10) (own := RX4) (index := 25) (v := .ref (o + 6)) hx hb hts (by decide +kernel) hown hK hW.ob rfl 6 (by decide) (by decide +kernel) rfl rfl dX4_gives_97 ?_
        refine lv_aload_n hx hb dX4_gives_100 rfl (lv_at hl 1 rfl) ?_
        refine x_get (ci := 4) (C := RX4) (T := TX4) (N := 10) (own := RX4) (index := 98) (v := .int (zI (bL b : Int))) hx hb hts (by decide +kernel) hown hK hW.ob rfl 3 (by decide) (by decide +kernel) rfl rfl dX4_gives_101 ?_
        refine x_iconst hx hb dX4_gives_104 ?_
        refine x_iast hx hb hK hW.ck hS ⟨by omega, by omega⟩ (bL b) (by omega) (by omega) (by decide) dX4_gives_105 (fun H1 locs1 h1 hz1 hn1 hS => ?_)
        have hW := hW.putK (k := bL b) (v := 0) (by omega) h1 hn1
        refine lv_aload_n hx hb dX4_gives_106 rfl (lv_at hl 1 rfl) ?_
        refine lv_dup hx hb dX4_gives_107 rfl ?_
        refine x_get (ci := 4) (C := RX4) (T := TX4) (N := 10) (own := RX4) (index := 98) (v := .int (zI (bL b : Int))) hx hb hts (by decide +kernel) hown hK hW.ob rfl 3 (by decide) (by decide +kernel) rfl rfl dX4_gives_108 ?_
        refine x_iconst hx hb dX4_gives_111 ?_
        refine x_iadd hx hb dX4_gives_112 ?_
        refine x_put (ci := 4) (C := RX4) (T := TX4) (N := 10) (own := RX4) (index := 98) hx hb hts (by decide +kernel) tyX4 tyX4_ok nmX4 hown hK hW.ob hS ⟨by omega, by omega⟩ rfl 3 (by decide) (by decide +kernel) rfl rfl rfl rfl (Nat.le_of_ble_eq_true rfl) dX4_gives_113 (fun H1 locs1 h1 hz1 hn1 hS => ?_)
        have hW := hW.putC (v := bL b + 1) (show ((bL b : Int) + 1) = ((bL b + 1 : Nat) : Int) from by omega) h1 hn1
        refine x_iconst hx hb dX4_gives_116 ?_
        have hg9 := gv_at (b := b) (q := q) (y := y) (g := y) (k := k) (by omega) hm (by first | (exfalso; omega) | (rw [tk_eq (d := ((mR b (20 * (8 * y + q) + k) : Int) % 64)) (by omega), bne9 hno]; rfl))
        rw [hg9.2]
        exact W.zret hx hb hr (x_nar (by omega)) (fun t ht _ => ⟨⟨_, (), rfl, congrArg zI ((bI_t (by omega)).symm), _, ht, hW⟩, hS.F ht⟩) hS.2.2 dX4_gives_117
      · refine x_iconst hx hb dX4_gives_60 ?_
        have hg9 := gv_no (b := b) (q := q) (y := y) (g := y) (fun j hj => hm j (by omega))
        rw [hg9.2]
        exact W.zret hx hb hr (x_nar (by omega)) (fun t ht _ => ⟨⟨_, (), rfl, congrArg zI ((bI_f (by omega)).symm), _, ht, hW⟩, hS.F ht⟩) hS.2.2 dX4_gives_61
    · have hyes := h10
      refine x_iinc (lv' := [(4, .int (zI ((k : Int) + 1))), (0, .ref o), (3, .int (zI ((8 * (y : Int)) + (q : Int)))), (1, .int (zI zs))]) (k := 0) hx hb dX4_gives_43 hl rfl (by decide) rfl (fun ls hl => ?_)
      refine lv_goto (tgt := 10) hx hb dX4_gives_46 (by decide) ?_
      exact ih10 (k + 1) ls (show ((k + 1) ≤ bN b q y) ∧ (∀ j, j < (k + 1) → tkP b q y j = false) from ⟨(by omega), (lt_s hm (by rw [tk_eq (d := ((mR b (20 * (8 * y + q) + k) : Int) % 64)) (by omega), hyes]; rfl))⟩) (show bN b q y - (k + 1) < bN b q y - k from (by omega)) (lv_cons (x_at (lv_at hl 0 rfl) (by omega)) (lv_cons (lv_at hl 1 rfl) (lv_cons (lv_at hl 2 rfl) (lv_cons (lv_at hl 3 rfl) (lv_nil hl)))))
def tn (y1 y2 n : Nat) : Nat := if n % 2 = 0 then y1 else y2
theorem tn_1 {y1 y2 n : Nat} (h : tn y1 y2 n = y1) (hne : ¬ y1 = y2) : y2 = tn y1 y2 (n + 1) := by
  unfold tn at h ⊢
  split at h
  · rw [if_neg (by omega)]
  · exact absurd h.symm hne
theorem tn_2 {y1 y2 n : Nat} (h : ¬ tn y1 y2 n = y1) : y1 = tn y1 y2 (n + 1) := by
  unfold tn at h ⊢
  split at h
  · exact absurd rfl h
  · rw [if_pos (by omega)]
theorem tn_lt {y1 y2 n : Nat} (h1 : y1 < 4) (h2 : y2 < 4) : tn y1 y2 n < 4 := by unfold tn; split <;> omega
theorem tn_2n (y1 y2 n : Nat) : tn y1 y2 (n + 2) = tn y1 y2 n := by unfold tn; rw [Nat.add_mod_right]
/-- turn by turn -/
def altB (b : XB) (q y1 y2 : Nat) (lim : Int) : Nat → XB
  | 0 => uL b 0
  | n + 1 => tkB (altB b q y1 y2 lim n) lim q (tn y1 y2 n) (tn y1 y2 n)
theorem alt_cr (b : XB) (q y1 y2 : Nat) (lim : Int) : ∀ k, crI b q y1 y2 lim k = altB b q y1 y2 lim (2 * k)
  | 0 => rfl
  | k + 1 => by
    rw [crI, alt_cr b q y1 y2 lim k, show 2 * (k + 1) = 2 * k + 1 + 1 from by omega, altB, altB]
    have e1 : tn y1 y2 (2 * k) = y1 := if_pos (by omega)
    have e2 : tn y1 y2 (2 * k + 1) = y2 := if_neg (by omega)
    rw [e1, e2]
theorem alt_inv {b : XB} (hi : bInv b) {q y1 y2 : Nat} {lim : Int} (hl : lim ≤ 20) (h1 : y1 < 4) (h2 : y2 < 4) : ∀ n, bInv (altB b q y1 y2 lim n)
  | 0 => uL_inv hi (by omega)
  | n + 1 => tkB_inv (alt_inv hi hl h1 h2 n) hl (tn_lt h1 h2)
theorem gv_tk {b : XB} {lim : Int} {q y g : Nat} (h : (bL b : Int) < lim) : gvB b q y g = tkB b lim q y g := by
  unfold gvB tkB
  by_cases hh : tkF b q y < bN b q y
  · rw [if_pos hh, if_pos ⟨h, hh⟩]
  · rw [if_neg hh, if_neg (fun x => hh x.2)]
theorem alt_s {b : XB} {q y1 y2 n : Nat} {lim : Int} (h : (bL (altB b q y1 y2 lim n) : Int) < lim) : altB b q y1 y2 lim (n + 1) = gvB (altB b q y1 y2 lim n) q (tn y1 y2 n) (tn y1 y2 n) := by rw [altB, gv_tk h]
theorem gv_L {b : XB} {q y g : Nat} : (tkF b q y < bN b q y → bL (gvB b q y g) = bL b + 1) ∧ (¬ tkF b q y < bN b q y → gvB b q y g = b) := ⟨fun h => by rw [gvB, if_pos h]; rfl, fun h => by rw [gvB, if_neg h]⟩
theorem alt_full {b : XB} {q y1 y2 n : Nat} {lim : Int} (h : lim ≤ (bL (altB b q y1 y2 lim n) : Int)) : ∀ m, altB b q y1 y2 lim (n + m) = altB b q y1 y2 lim n
  | 0 => rfl
  | m + 1 => by
    have ih := alt_full h m
    rw [← Nat.add_assoc, altB, ih]
    exact tk_full h
theorem alt_fix {b : XB} {q y1 y2 n : Nat} {lim : Int} (h1 : altB b q y1 y2 lim (n + 1) = altB b q y1 y2 lim n) (h2 : altB b q y1 y2 lim (n + 2) = altB b q y1 y2 lim (n + 1)) : ∀ m, altB b q y1 y2 lim (n + 2 + m) = altB b q y1 y2 lim (n + 2)
  | 0 => rfl
  | m + 1 => by
    have ih := alt_fix h1 h2 m
    rw [← Nat.add_assoc, altB, ih]
    have e0 : altB b q y1 y2 lim (n + 2) = altB b q y1 y2 lim n := h2.trans h1
    have f1 : tkB (altB b q y1 y2 lim n) lim q (tn y1 y2 n) (tn y1 y2 n) = altB b q y1 y2 lim n := h1
    have f2 : tkB (altB b q y1 y2 lim n) lim q (tn y1 y2 (n + 1)) (tn y1 y2 (n + 1)) = altB b q y1 y2 lim n := by
      have := h2
      rw [h1, show n + 2 = n + 1 + 1 from rfl, altB, h1] at this
      exact this
    rw [e0]
    rcases Nat.mod_two_eq_zero_or_one m with a | a
    · have e : tn y1 y2 (n + 2 + m) = tn y1 y2 n := by unfold tn; rw [show (n + 2 + m) % 2 = n % 2 from by omega]
      rw [e, f1]
    · have e : tn y1 y2 (n + 2 + m) = tn y1 y2 (n + 1) := by unfold tn; rw [show (n + 2 + m) % 2 = (n + 1) % 2 from by omega]
      rw [e, f2]
def crJ (b : XB) (q y1 y2 : Nat) (lim : Nat) (n p : Nat) : Prop := n ≤ 2 * bL (altB b q y1 y2 lim n) + p ∧ p ≤ 2 ∧ bL (altB b q y1 y2 lim n) ≤ lim ∧ (bL (altB b q y1 y2 lim n) < lim ∨ p = 0) ∧ (1 ≤ p → 1 ≤ n ∧ altB b q y1 y2 lim n = altB b q y1 y2 lim (n - 1)) ∧ (p = 2 → 2 ≤ n ∧ altB b q y1 y2 lim (n - 1) = altB b q y1 y2 lim (n - 2))
theorem crJ_0 {b : XB} {q y1 y2 lim : Nat} (hl : 1 ≤ lim) : crJ b q y1 y2 lim 0 0 := by
  have e : bL (altB b q y1 y2 lim 0) = 0 := rfl
  exact ⟨by omega, by omega, by omega, by omega, fun h => absurd h (by omega), fun h => absurd h (by omega)⟩
theorem crJ_t {b : XB} {q y1 y2 lim n p : Nat} (h : crJ b q y1 y2 lim n p) (hb : bL (altB b q y1 y2 lim n) < lim) (hp : p < 2) (hg : tkF (altB b q y1 y2 lim n) q (tn y1 y2 n) < bN (altB b q y1 y2 lim n) q (tn y1 y2 n)) : crJ b q y1 y2 lim (n + 1) 0 ∧ bL (altB b q y1 y2 lim (n + 1)) = bL (altB b q y1 y2 lim n) + 1 := by
  have e : bL (altB b q y1 y2 lim (n + 1)) = bL (altB b q y1 y2 lim n) + 1 := by rw [alt_s (by omega)]; exact gv_L.1 hg
  obtain ⟨h1, h2, h3, h4, h5, h6⟩ := h
  exact ⟨⟨by omega, by omega, by omega, by omega, fun h => absurd h (by omega), fun h => absurd h (by omega)⟩, e⟩
theorem crJ_f {b : XB} {q y1 y2 lim n p : Nat} (h : crJ b q y1 y2 lim n p) (hb : bL (altB b q y1 y2 lim n) < lim) (hp : p < 2) (hg : ¬ tkF (altB b q y1 y2 lim n) q (tn y1 y2 n) < bN (altB b q y1 y2 lim n) q (tn y1 y2 n)) : crJ b q y1 y2 lim (n + 1) (p + 1) ∧ bL (altB b q y1 y2 lim (n + 1)) = bL (altB b q y1 y2 lim n) := by
  have e : altB b q y1 y2 lim (n + 1) = altB b q y1 y2 lim n := by rw [alt_s (by omega)]; exact gv_L.2 hg
  obtain ⟨h1, h2, h3, h4, h5, h6⟩ := h
  refine ⟨⟨by rw [e]; omega, by omega, by rw [e]; exact h3, by rw [e]; exact Or.inl hb, fun _ => ⟨by omega, by rw [Nat.add_sub_cancel]; exact e⟩, fun h2 => ?_⟩, by rw [e]⟩
  obtain ⟨g1, g2⟩ := h5 (by omega)
  exact ⟨by omega, by rw [Nat.add_sub_cancel, show n + 1 - 2 = n - 1 from by omega]; exact g2⟩
theorem crJ_end {b : XB} {q y1 y2 lim n p : Nat} (h : crJ b q y1 y2 lim n p) (he : lim ≤ bL (altB b q y1 y2 lim n) ∨ 2 ≤ p) : crB b q y1 y2 (lim : Int) = altB b q y1 y2 lim n := by
  obtain ⟨h1, h2, h3, h4, h5, h6⟩ := h
  have e : crB b q y1 y2 (lim : Int) = altB b q y1 y2 lim (2 * lim) := alt_cr b q y1 y2 (lim : Int) lim
  have hn : n ≤ 2 * lim := by omega
  rw [e, show 2 * lim = n + (2 * lim - n) from by omega]
  by_cases hf : lim ≤ bL (altB b q y1 y2 lim n)
  · exact alt_full (by omega) _
  · obtain ⟨g1, g2⟩ := h5 (by omega)
    obtain ⟨g3, g4⟩ := h6 (by omega)
    obtain ⟨j, rfl⟩ : ∃ j, n = j + 2 := ⟨n - 2, by omega⟩
    rw [show j + 2 - 1 = j + 1 from by omega] at g2 g4
    rw [show j + 2 - 2 = j from by omega] at g4
    exact alt_fix g4 g2 _
set_option maxHeartbeats 4000000 in
set_option maxRecDepth 100000 in
theorem c_X4_cross (l : Launch) (G : XG) (o : Nat) (b : XB) (th ov un : Int) (z1 : Int) (hz1 : -2147483648 ≤ z1 ∧ z1 < 2147483648) (z2 : Int) (hz2 : -2147483648 ≤ z2 ∧ z2 < 2147483648) (zq : Int) (hzq : -2147483648 ≤ zq ∧ zq < 2147483648) (zl : Int) (hzl : -2147483648 ≤ zl ∧ zl < 2147483648) : MetQI l yX4_cross wsX4_cross (rmF 2 47) G o b th ov un [.ref o, .int (zI z1), .int (zI z2), .int (zI zq), .int (zI zl)] (kR ((0 ≤ z1 ∧ z1 < 4) ∧ (0 ≤ z2 ∧ z2 < 4) ∧ (0 ≤ zq ∧ zq < 8) ∧ (1 ≤ zl ∧ zl ≤ 20) ∧ ¬ z1 = z2) 0) (bL (crB b zq.toNat z1.toNat z2.toNat zl) : Int) (crB b zq.toNat z1.toNat z2.toNat zl) := by
  refine Met.ofW (cc := cX4_cross) (maxL := 7) (ret := (some .int)) (by decide) rfl ?_
  intro p e s m args below meth c s₁ B hml hv
  obtain ⟨rfl, hW, hi, hK⟩ := hv
  have hx := B.exec
  have hb := B.bytes
  have hr := B.returns
  have hts := atoms_spec (ws := wsX4_cross) B.pre
  have hown : s.vm.findClass RX4 = some m.cls := findClass_of_methodNamed B.named
  have hlocks := B.notSynchronized
  have hl := lv_entry ([.ref o, .int (zI z1), .int (zI z2), .int (zI zq), .int (zI zl)]) (n := 7) (Nat.le_of_ble_eq_true rfl)
  rw [lg_entry_eq]
  generalize (lg_sl ([.ref o, .int (zI z1), .int (zI z2), .int (zI zq), .int (zI zl)]) ++ List.replicate (7 - (lg_sl ([.ref o, .int (zI z1), .int (zI z2), .int (zI zq), .int (zI zl)])).length) Slot.unset).toArray = ls at hl ⊢
  have hl : lv_has ls 7 [(0, .ref o), (1, .int (zI z1)), (2, .int (zI z2)), (3, .int (zI zq)), (4, .int (zI zl))] := hl
  have hS : va_S (mA o) s.heap s.heap [] := va_S.rf
  refine lv_aload_n hx hb dX4_cross_0 rfl (lv_at hl 0 rfl) ?_
  refine lv_iload_n hx hb dX4_cross_1 rfl (lv_at hl 1 rfl) ?_
  refine x_iconst hx hb dX4_cross_2 ?_
  refine x_iconst hx hb dX4_cross_3 ?_
  refine x_cI (va_runS (As := [.int (zI z1), .int (zI 0), .int (zI 3)]) (rest := [.ref o]) ⟨hx, hb, hml, hown, hts⟩ (c_X4_in l z1 (by omega) 0 (by omega) 3 (by omega)) (va_cwS 3 hts gX4_cross_X4_in rfl rfl rfl (by decide +kernel) ⟨Nat.le_of_ble_eq_true rfl, Nat.le_of_ble_eq_true rfl⟩) x_preS rfl rfl hl.1 rfl (lv_room (Nat.le_of_ble_eq_true rfl)) dX4_cross_4 ⟨Nat.le_of_ble_eq_true rfl, Nat.le_of_ble_eq_true rfl⟩) ?_
  refine x_ifB_eq (tgt := 49) hx hb dX4_cross_7 (by decide) (fun h1 => ?_) (fun h2 => ?_)
  · refine x_iconst hx hb dX4_cross_49 ?_
    refine x_put (ci := 4) (C := RX4) (T := TX4) (N := 10) (own := RX4) (index := 28) hx hb hts (by decide +kernel) tyX4 tyX4_ok nmX4 hown hK hW.ob hS ⟨by omega, by omega⟩ rfl 9 (by decide) (by decide +kernel) rfl rfl rfl rfl (Nat.le_of_ble_eq_true rfl) dX4_cross_50 (fun H1 locs1 h1 hz1 hn1 hS => ?_)
    have hW := hW.putO h1 hn1
    refine lv_aload_n hx hb dX4_cross_53 rfl (lv_at hl 0 rfl) ?_
    refine x_get (ci := 4) (C := RX4) (T := TX4) (N := 10) (own := RX4) (index := 28) (v := .int (zI 1)) hx hb hts (by decide +kernel) hown hK hW.ob rfl 9 (by decide) (by decide +kernel) rfl rfl dX4_cross_54 ?_
    refine x_if_le (tgt := 62) hx hb dX4_cross_57 (by decide) (by omega) (fun h3 => ?_) (fun h4 => ?_)
    · exact absurd h3 (by omega)
    · refine x_iconst hx hb dX4_cross_60 ?_
      exact x_qI hx hb hr (kR_f (by omega)) (no1) hW (if0_1) hS dX4_cross_61 hlocks
  · refine lv_iload_n hx hb dX4_cross_10 rfl (lv_at hl 2 rfl) ?_
    refine x_iconst hx hb dX4_cross_11 ?_
    refine x_iconst hx hb dX4_cross_12 ?_
    refine x_cI (va_runS (As := [.int (zI z2), .int (zI 0), .int (zI 3)]) (rest := [.ref o]) ⟨hx, hb, hml, hown, hts⟩ (c_X4_in l z2 (by omega) 0 (by omega) 3 (by omega)) (va_cwS 3 hts gX4_cross_X4_in rfl rfl rfl (by decide +kernel) ⟨Nat.le_of_ble_eq_true rfl, Nat.le_of_ble_eq_true rfl⟩) x_preS rfl rfl hl.1 rfl (lv_room (Nat.le_of_ble_eq_true rfl)) dX4_cross_13 ⟨Nat.le_of_ble_eq_true rfl, Nat.le_of_ble_eq_true rfl⟩) ?_
    refine x_ifB_eq (tgt := 49) hx hb dX4_cross_16 (by decide) (fun h5 => ?_) (fun h6 => ?_)
    · refine x_iconst hx hb dX4_cross_49 ?_
      refine x_put (ci := 4) (C := RX4) (T := TX4) (N := 10) (own := RX4) (index := 28) hx hb hts (by decide +kernel) tyX4 tyX4_ok nmX4 hown hK hW.ob hS ⟨by omega, by omega⟩ rfl 9 (by decide) (by decide +kernel) rfl rfl rfl rfl (Nat.le_of_ble_eq_true rfl) dX4_cross_50 (fun H1 locs1 h1 hz1 hn1 hS => ?_)
      have hW := hW.putO h1 hn1
      refine lv_aload_n hx hb dX4_cross_53 rfl (lv_at hl 0 rfl) ?_
      refine x_get (ci := 4) (C := RX4) (T := TX4) (N := 10) (own := RX4) (index := 28) (v := .int (zI 1)) hx hb hts (by decide +kernel) hown hK hW.ob rfl 9 (by decide) (by decide +kernel) rfl rfl dX4_cross_54 ?_
      refine x_if_le (tgt := 62) hx hb dX4_cross_57 (by decide) (by omega) (fun h7 => ?_) (fun h8 => ?_)
      · exact absurd h7 (by omega)
      · refine x_iconst hx hb dX4_cross_60 ?_
        exact x_qI hx hb hr (kR_f (by omega)) (no1) hW (if0_1) hS dX4_cross_61 hlocks
    · refine lv_iload_n hx hb dX4_cross_19 rfl (lv_at hl 3 rfl) ?_
      refine x_iconst hx hb dX4_cross_20 ?_
      refine lv_bipush (v := zI 7) hx hb dX4_cross_21 (by decide +kernel) ?_
      refine x_cI (va_runS (As := [.int (zI zq), .int (zI 0), .int (zI 7)]) (rest := [.ref o]) ⟨hx, hb, hml, hown, hts⟩ (c_X4_in l zq (by omega) 0 (by omega) 7 (by omega)) (va_cwS 3 hts gX4_cross_X4_in rfl rfl rfl (by decide +kernel) ⟨Nat.le_of_ble_eq_true rfl, Nat.le_of_ble_eq_true rfl⟩) x_preS rfl rfl hl.1 rfl (lv_room (Nat.le_of_ble_eq_true rfl)) dX4_cross_23 ⟨Nat.le_of_ble_eq_true rfl, Nat.le_of_ble_eq_true rfl⟩) ?_
      refine x_ifB_eq (tgt := 49) hx hb dX4_cross_26 (by decide) (fun h9 => ?_) (fun h10 => ?_)
      · refine x_iconst hx hb dX4_cross_49 ?_
        refine x_put (ci := 4) (C := RX4) (T := TX4) (N := 10) (own := RX4) (index := 28) hx hb hts (by decide +kernel) tyX4 tyX4_ok nmX4 hown hK hW.ob hS ⟨by omega, by omega⟩ rfl 9 (by decide) (by decide +kernel) rfl rfl rfl rfl (Nat.le_of_ble_eq_true rfl) dX4_cross_50 (fun H1 locs1 h1 hz1 hn1 hS => ?_)
        have hW := hW.putO h1 hn1
        refine lv_aload_n hx hb dX4_cross_53 rfl (lv_at hl 0 rfl) ?_
        refine x_get (ci := 4) (C := RX4) (T := TX4) (N := 10) (own := RX4) (index := 28) (v := .int (zI 1)) hx hb hts (by decide +kernel) hown hK hW.ob rfl 9 (by decide) (by decide +kernel) rfl rfl dX4_cross_54 ?_
        refine x_if_le (tgt := 62) hx hb dX4_cross_57 (by decide) (by omega) (fun h11 => ?_) (fun h12 => ?_)
        · exact absurd h11 (by omega)
        · refine x_iconst hx hb dX4_cross_60 ?_
          exact x_qI hx hb hr (kR_f (by omega)) (no1) hW (if0_1) hS dX4_cross_61 hlocks
      · refine lv_iload hx hb dX4_cross_29 (lv_at hl 4 rfl) ?_
        refine x_iconst hx hb dX4_cross_31 ?_
        refine lv_bipush (v := zI 20) hx hb dX4_cross_32 (by decide +kernel) ?_
        refine x_cI (va_runS (As := [.int (zI zl), .int (zI 1), .int (zI 20)]) (rest := [.ref o]) ⟨hx, hb, hml, hown, hts⟩ (c_X4_in l zl (by omega) 1 (by omega) 20 (by omega)) (va_cwS 3 hts gX4_cross_X4_in rfl rfl rfl (by decide +kernel) ⟨Nat.le_of_ble_eq_true rfl, Nat.le_of_ble_eq_true rfl⟩) x_preS rfl rfl hl.1 rfl (lv_room (Nat.le_of_ble_eq_true rfl)) dX4_cross_34 ⟨Nat.le_of_ble_eq_true rfl, Nat.le_of_ble_eq_true rfl⟩) ?_
        refine x_ifB_eq (tgt := 49) hx hb dX4_cross_37 (by decide) (fun h13 => ?_) (fun h14 => ?_)
        · refine x_iconst hx hb dX4_cross_49 ?_
          refine x_put (ci := 4) (C := RX4) (T := TX4) (N := 10) (own := RX4) (index := 28) hx hb hts (by decide +kernel) tyX4 tyX4_ok nmX4 hown hK hW.ob hS ⟨by omega, by omega⟩ rfl 9 (by decide) (by decide +kernel) rfl rfl rfl rfl (Nat.le_of_ble_eq_true rfl) dX4_cross_50 (fun H1 locs1 h1 hz1 hn1 hS => ?_)
          have hW := hW.putO h1 hn1
          refine lv_aload_n hx hb dX4_cross_53 rfl (lv_at hl 0 rfl) ?_
          refine x_get (ci := 4) (C := RX4) (T := TX4) (N := 10) (own := RX4) (index := 28) (v := .int (zI 1)) hx hb hts (by decide +kernel) hown hK hW.ob rfl 9 (by decide) (by decide +kernel) rfl rfl dX4_cross_54 ?_
          refine x_if_le (tgt := 62) hx hb dX4_cross_57 (by decide) (by omega) (fun h15 => ?_) (fun h16 => ?_)
          · exact absurd h15 (by omega)
          · refine x_iconst hx hb dX4_cross_60 ?_
            exact x_qI hx hb hr (kR_f (by omega)) (no1) hW (if0_1) hS dX4_cross_61 hlocks
        · refine lv_iload_n hx hb dX4_cross_40 rfl (lv_at hl 1 rfl) ?_
          refine lv_iload_n hx hb dX4_cross_41 rfl (lv_at hl 2 rfl) ?_
          refine x_icmp_eq (tgt := 49) hx hb dX4_cross_42 (by decide) (by omega) (fun h17 => ?_) (fun h18 => ?_)
          · refine x_iconst hx hb dX4_cross_49 ?_
            refine x_put (ci := 4) (C := RX4) (T := TX4) (N := 10) (own := RX4) (index := 28) hx hb hts (by decide +kernel) tyX4 tyX4_ok nmX4 hown hK hW.ob hS ⟨by omega, by omega⟩ rfl 9 (by decide) (by decide +kernel) rfl rfl rfl rfl (Nat.le_of_ble_eq_true rfl) dX4_cross_50 (fun H1 locs1 h1 hz1 hn1 hS => ?_)
            have hW := hW.putO h1 hn1
            refine lv_aload_n hx hb dX4_cross_53 rfl (lv_at hl 0 rfl) ?_
            refine x_get (ci := 4) (C := RX4) (T := TX4) (N := 10) (own := RX4) (index := 28) (v := .int (zI 1)) hx hb hts (by decide +kernel) hown hK hW.ob rfl 9 (by decide) (by decide +kernel) rfl rfl dX4_cross_54 ?_
            refine x_if_le (tgt := 62) hx hb dX4_cross_57 (by decide) (by omega) (fun h19 => ?_) (fun h20 => ?_)
            · exact absurd h19 (by omega)
            · refine x_iconst hx hb dX4_cross_60 ?_
              exact x_qI hx hb hr (kR_f (by omega)) (no1) hW (if0_1) hS dX4_cross_61 hlocks
          · refine x_iconst hx hb dX4_cross_45 ?_
            refine lv_goto (tgt := 50) hx hb dX4_cross_46 (by decide) ?_
            refine x_put (ci := 4) (C := RX4) (T := TX4) (N := 10) (own := RX4) (index := 28) hx hb hts (by decide +kernel) tyX4 tyX4_ok nmX4 hown hK hW.ob hS ⟨by omega, by omega⟩ rfl 9 (by decide) (by decide +kernel) rfl rfl rfl rfl (Nat.le_of_ble_eq_true rfl) dX4_cross_50 (fun H1 locs1 h1 hz1 hn1 hS => ?_)
            have hW := hW.putO h1 hn1
            refine lv_aload_n hx hb dX4_cross_53 rfl (lv_at hl 0 rfl) ?_
            refine x_get (ci := 4) (C := RX4) (T := TX4) (N := 10) (own := RX4) (index := 28) (v := .int (zI 0)) hx hb hts (by decide +kernel) hown hK hW.ob rfl 9 (by decide) (by decide +kernel) rfl rfl dX4_cross_54 ?_
            refine x_if_le (tgt := 62) hx hb dX4_cross_57 (by decide) (by omega) (fun h21 => ?_) (fun h22 => ?_)
            · obtain ⟨y1, rfl⟩ : ∃ y1 : Nat, z1 = (y1 : Int) := ⟨z1.toNat, by omega⟩
              obtain ⟨y2, rfl⟩ : ∃ y2 : Nat, z2 = (y2 : Int) := ⟨z2.toNat, by omega⟩
              obtain ⟨q, rfl⟩ : ∃ q : Nat, zq = (q : Int) := ⟨zq.toNat, by omega⟩
              obtain ⟨n0, rfl⟩ : ∃ n0 : Nat, zl = (n0 : Int) := ⟨zl.toNat, by omega⟩
              refine lv_aload_n hx hb dX4_cross_62 rfl (lv_at hl 0 rfl) ?_
              refine x_iconst hx hb dX4_cross_63 ?_
              refine x_put (ci := 4) (C := RX4) (T := TX4) (N := 10) (own := RX4) (index := 98) hx hb hts (by decide +kernel) tyX4 tyX4_ok nmX4 hown hK hW.ob hS ⟨by omega, by omega⟩ rfl 3 (by decide) (by decide +kernel) rfl rfl rfl rfl (Nat.le_of_ble_eq_true rfl) dX4_cross_64 (fun H1 locs1 h1 hz1 hn1 hS => ?_)
              have hW := hW.putC (v := 0) (show 0 = ((0 : Nat) : Int) from by omega) h1 hn1
              refine x_iconst hx hb dX4_cross_67 ?_
              refine lv_istore (lv' := [(5, .int (zI 0)), (0, .ref o), (1, .int (zI (y1 : Int))), (2, .int (zI (y2 : Int))), (3, .int (zI (q : Int))), (4, .int (zI (n0 : Int)))]) hx hb dX4_cross_68 hl (by decide) rfl (fun ls hl => ?_)
              refine lv_iload_n hx hb dX4_cross_70 rfl (lv_at hl 2 rfl) ?_
              refine lv_istore (lv' := [(6, .int (zI (y1 : Int))), (5, .int (zI 0)), (0, .ref o), (1, .int (zI (y1 : Int))), (2, .int (zI (y2 : Int))), (3, .int (zI (q : Int))), (4, .int (zI (n0 : Int)))]) hx hb dX4_cross_71 hl (by decide) rfl (fun ls hl => ?_)
              refine x_loopH2 (fun (n : Nat) (p : Nat) (H : Heap) (locs : List Loc) => (crJ b q y1 y2 n0 n p) ∧ (MW G o (altB b q y1 y2 (n0 : Int) n) 0 ov un H) ∧ (va_S (mA o) s.heap H locs)) (fun (n : Nat) (p : Nat) => (n0 - bL (altB b q y1 y2 (n0 : Int) n)) * 3 + (2 - p)) (fun (n : Nat) (p : Nat) => [(5, .int (zI (p : Int))), (6, .int (zI (tn y1 y2 n : Int))), (0, .ref o), (1, .int (zI (y1 : Int))), (2, .int (zI (y2 : Int))), (3, .int (zI (q : Int))), (4, .int (zI (n0 : Int)))]) (0) (0) (by exact ⟨(crJ_0 (by omega)), (hW), (hS)⟩) (show lv_has ls 7 [(5, .int (zI ((0) : Int))), (6, .int (zI (tn y1 y2 (0) : Int))), (0, .ref o), (1, .int (zI (y1 : Int))), (2, .int (zI (y2 : Int))), (3, .int (zI (q : Int))), (4, .int (zI (n0 : Int)))] from (lv_cons (x_at (lv_at hl 1 rfl) (by omega)) (lv_cons (x_at (lv_at hl 0 rfl) (rfl)) (lv_cons (lv_at hl 2 rfl) (lv_cons (lv_at hl 3 rfl) (lv_cons (lv_at hl 4 rfl) (lv_cons (lv_at hl 5 rfl) (lv_cons (lv_at hl 6 rfl) (lv_nil hl))))))))) (fun n p H locs ls hI73 hl ih73 => ?_)
              obtain ⟨hJ, hW, hS⟩ : (crJ b q y1 y2 n0 n p) ∧ (MW G o (altB b q y1 y2 (n0 : Int) n) 0 ov un H) ∧ (va_S (mA o) s.heap H locs) := hI73
              have hl : lv_has ls 7 [(5, .int (zI (p : Int))), (6, .int (zI (tn y1 y2 n : Int))), (0, .ref o), (1, .int (zI (y1 : Int))), (2, .int (zI (y2 : Int))), (3, .int (zI (q : Int))), (4, .int (zI (n0 : Int)))] := hl
              have hi := alt_inv hi (q := q) (y1 := y1) (y2 := y2) (lim := (n0 : Int)) (by omega) (by omega) (by omega) n
              have hll9 := hi.l
              have hJl := hJ.2.2.1
              have hJp := hJ.2.1
              have htn := tn_lt (y1 := y1) (y2 := y2) (n := n) (by omega) (by omega)
              refine lv_aload_n hx hb dX4_cross_73 rfl (lv_at hl 2 rfl) ?_
              refine x_get (ci := 4) (C := RX4) (T := TX4) (N := 10) (own := RX4) (index := 98) (v := .int (zI (bL (altB b q y1 y2 (n0 : Int) n) : Int))) hx hb hts (by decide +kernel) hown hK hW.ob rfl 3 (by decide) (by decide +kernel) rfl rfl dX4_cross_74 ?_
              refine lv_iload hx hb dX4_cross_77 (lv_at hl 6 rfl) ?_
              refine x_icmp_ge (tgt := 124) hx hb dX4_cross_79 (by decide) (by omega) (fun h23 => ?_) (fun h24 => ?_)
              · refine lv_aload_n hx hb dX4_cross_124 rfl (lv_at hl 2 rfl) ?_
                refine x_get (ci := 4) (C := RX4) (T := TX4) (N := 10) (own := RX4) (index := 98) (v := .int (zI (bL (altB b q y1 y2 (n0 : Int) n) : Int))) hx hb hts (by decide +kernel) hown hK hW.ob rfl 3 (by decide) (by decide +kernel) rfl rfl dX4_cross_125 ?_
                have hcr9 := crJ_end hJ (by omega)
                exact x_qI hx hb hr (kR_t (by omega) rfl) (fun _ => congrArg (fun x => ((bL x : Nat) : Int)) hcr9.symm) hW (if0_t.trans hcr9) hS dX4_cross_128 hlocks
              · refine lv_iload hx hb dX4_cross_82 (lv_at hl 0 rfl) ?_
                refine x_iconst hx hb dX4_cross_84 ?_
                refine x_icmp_ge (tgt := 124) hx hb dX4_cross_85 (by decide) (by omega) (fun h25 => ?_) (fun h26 => ?_)
                · refine lv_aload_n hx hb dX4_cross_124 rfl (lv_at hl 2 rfl) ?_
                  refine x_get (ci := 4) (C := RX4) (T := TX4) (N := 10) (own := RX4) (index := 98) (v := .int (zI (bL (altB b q y1 y2 (n0 : Int) n) : Int))) hx hb hts (by decide +kernel) hown hK hW.ob rfl 3 (by decide) (by decide +kernel) rfl rfl dX4_cross_125 ?_
                  have hcr9 := crJ_end hJ (by omega)
                  exact x_qI hx hb hr (kR_t (by omega) rfl) (fun _ => congrArg (fun x => ((bL x : Nat) : Int)) hcr9.symm) hW (if0_t.trans hcr9) hS dX4_cross_128 hlocks
                · refine lv_aload_n hx hb dX4_cross_88 rfl (lv_at hl 2 rfl) ?_
                  refine lv_iload hx hb dX4_cross_89 (lv_at hl 1 rfl) ?_
                  refine lv_iload_n hx hb dX4_cross_91 rfl (lv_at hl 5 rfl) ?_
                  refine x_wI (va_runV (As := [.int (zI (tn y1 y2 n : Int)), .int (zI (q : Int))]) (rest := []) ⟨hx, hb, hml, hown, hts⟩ (c_X4_gives l G o (altB b q y1 y2 (n0 : Int) n) 0 ov un q (tn y1 y2 n) (by omega) (by omega) (tn y1 y2 n : Int) (q : Int) (by omega) (by omega) (by omega)) (cwV 2 hts gX4_cross_X4_gives rfl rfl rfl (by decide +kernel) ⟨Nat.le_of_ble_eq_true rfl, Nat.le_of_ble_eq_true rfl⟩) (x_preM hW hi hK) rfl rfl hl.1 rfl (lv_room (Nat.le_of_ble_eq_true rfl)) dX4_cross_92 ⟨Nat.le_of_ble_eq_true rfl, Nat.le_of_ble_eq_true rfl⟩) hS (fun q _ h => h) (fun q h => h) (fun H1 locs1 hW1 hz1 hk1 hS => ?_)
                  have hW := hW1
                  have hi := gvB_inv hi (q := q) (y := (tn y1 y2 n)) (g := (tn y1 y2 n)) (by omega) (by omega)
                  refine x_ifB_eq (tgt := 102) hx hb dX4_cross_95 (by decide) (fun h27 => ?_) (fun h28 => ?_)
                  · have hgv := h27
                    refine lv_iload hx hb dX4_cross_102 (lv_at hl 0 rfl) ?_
                    refine x_iconst hx hb dX4_cross_104 ?_
                    refine x_iadd hx hb dX4_cross_105 ?_
                    refine lv_istore (lv' := [(5, .int (zI ((p : Int) + 1))), (6, .int (zI (tn y1 y2 n : Int))), (0, .ref o), (1, .int (zI (y1 : Int))), (2, .int (zI (y2 : Int))), (3, .int (zI (q : Int))), (4, .int (zI (n0 : Int)))]) hx hb dX4_cross_106 hl (by decide) rfl (fun ls hl => ?_)
                    refine lv_iload hx hb dX4_cross_108 (lv_at hl 1 rfl) ?_
                    refine lv_iload_n hx hb dX4_cross_110 rfl (lv_at hl 3 rfl) ?_
                    refine x_icmp_ne (tgt := 118) hx hb dX4_cross_111 (by decide) (by omega) (fun h29 => ?_) (fun h30 => ?_)
                    · refine lv_iload_n hx hb dX4_cross_118 rfl (lv_at hl 3 rfl) ?_
                      refine lv_istore (lv' := [(6, .int (zI (y1 : Int))), (5, .int (zI ((p : Int) + 1))), (0, .ref o), (1, .int (zI (y1 : Int))), (2, .int (zI (y2 : Int))), (3, .int (zI (q : Int))), (4, .int (zI (n0 : Int)))]) hx hb dX4_cross_119 hl (by decide) rfl (fun ls hl => ?_)
                      refine lv_goto (tgt := 73) hx hb dX4_cross_121 (by decide) ?_
                      have hJ9 := crJ_f hJ (by omega) (by omega) hgv
                      exact ih73 (n + 1) (p + 1) _ _ ls (by exact ⟨(hJ9.1), (by rw [alt_s (by omega)]; exact hW), (hS)⟩) (show (n0 - bL (altB b q y1 y2 (n0 : Int) (n + 1))) * 3 + (2 - (p + 1)) < (n0 - bL (altB b q y1 y2 (n0 : Int) n)) * 3 + (2 - p) from (by have := hJ9.2; have := hJ.2.1; omega)) (lv_cons (x_at (lv_at hl 1 rfl) (by omega)) (lv_cons (x_at (lv_at hl 0 rfl) (congrArg Nat.cast (tn_2 (by omega)))) (lv_cons (lv_at hl 2 rfl) (lv_cons (lv_at hl 3 rfl) (lv_cons (lv_at hl 4 rfl) (lv_cons (lv_at hl 5 rfl) (lv_cons (lv_at hl 6 rfl) (lv_nil hl))))))))
                    · refine lv_iload_n hx hb dX4_cross_114 rfl (lv_at hl 4 rfl) ?_
                      refine lv_goto (tgt := 119) hx hb dX4_cross_115 (by decide) ?_
                      refine lv_istore (lv' := [(6, .int (zI (y2 : Int))), (5, .int (zI ((p : Int) + 1))), (0, .ref o), (1, .int (zI (y1 : Int))), (2, .int (zI (y2 : Int))), (3, .int (zI (q : Int))), (4, .int (zI (n0 : Int)))]) hx hb dX4_cross_119 hl (by decide) rfl (fun ls hl => ?_)
                      refine lv_goto (tgt := 73) hx hb dX4_cross_121 (by decide) ?_
                      have hJ9 := crJ_f hJ (by omega) (by omega) hgv
                      exact ih73 (n + 1) (p + 1) _ _ ls (by exact ⟨(hJ9.1), (by rw [alt_s (by omega)]; exact hW), (hS)⟩) (show (n0 - bL (altB b q y1 y2 (n0 : Int) (n + 1))) * 3 + (2 - (p + 1)) < (n0 - bL (altB b q y1 y2 (n0 : Int) n)) * 3 + (2 - p) from (by have := hJ9.2; have := hJ.2.1; omega)) (lv_cons (x_at (lv_at hl 1 rfl) (by omega)) (lv_cons (x_at (lv_at hl 0 rfl) (congrArg Nat.cast (tn_1 (by omega) (by omega)))) (lv_cons (lv_at hl 2 rfl) (lv_cons (lv_at hl 3 rfl) (lv_cons (lv_at hl 4 rfl) (lv_cons (lv_at hl 5 rfl) (lv_cons (lv_at hl 6 rfl) (lv_nil hl))))))))
                  · have hgv := h28
                    refine x_iconst hx hb dX4_cross_98 ?_
                    refine lv_goto (tgt := 106) hx hb dX4_cross_99 (by decide) ?_
                    refine lv_istore (lv' := [(5, .int (zI 0)), (6, .int (zI (tn y1 y2 n : Int))), (0, .ref o), (1, .int (zI (y1 : Int))), (2, .int (zI (y2 : Int))), (3, .int (zI (q : Int))), (4, .int (zI (n0 : Int)))]) hx hb dX4_cross_106 hl (by decide) rfl (fun ls hl => ?_)
                    refine lv_iload hx hb dX4_cross_108 (lv_at hl 1 rfl) ?_
                    refine lv_iload_n hx hb dX4_cross_110 rfl (lv_at hl 3 rfl) ?_
                    refine x_icmp_ne (tgt := 118) hx hb dX4_cross_111 (by decide) (by omega) (fun h31 => ?_) (fun h32 => ?_)
                    · refine lv_iload_n hx hb dX4_cross_118 rfl (lv_at hl 3 rfl) ?_
                      refine lv_istore (lv' := [(6, .int (zI (y1 : Int))), (5, .int (zI 0)), (0, .ref o), (1, .int (zI (y1 : Int))), (2, .int (zI (y2 : Int))), (3, .int (zI (q : Int))), (4, .int (zI (n0 : Int)))]) hx hb dX4_cross_119 hl (by decide) rfl (fun ls hl => ?_)
                      refine lv_goto (tgt := 73) hx hb dX4_cross_121 (by decide) ?_
                      have hJ9 := crJ_t hJ (by omega) (by omega) hgv
                      exact ih73 (n + 1) (0) _ _ ls (by exact ⟨(hJ9.1), (by rw [alt_s (by omega)]; exact hW), (hS)⟩) (show (n0 - bL (altB b q y1 y2 (n0 : Int) (n + 1))) * 3 + (2 - (0)) < (n0 - bL (altB b q y1 y2 (n0 : Int) n)) * 3 + (2 - p) from (by have := hJ9.2; have := hJ.2.1; omega)) (lv_cons (x_at (lv_at hl 1 rfl) (by omega)) (lv_cons (x_at (lv_at hl 0 rfl) (congrArg Nat.cast (tn_2 (by omega)))) (lv_cons (lv_at hl 2 rfl) (lv_cons (lv_at hl 3 rfl) (lv_cons (lv_at hl 4 rfl) (lv_cons (lv_at hl 5 rfl) (lv_cons (lv_at hl 6 rfl) (lv_nil hl))))))))
                    · refine lv_iload_n hx hb dX4_cross_114 rfl (lv_at hl 4 rfl) ?_
                      refine lv_goto (tgt := 119) hx hb dX4_cross_115 (by decide) ?_
                      refine lv_istore (lv' := [(6, .int (zI (y2 : Int))), (5, .int (zI 0)), (0, .ref o), (1, .int (zI (y1 : Int))), (2, .int (zI (y2 : Int))), (3, .int (zI (q : Int))), (4, .int (zI (n0 : Int)))]) hx hb dX4_cross_119 hl (by decide) rfl (fun ls hl => ?_)
                      refine lv_goto (tgt := 73) hx hb dX4_cross_121 (by decide) ?_
                      have hJ9 := crJ_t hJ (by omega) (by omega) hgv
                      exact ih73 (n + 1) (0) _ _ ls (by exact ⟨(hJ9.1), (by rw [alt_s (by omega)]; exact hW), (hS)⟩) (show (n0 - bL (altB b q y1 y2 (n0 : Int) (n + 1))) * 3 + (2 - (0)) < (n0 - bL (altB b q y1 y2 (n0 : Int) n)) * 3 + (2 - p) from (by have := hJ9.2; have := hJ.2.1; omega)) (lv_cons (x_at (lv_at hl 1 rfl) (by omega)) (lv_cons (x_at (lv_at hl 0 rfl) (congrArg Nat.cast (tn_1 (by omega) (by omega)))) (lv_cons (lv_at hl 2 rfl) (lv_cons (lv_at hl 3 rfl) (lv_cons (lv_at hl 4 rfl) (lv_cons (lv_at hl 5 rfl) (lv_cons (lv_at hl 6 rfl) (lv_nil hl))))))))
            · exact absurd h22 (by omega)
set_option maxHeartbeats 4000000 in
set_option maxRecDepth 100000 in
theorem c_X4_crossed (l : Launch) (G : XG) (o : Nat) (b : XB) (th ov un : Int) (zr : Int) (hzr : -2147483648 ≤ zr ∧ zr < 2147483648) : MetQI l yX4_crossed wsX4_crossed (rmF 2 43) G o b th ov un [.ref o, .int (zI zr)] (kR (1 ≤ zr ∧ zr ≤ (bL b : Int)) 0) (bLD b (zr.toNat - 1) : Int) b := by
  refine Met.ofW (cc := cX4_crossed) (maxL := 2) (ret := (some .int)) (by decide) rfl ?_
  intro p e s m args below meth c s₁ B hml hv
  obtain ⟨rfl, hW, hi, hK⟩ := hv
  have hx := B.exec
  have hb := B.bytes
  have hr := B.returns
  have hts := atoms_spec (ws := wsX4_crossed) B.pre
  have hown : s.vm.findClass RX4 = some m.cls := findClass_of_methodNamed B.named
  have hlocks := B.notSynchronized
  have hl := lv_entry ([.ref o, .int (zI zr)]) (n := 2) (Nat.le_of_ble_eq_true rfl)
  rw [lg_entry_eq]
  generalize (lg_sl ([.ref o, .int (zI zr)]) ++ List.replicate (2 - (lg_sl ([.ref o, .int (zI zr)])).length) Slot.unset).toArray = ls at hl ⊢
  have hl : lv_has ls 2 [(0, .ref o), (1, .int (zI zr))] := hl
  have hS : va_S (mA o) s.heap s.heap [] := va_S.rf
  have hll := hi.l
  refine lv_aload_n hx hb dX4_crossed_0 rfl (lv_at hl 0 rfl) ?_
  refine lv_iload_n hx hb dX4_crossed_1 rfl (lv_at hl 1 rfl) ?_
  refine x_wI (va_runV (As := [.int (zI zr)]) (rest := []) ⟨hx, hb, hml, hown, hts⟩ (c_X4_isRank l G o b th ov un zr (by omega)) (cwV 1 hts gX4_crossed_X4_isRank rfl rfl rfl (by decide +kernel) ⟨Nat.le_of_ble_eq_true rfl, Nat.le_of_ble_eq_true rfl⟩) (x_preM hW hi hK) rfl rfl hl.1 rfl (lv_room (Nat.le_of_ble_eq_true rfl)) dX4_crossed_2 ⟨Nat.le_of_ble_eq_true rfl, Nat.le_of_ble_eq_true rfl⟩) hS (fun q _ h => h) (fun q h => h) (fun H1 locs1 hW1 hz1 hk1 hS => ?_)
  have hW := hW1
  refine x_ifB_eq (tgt := 19) hx hb dX4_crossed_5 (by decide) (fun h1 => ?_) (fun h2 => ?_)
  · replace hW := hW.th (kR_f h1)
    refine x_iconst hx hb dX4_crossed_19 ?_
    exact x_qI hx hb hr (kR_f (by omega)) (no1) hW (if0_1) hS dX4_crossed_20 hlocks
  · replace hW := hW.th (kR_t h2 rfl)
    obtain ⟨r, rfl⟩ : ∃ r : Nat, zr = (r : Int) := ⟨zr.toNat, by omega⟩
    refine lv_aload_n hx hb dX4_crossed_8 rfl (lv_at hl 0 rfl) ?_
    refine x_get (ci := 4) (C := RX4) (T := TX4) (N := 10) (own := RX4) (index := 19) (v := .ref (o + 4)) hx hb hts (by decide +kernel) hown hK hW.ob rfl 4 (by decide) (by decide +kernel) rfl rfl dX4_crossed_9 ?_
    refine lv_iload_n hx hb dX4_crossed_12 rfl (lv_at hl 1 rfl) ?_
    refine x_iconst hx hb dX4_crossed_13 ?_
    refine x_isub hx hb dX4_crossed_14 ?_
    refine x_iald hx hb hK hW.li (r - 1) (by omega) (by omega) (by decide) dX4_crossed_15 ?_
    have hv3 := hi.ld (r - 1)
    refine lv_goto (tgt := 20) hx hb dX4_crossed_16 (by decide) ?_
    exact x_qI hx hb hr (kR_t (by omega) rfl) (fun _ => rfl) hW (if0_t) hS dX4_crossed_20 hlocks
set_option maxHeartbeats 4000000 in
set_option maxRecDepth 100000 in
theorem c_X4_click (l : Launch) (G : XG) (o : Nat) (b : XB) (th ov un : Int) (zr : Int) (hzr : -2147483648 ≤ zr ∧ zr < 2147483648) : MetQI l yX4_click wsX4_click (rmF 2 43) G o b th ov un [.ref o, .int (zI zr)] (kR (1 ≤ zr ∧ zr ≤ (bL b : Int)) (kClkN b (zr.toNat - 1))) (bLG b (zr.toNat - 1) : Int) (uLC b (zr.toNat - 1) 1) := by
  refine Met.ofW (cc := cX4_click) (maxL := 2) (ret := (some .int)) (by decide) rfl ?_
  intro p e s m args below meth c s₁ B hml hv
  obtain ⟨rfl, hW, hi, hK⟩ := hv
  have hx := B.exec
  have hb := B.bytes
  have hr := B.returns
  have hts := atoms_spec (ws := wsX4_click) B.pre
  have hown : s.vm.findClass RX4 = some m.cls := findClass_of_methodNamed B.named
  have hlocks := B.notSynchronized
  have hl := lv_entry ([.ref o, .int (zI zr)]) (n := 2) (Nat.le_of_ble_eq_true rfl)
  rw [lg_entry_eq]
  generalize (lg_sl ([.ref o, .int (zI zr)]) ++ List.replicate (2 - (lg_sl ([.ref o, .int (zI zr)])).length) Slot.unset).toArray = ls at hl ⊢
  have hl : lv_has ls 2 [(0, .ref o), (1, .int (zI zr))] := hl
  have hS : va_S (mA o) s.heap s.heap [] := va_S.rf
  have hll := hi.l
  refine lv_aload_n hx hb dX4_click_0 rfl (lv_at hl 0 rfl) ?_
  refine lv_iload_n hx hb dX4_click_1 rfl (lv_at hl 1 rfl) ?_
  refine x_wI (va_runV (As := [.int (zI zr)]) (rest := []) ⟨hx, hb, hml, hown, hts⟩ (c_X4_isRank l G o b th ov un zr (by omega)) (cwV 1 hts gX4_click_X4_isRank rfl rfl rfl (by decide +kernel) ⟨Nat.le_of_ble_eq_true rfl, Nat.le_of_ble_eq_true rfl⟩) (x_preM hW hi hK) rfl rfl hl.1 rfl (lv_room (Nat.le_of_ble_eq_true rfl)) dX4_click_2 ⟨Nat.le_of_ble_eq_true rfl, Nat.le_of_ble_eq_true rfl⟩) hS (fun q _ h => h) (fun q h => h) (fun H1 locs1 hW1 hz1 hk1 hS => ?_)
  have hW := hW1
  refine x_ifB_ne (tgt := 10) hx hb dX4_click_5 (by decide) (fun h1 => ?_) (fun h2 => ?_)
  · replace hW := hW.th (kR_t h1 rfl)
    obtain ⟨r, rfl⟩ : ∃ r : Nat, zr = (r : Int) := ⟨zr.toNat, by omega⟩
    refine lv_aload_n hx hb dX4_click_10 rfl (lv_at hl 0 rfl) ?_
    refine x_get (ci := 4) (C := RX4) (T := TX4) (N := 10) (own := RX4) (index := 25) (v := .ref (o + 6)) hx hb hts (by decide +kernel) hown hK hW.ob rfl 6 (by decide) (by decide +kernel) rfl rfl dX4_click_11 ?_
    refine lv_iload_n hx hb dX4_click_14 rfl (lv_at hl 1 rfl) ?_
    refine x_iconst hx hb dX4_click_15 ?_
    refine x_isub hx hb dX4_click_16 ?_
    refine x_iald hx hb hK hW.ck (r - 1) (by omega) (by omega) (by decide) dX4_click_17 ?_
    have hv3 := hi.lc (r - 1)
    refine x_iconst hx hb dX4_click_18 ?_
    refine x_icmp_ne (tgt := 28) hx hb dX4_click_19 (by decide) (by omega) (fun h4 => ?_) (fun h5 => ?_)
    · refine lv_aload_n hx hb dX4_click_28 rfl (lv_at hl 0 rfl) ?_
      refine x_get (ci := 4) (C := RX4) (T := TX4) (N := 10) (own := RX4) (index := 25) (v := .ref (o + 6)) hx hb hts (by decide +kernel) hown hK hW.ob rfl 6 (by decide) (by decide +kernel) rfl rfl dX4_click_29 ?_
      refine lv_iload_n hx hb dX4_click_32 rfl (lv_at hl 1 rfl) ?_
      refine x_iconst hx hb dX4_click_33 ?_
      refine x_isub hx hb dX4_click_34 ?_
      refine x_iconst hx hb dX4_click_35 ?_
      refine x_iast hx hb hK hW.ck hS ⟨by omega, by omega⟩ (r - 1) (by omega) (by omega) (by decide) dX4_click_36 (fun H1 locs1 h1 hz1 hn1 hS => ?_)
      have hW := hW.putK (k := r - 1) (v := 1) (by omega) h1 hn1
      refine lv_aload_n hx hb dX4_click_37 rfl (lv_at hl 0 rfl) ?_
      refine x_get (ci := 4) (C := RX4) (T := TX4) (N := 10) (own := RX4) (index := 22) (v := .ref (o + 5)) hx hb hts (by decide +kernel) hown hK hW.ob rfl 5 (by decide) (by decide +kernel) rfl rfl dX4_click_38 ?_
      refine lv_iload_n hx hb dX4_click_41 rfl (lv_at hl 1 rfl) ?_
      refine x_iconst hx hb dX4_click_42 ?_
      refine x_isub hx hb dX4_click_43 ?_
      refine x_iald hx hb hK hW.gi (r - 1) (by omega) (by omega) (by decide) dX4_click_44 ?_
      have hv6 := hi.lg (r - 1)
      exact x_qI hx hb hr (kR_t (by omega) (kClkN_0 (k := r - 1) (by omega))) (fun _ => rfl) hW (if0_t) hS dX4_click_45 hlocks
    · refine lv_aload_n hx hb dX4_click_22 rfl (lv_at hl 0 rfl) ?_
      refine x_iconst hx hb dX4_click_23 ?_
      refine x_wI (va_runV (As := [.int (zI 2)]) (rest := []) ⟨hx, hb, hml, hown, hts⟩ (c_X4_fails l G o b 0 ov un 2) (cwV 1 hts gX4_click_X4_fails rfl rfl rfl (by decide +kernel) ⟨Nat.le_of_ble_eq_true rfl, Nat.le_of_ble_eq_true rfl⟩) (x_preM hW hi hK) rfl rfl hl.1 rfl (lv_room (Nat.le_of_ble_eq_true rfl)) dX4_click_24 ⟨Nat.le_of_ble_eq_true rfl, Nat.le_of_ble_eq_true rfl⟩) hS (fun q _ h => h) (fun q h => h) (fun H1 locs1 hW1 hz1 hk1 hS => ?_)
      have hW := hW1
      exact x_qI hx hb hr (kR_t (by omega) (kClkN_2 (k := r - 1) (by omega))) (no2) hW (if0_2) hS dX4_click_27 hlocks
  · replace hW := hW.th (kR_f h2)
    refine x_iconst hx hb dX4_click_8 ?_
    exact x_qI hx hb hr (kR_f (by omega)) (no1) hW (if0_1) hS dX4_click_9 hlocks
set_option maxHeartbeats 4000000 in
set_option maxRecDepth 100000 in
theorem c_X4_credit (l : Launch) (G : XG) (o : Nat) (b : XB) (th ov un : Int) (zs : Int) (hzs : -2147483648 ≤ zs ∧ zs < 2147483648) : MetQI l yX4_credit wsX4_credit (rmF 1 22) G o b th ov un [.ref o, .int (zI zs)] (kR (0 ≤ zs ∧ zs < 4) 0) (cfN b zs : Int) b := by
  refine Met.ofW (cc := cX4_credit) (maxL := 4) (ret := (some .int)) (by decide) rfl ?_
  intro p e s m args below meth c s₁ B hml hv
  obtain ⟨rfl, hW, hi, hK⟩ := hv
  have hx := B.exec
  have hb := B.bytes
  have hr := B.returns
  have hts := atoms_spec (ws := wsX4_credit) B.pre
  have hown : s.vm.findClass RX4 = some m.cls := findClass_of_methodNamed B.named
  have hlocks := B.notSynchronized
  have hl := lv_entry ([.ref o, .int (zI zs)]) (n := 4) (Nat.le_of_ble_eq_true rfl)
  rw [lg_entry_eq]
  generalize (lg_sl ([.ref o, .int (zI zs)]) ++ List.replicate (4 - (lg_sl ([.ref o, .int (zI zs)])).length) Slot.unset).toArray = ls at hl ⊢
  have hl : lv_has ls 4 [(0, .ref o), (1, .int (zI zs))] := hl
  have hS : va_S (mA o) s.heap s.heap [] := va_S.rf
  have hll := hi.l
  refine lv_aload_n hx hb dX4_credit_0 rfl (lv_at hl 0 rfl) ?_
  refine lv_iload_n hx hb dX4_credit_1 rfl (lv_at hl 1 rfl) ?_
  refine x_iconst hx hb dX4_credit_2 ?_
  refine x_iconst hx hb dX4_credit_3 ?_
  refine x_cI (va_runS (As := [.int (zI zs), .int (zI 0), .int (zI 3)]) (rest := [.ref o]) ⟨hx, hb, hml, hown, hts⟩ (c_X4_in l zs (by omega) 0 (by omega) 3 (by omega)) (va_cwS 3 hts gX4_credit_X4_in rfl rfl rfl (by decide +kernel) ⟨Nat.le_of_ble_eq_true rfl, Nat.le_of_ble_eq_true rfl⟩) x_preS rfl rfl hl.1 rfl (lv_room (Nat.le_of_ble_eq_true rfl)) dX4_credit_4 ⟨Nat.le_of_ble_eq_true rfl, Nat.le_of_ble_eq_true rfl⟩) ?_
  refine x_ifB_eq (tgt := 14) hx hb dX4_credit_7 (by decide) (fun h1 => ?_) (fun h2 => ?_)
  · refine x_iconst hx hb dX4_credit_14 ?_
    refine x_put (ci := 4) (C := RX4) (T := TX4) (N := 10) (own := RX4) (index := 28) hx hb hts (by decide +kernel) tyX4 tyX4_ok nmX4 hown hK hW.ob hS ⟨by omega, by omega⟩ rfl 9 (by decide) (by decide +kernel) rfl rfl rfl rfl (Nat.le_of_ble_eq_true rfl) dX4_credit_15 (fun H1 locs1 h1 hz1 hn1 hS => ?_)
    have hW := hW.putO h1 hn1
    refine x_iconst hx hb dX4_credit_18 ?_
    refine lv_istore_n (lv' := [(2, .int (zI 0)), (0, .ref o), (1, .int (zI zs))]) hx hb dX4_credit_19 rfl hl (by decide) rfl (fun ls hl => ?_)
    refine x_iconst hx hb dX4_credit_20 ?_
    refine lv_istore_n (lv' := [(3, .int (zI 0)), (2, .int (zI 0)), (0, .ref o), (1, .int (zI zs))]) hx hb dX4_credit_21 rfl hl (by decide) rfl (fun ls hl => ?_)
    refine x_loop1 (fun (k : Nat) => (k ≤ bL b)) (fun (k : Nat) => bL b - k) (fun (k : Nat) => [(3, .int (zI (k : Int))), (2, .int (zI (cnt9 (cfP b zs) 0 k : Int))), (0, .ref o), (1, .int (zI zs))]) (0) (show ((0) ≤ bL b) from (Nat.zero_le _)) (show lv_has ls 4 [(3, .int (zI ((0) : Int))), (2, .int (zI (cnt9 (cfP b zs) 0 (0) : Int))), (0, .ref o), (1, .int (zI zs))] from (lv_cons (x_at (lv_at hl 0 rfl) (by omega)) (lv_cons (x_at (lv_at hl 1 rfl) (rfl)) (lv_cons (lv_at hl 2 rfl) (lv_cons (lv_at hl 3 rfl) (lv_nil hl)))))) (fun k ls hI22 hl ih22 => ?_)
    have hk : k ≤ bL b := hI22
    have hl : lv_has ls 4 [(3, .int (zI (k : Int))), (2, .int (zI (cnt9 (cfP b zs) 0 k : Int))), (0, .ref o), (1, .int (zI zs))] := hl
    refine lv_iload_n hx hb dX4_credit_22 rfl (lv_at hl 0 rfl) ?_
    refine lv_aload_n hx hb dX4_credit_23 rfl (lv_at hl 2 rfl) ?_
    refine x_get (ci := 4) (C := RX4) (T := TX4) (N := 10) (own := RX4) (index := 98) (v := .int (zI (bL b : Int))) hx hb hts (by decide +kernel) hown hK hW.ob rfl 3 (by decide) (by decide +kernel) rfl rfl dX4_credit_24 ?_
    refine x_icmp_ge (tgt := 71) hx hb dX4_credit_27 (by decide) (by omega) (fun h3 => ?_) (fun h4 => ?_)
    · refine lv_iload_n hx hb dX4_credit_71 rfl (lv_at hl 1 rfl) ?_
      exact x_qI hx hb hr (kR_f (by omega)) (no1) hW (if0_1) hS dX4_credit_72 hlocks
    · refine lv_aload_n hx hb dX4_credit_30 rfl (lv_at hl 2 rfl) ?_
      refine x_get (ci := 4) (C := RX4) (T := TX4) (N := 10) (own := RX4) (index := 28) (v := .int (zI 1)) hx hb hts (by decide +kernel) hown hK hW.ob rfl 9 (by decide) (by decide +kernel) rfl rfl dX4_credit_31 ?_
      refine x_if_ne (tgt := 71) hx hb dX4_credit_34 (by decide) (by omega) (fun h5 => ?_) (fun h6 => ?_)
      · refine lv_iload_n hx hb dX4_credit_71 rfl (lv_at hl 1 rfl) ?_
        exact x_qI hx hb hr (kR_f (by omega)) (no1) hW (if0_1) hS dX4_credit_72 hlocks
      · exact absurd h6 (by omega)
  · refine x_iconst hx hb dX4_credit_10 ?_
    refine lv_goto (tgt := 15) hx hb dX4_credit_11 (by decide) ?_
    refine x_put (ci := 4) (C := RX4) (T := TX4) (N := 10) (own := RX4) (index := 28) hx hb hts (by decide +kernel) tyX4 tyX4_ok nmX4 hown hK hW.ob hS ⟨by omega, by omega⟩ rfl 9 (by decide) (by decide +kernel) rfl rfl rfl rfl (Nat.le_of_ble_eq_true rfl) dX4_credit_15 (fun H1 locs1 h1 hz1 hn1 hS => ?_)
    have hW := hW.putO h1 hn1
    refine x_iconst hx hb dX4_credit_18 ?_
    refine lv_istore_n (lv' := [(2, .int (zI 0)), (0, .ref o), (1, .int (zI zs))]) hx hb dX4_credit_19 rfl hl (by decide) rfl (fun ls hl => ?_)
    refine x_iconst hx hb dX4_credit_20 ?_
    refine lv_istore_n (lv' := [(3, .int (zI 0)), (2, .int (zI 0)), (0, .ref o), (1, .int (zI zs))]) hx hb dX4_credit_21 rfl hl (by decide) rfl (fun ls hl => ?_)
    refine x_loop1 (fun (k : Nat) => (k ≤ bL b)) (fun (k : Nat) => bL b - k) (fun (k : Nat) => [(3, .int (zI (k : Int))), (2, .int (zI (cnt9 (cfP b zs) 0 k : Int))), (0, .ref o), (1, .int (zI zs))]) (0) (show ((0) ≤ bL b) from (Nat.zero_le _)) (show lv_has ls 4 [(3, .int (zI ((0) : Int))), (2, .int (zI (cnt9 (cfP b zs) 0 (0) : Int))), (0, .ref o), (1, .int (zI zs))] from (lv_cons (x_at (lv_at hl 0 rfl) (by omega)) (lv_cons (x_at (lv_at hl 1 rfl) (rfl)) (lv_cons (lv_at hl 2 rfl) (lv_cons (lv_at hl 3 rfl) (lv_nil hl)))))) (fun k ls hI22 hl ih22 => ?_)
    have hk : k ≤ bL b := hI22
    have hl : lv_has ls 4 [(3, .int (zI (k : Int))), (2, .int (zI (cnt9 (cfP b zs) 0 k : Int))), (0, .ref o), (1, .int (zI zs))] := hl
    refine lv_iload_n hx hb dX4_credit_22 rfl (lv_at hl 0 rfl) ?_
    refine lv_aload_n hx hb dX4_credit_23 rfl (lv_at hl 2 rfl) ?_
    refine x_get (ci := 4) (C := RX4) (T := TX4) (N := 10) (own := RX4) (index := 98) (v := .int (zI (bL b : Int))) hx hb hts (by decide +kernel) hown hK hW.ob rfl 3 (by decide) (by decide +kernel) rfl rfl dX4_credit_24 ?_
    refine x_icmp_ge (tgt := 71) hx hb dX4_credit_27 (by decide) (by omega) (fun h7 => ?_) (fun h8 => ?_)
    · refine lv_iload_n hx hb dX4_credit_71 rfl (lv_at hl 1 rfl) ?_
      exact x_qI hx hb hr (kR_t (by omega) rfl) (fun _ => by rw [show k = bL b from by omega]; rfl) hW (if0_t) hS dX4_credit_72 hlocks
    · refine lv_aload_n hx hb dX4_credit_30 rfl (lv_at hl 2 rfl) ?_
      refine x_get (ci := 4) (C := RX4) (T := TX4) (N := 10) (own := RX4) (index := 28) (v := .int (zI 0)) hx hb hts (by decide +kernel) hown hK hW.ob rfl 9 (by decide) (by decide +kernel) rfl rfl dX4_credit_31 ?_
      refine x_if_ne (tgt := 71) hx hb dX4_credit_34 (by decide) (by omega) (fun h9 => ?_) (fun h10 => ?_)
      · exact absurd h9 (by omega)
      · refine lv_iload_n hx hb dX4_credit_37 rfl (lv_at hl 1 rfl) ?_
        refine lv_aload_n hx hb dX4_credit_38 rfl (lv_at hl 2 rfl) ?_
        refine x_get (ci := 4) (C := RX4) (T := TX4) (N := 10) (own := RX4) (index := 25) (v := .ref (o + 6)) hx hb hts (by decide +kernel) hown hK hW.ob rfl 6 (by decide) (by decide +kernel) rfl rfl dX4_credit_39 ?_
        refine lv_iload_n hx hb dX4_credit_42 rfl (lv_at hl 0 rfl) ?_
        refine x_iald hx hb hK hW.ck (k) (by omega) (by omega) (by decide) dX4_credit_43 ?_
        have hv11 := hi.lc (k)
        refine x_iconst hx hb dX4_credit_44 ?_
        refine x_icmp_ne (tgt := 62) hx hb dX4_credit_45 (by decide) (by omega) (fun h12 => ?_) (fun h13 => ?_)
        · refine x_iconst hx hb dX4_credit_62 ?_
          refine x_iadd hx hb dX4_credit_63 ?_
          refine lv_istore_n (lv' := [(2, .int (zI ((cnt9 (cfP b zs) 0 k : Int) + 0))), (3, .int (zI (k : Int))), (0, .ref o), (1, .int (zI zs))]) hx hb dX4_credit_64 rfl hl (by decide) rfl (fun ls hl => ?_)
          refine x_iinc (lv' := [(3, .int (zI ((k : Int) + 1))), (2, .int (zI ((cnt9 (cfP b zs) 0 k : Int) + 0))), (0, .ref o), (1, .int (zI zs))]) (k := 1) hx hb dX4_credit_65 hl rfl (by decide) rfl (fun ls hl => ?_)
          refine lv_goto (tgt := 22) hx hb dX4_credit_68 (by decide) ?_
          exact ih22 (k + 1) ls (show ((k + 1) ≤ bL b) from (by omega)) (show bL b - (k + 1) < bL b - k from (by omega)) (lv_cons (x_at (lv_at hl 0 rfl) (by omega)) (lv_cons (x_at (lv_at hl 1 rfl) (by rw [cf_f (by omega)]; exact Int.add_zero _)) (lv_cons (lv_at hl 2 rfl) (lv_cons (lv_at hl 3 rfl) (lv_nil hl)))))
        · refine lv_aload_n hx hb dX4_credit_48 rfl (lv_at hl 2 rfl) ?_
          refine x_get (ci := 4) (C := RX4) (T := TX4) (N := 10) (own := RX4) (index := 22) (v := .ref (o + 5)) hx hb hts (by decide +kernel) hown hK hW.ob rfl 5 (by decide) (by decide +kernel) rfl rfl dX4_credit_49 ?_
          refine lv_iload_n hx hb dX4_credit_52 rfl (lv_at hl 0 rfl) ?_
          refine x_iald hx hb hK hW.gi (k) (by omega) (by omega) (by decide) dX4_credit_53 ?_
          have hv14 := hi.lg (k)
          refine lv_iload_n hx hb dX4_credit_54 rfl (lv_at hl 3 rfl) ?_
          refine x_icmp_ne (tgt := 62) hx hb dX4_credit_55 (by decide) (by omega) (fun h15 => ?_) (fun h16 => ?_)
          · refine x_iconst hx hb dX4_credit_62 ?_
            refine x_iadd hx hb dX4_credit_63 ?_
            refine lv_istore_n (lv' := [(2, .int (zI ((cnt9 (cfP b zs) 0 k : Int) + 0))), (3, .int (zI (k : Int))), (0, .ref o), (1, .int (zI zs))]) hx hb dX4_credit_64 rfl hl (by decide) rfl (fun ls hl => ?_)
            refine x_iinc (lv' := [(3, .int (zI ((k : Int) + 1))), (2, .int (zI ((cnt9 (cfP b zs) 0 k : Int) + 0))), (0, .ref o), (1, .int (zI zs))]) (k := 1) hx hb dX4_credit_65 hl rfl (by decide) rfl (fun ls hl => ?_)
            refine lv_goto (tgt := 22) hx hb dX4_credit_68 (by decide) ?_
            exact ih22 (k + 1) ls (show ((k + 1) ≤ bL b) from (by omega)) (show bL b - (k + 1) < bL b - k from (by omega)) (lv_cons (x_at (lv_at hl 0 rfl) (by omega)) (lv_cons (x_at (lv_at hl 1 rfl) (by rw [cf_f (by omega)]; exact Int.add_zero _)) (lv_cons (lv_at hl 2 rfl) (lv_cons (lv_at hl 3 rfl) (lv_nil hl)))))
          · refine x_iconst hx hb dX4_credit_58 ?_
            refine lv_goto (tgt := 63) hx hb dX4_credit_59 (by decide) ?_
            refine x_iadd hx hb dX4_credit_63 ?_
            refine lv_istore_n (lv' := [(2, .int (zI ((cnt9 (cfP b zs) 0 k : Int) + 1))), (3, .int (zI (k : Int))), (0, .ref o), (1, .int (zI zs))]) hx hb dX4_credit_64 rfl hl (by decide) rfl (fun ls hl => ?_)
            refine x_iinc (lv' := [(3, .int (zI ((k : Int) + 1))), (2, .int (zI ((cnt9 (cfP b zs) 0 k : Int) + 1))), (0, .ref o), (1, .int (zI zs))]) (k := 1) hx hb dX4_credit_65 hl rfl (by decide) rfl (fun ls hl => ?_)
            refine lv_goto (tgt := 22) hx hb dX4_credit_68 (by decide) ?_
            exact ih22 (k + 1) ls (show ((k + 1) ≤ bL b) from (by omega)) (show bL b - (k + 1) < bL b - k from (by omega)) (lv_cons (x_at (lv_at hl 0 rfl) (by omega)) (lv_cons (x_at (lv_at hl 1 rfl) (by rw [cf_t (by omega) (by omega)]; rfl)) (lv_cons (lv_at hl 2 rfl) (lv_cons (lv_at hl 3 rfl) (lv_nil hl)))))
set_option maxHeartbeats 4000000 in
set_option maxRecDepth 100000 in
theorem c_X4_sumWith (l : Launch) (G : XG) (o : Nat) (b : XB) (th ov un : Int) (y1 y2 : Nat) (hy1 : y1 < 4) (hy2 : y2 < 4) (z1 z2 zd ze : Int) (d e0 : Nat) (hz1 : z1 = (y1 : Int)) (hz2 : z2 = (y2 : Int)) (hzd : zd = (d : Int)) (hd : d ≤ 20) (hze : ze = (e0 : Int)) (he0 : e0 < 256) : MetI l yX4_sumWith wsX4_sumWith (rmF 1 25) (MPc G o b th ov un [.ref o, .int (zI z1), .int (zI z2), .int (zI zd), .int (zI ze)]) (sxZ (dfZ b y1 y2 d) e0) := by
  refine Met.ofW (cc := cX4_sumWith) (maxL := 8) (ret := (some .int)) (by decide) rfl ?_
  intro p e s m args below meth c s₁ B hml hv
  obtain ⟨rfl, hW, hi, hK⟩ := hv
  have hx := B.exec
  have hb := B.bytes
  have hr := B.returns
  have hts := atoms_spec (ws := wsX4_sumWith) B.pre
  have hown : s.vm.findClass RX4 = some m.cls := findClass_of_methodNamed B.named
  have hlocks := B.notSynchronized
  have hl := lv_entry ([.ref o, .int (zI z1), .int (zI z2), .int (zI zd), .int (zI ze)]) (n := 8) (Nat.le_of_ble_eq_true rfl)
  rw [lg_entry_eq]
  generalize (lg_sl ([.ref o, .int (zI z1), .int (zI z2), .int (zI zd), .int (zI ze)]) ++ List.replicate (8 - (lg_sl ([.ref o, .int (zI z1), .int (zI z2), .int (zI zd), .int (zI ze)])).length) Slot.unset).toArray = ls at hl ⊢
  have hl : lv_has ls 8 [(0, .ref o), (1, .int (zI z1)), (2, .int (zI z2)), (3, .int (zI zd)), (4, .int (zI ze))] := hl
  subst hze
  refine x_iconst hx hb dX4_sumWith_0 ?_
  refine lv_istore (lv' := [(5, .int (zI 0)), (0, .ref o), (1, .int (zI z1)), (2, .int (zI z2)), (3, .int (zI zd)), (4, .int (zI (e0 : Int)))]) hx hb dX4_sumWith_1 hl (by decide) rfl (fun ls hl => ?_)
  refine x_iconst hx hb dX4_sumWith_3 ?_
  refine lv_istore (lv' := [(6, .int (zI 0)), (5, .int (zI 0)), (0, .ref o), (1, .int (zI z1)), (2, .int (zI z2)), (3, .int (zI zd)), (4, .int (zI (e0 : Int)))]) hx hb dX4_sumWith_4 hl (by decide) rfl (fun ls hl => ?_)
  refine x_loop1 (fun (k : Nat) => (k ≤ 8)) (fun (k : Nat) => 8 - k) (fun (k : Nat) => [(6, .int (zI (k : Int))), (5, .int (zI (sum9 (sxT (dfZ b y1 y2 d) e0) 0 k))), (0, .ref o), (1, .int (zI z1)), (2, .int (zI z2)), (3, .int (zI zd)), (4, .int (zI (e0 : Int)))]) (0) (show ((0) ≤ 8) from (Nat.zero_le _)) (show lv_has ls 8 [(6, .int (zI ((0) : Int))), (5, .int (zI (sum9 (sxT (dfZ b y1 y2 d) e0) 0 (0)))), (0, .ref o), (1, .int (zI z1)), (2, .int (zI z2)), (3, .int (zI zd)), (4, .int (zI (e0 : Int)))] from (lv_cons (x_at (lv_at hl 0 rfl) (by omega)) (lv_cons (x_at (lv_at hl 1 rfl) (rfl)) (lv_cons (lv_at hl 2 rfl) (lv_cons (lv_at hl 3 rfl) (lv_cons (lv_at hl 4 rfl) (lv_cons (lv_at hl 5 rfl) (lv_cons (lv_at hl 6 rfl) (lv_nil hl))))))))) (fun k ls hI6 hl ih6 => ?_)
  have hk : k ≤ 8 := hI6
  have hl : lv_has ls 8 [(6, .int (zI (k : Int))), (5, .int (zI (sum9 (sxT (dfZ b y1 y2 d) e0) 0 k))), (0, .ref o), (1, .int (zI z1)), (2, .int (zI z2)), (3, .int (zI zd)), (4, .int (zI (e0 : Int)))] := hl
  refine lv_iload hx hb dX4_sumWith_6 (lv_at hl 0 rfl) ?_
  refine lv_bipush (v := zI 8) hx hb dX4_sumWith_8 (by decide +kernel) ?_
  refine x_icmp_ge (tgt := 72) hx hb dX4_sumWith_10 (by decide) (by omega) (fun h1 => ?_) (fun h2 => ?_)
  · refine lv_iload hx hb dX4_sumWith_72 (lv_at hl 1 rfl) ?_
    exact x_retI hx hb hr (by rw [show k = 8 from by omega]; rfl) dX4_sumWith_74 hlocks
  · refine lv_aload_n hx hb dX4_sumWith_13 rfl (lv_at hl 2 rfl) ?_
    refine lv_bipush (v := zI 8) hx hb dX4_sumWith_14 (by decide +kernel) ?_
    refine lv_iload_n hx hb dX4_sumWith_16 rfl (lv_at hl 3 rfl) ?_
    refine x_imul hx hb dX4_sumWith_17 ?_
    refine lv_iload hx hb dX4_sumWith_18 (lv_at hl 0 rfl) ?_
    refine x_iadd hx hb dX4_sumWith_20 ?_
    refine x_iconst hx hb dX4_sumWith_21 ?_
    refine lv_iload_n hx hb dX4_sumWith_22 rfl (lv_at hl 5 rfl) ?_
    refine x_cI (va_runV (As := [.int (zI ((8 * z1) + (k : Int))), .int (zI 0), .int (zI zd)]) (rest := []) ⟨hx, hb, hml, hown, hts⟩ (c_X4_relevantAmong l G o b th ov un k y1 (by omega) (by omega) ((8 * z1) + (k : Int)) (by omega) 0 zd (0) (d) (by omega) (by omega) (by omega) (by omega)) (cwV 3 hts gX4_sumWith_X4_relevantAmong rfl rfl rfl (by decide +kernel) ⟨Nat.le_of_ble_eq_true rfl, Nat.le_of_ble_eq_true rfl⟩) (x_preM hW hi hK) rfl rfl hl.1 rfl (lv_room (Nat.le_of_ble_eq_true rfl)) dX4_sumWith_23 ⟨Nat.le_of_ble_eq_true rfl, Nat.le_of_ble_eq_true rfl⟩) ?_
    refine lv_aload_n hx hb dX4_sumWith_26 rfl (lv_at hl 2 rfl) ?_
    refine lv_bipush (v := zI 8) hx hb dX4_sumWith_27 (by decide +kernel) ?_
    refine lv_iload_n hx hb dX4_sumWith_29 rfl (lv_at hl 4 rfl) ?_
    refine x_imul hx hb dX4_sumWith_30 ?_
    refine lv_iload hx hb dX4_sumWith_31 (lv_at hl 0 rfl) ?_
    refine x_iadd hx hb dX4_sumWith_33 ?_
    refine x_iconst hx hb dX4_sumWith_34 ?_
    refine lv_iload_n hx hb dX4_sumWith_35 rfl (lv_at hl 5 rfl) ?_
    refine x_cI (va_runV (As := [.int (zI ((8 * z2) + (k : Int))), .int (zI 0), .int (zI zd)]) (rest := [.int (zI (relN b k y1 (0) (d) : Int))]) ⟨hx, hb, hml, hown, hts⟩ (c_X4_relevantAmong l G o b th ov un k y2 (by omega) (by omega) ((8 * z2) + (k : Int)) (by omega) 0 zd (0) (d) (by omega) (by omega) (by omega) (by omega)) (cwV 3 hts gX4_sumWith_X4_relevantAmong rfl rfl rfl (by decide +kernel) ⟨Nat.le_of_ble_eq_true rfl, Nat.le_of_ble_eq_true rfl⟩) (x_preM hW hi hK) rfl rfl hl.1 rfl (lv_room (Nat.le_of_ble_eq_true rfl)) dX4_sumWith_36 ⟨Nat.le_of_ble_eq_true rfl, Nat.le_of_ble_eq_true rfl⟩) ?_
    refine x_isub hx hb dX4_sumWith_39 ?_
    refine lv_istore (lv' := [(7, .int (zI ((relN b k y1 (0) (d) : Int) - (relN b k y2 (0) (d) : Int)))), (6, .int (zI (k : Int))), (5, .int (zI (sum9 (sxT (dfZ b y1 y2 d) e0) 0 k))), (0, .ref o), (1, .int (zI z1)), (2, .int (zI z2)), (3, .int (zI zd)), (4, .int (zI (e0 : Int)))]) hx hb dX4_sumWith_40 hl (by decide) rfl (fun ls hl => ?_)
    refine lv_iload hx hb dX4_sumWith_42 (lv_at hl 2 rfl) ?_
    refine lv_iload hx hb dX4_sumWith_44 (lv_at hl 7 rfl) ?_
    refine lv_iload hx hb dX4_sumWith_46 (lv_at hl 1 rfl) ?_
    refine x_ishr hx hb (by omega) (by omega) dX4_sumWith_48 ?_
    refine x_iconst hx hb dX4_sumWith_49 ?_
    refine x_iand1 hx hb (Nat.lt_of_le_of_lt (Nat.div_le_self _ _) (by omega)) dX4_sumWith_50 ?_
    refine x_iconst hx hb dX4_sumWith_51 ?_
    refine x_icmp_ne (tgt := 61) hx hb dX4_sumWith_52 (by decide) (by omega) (fun h3 => ?_) (fun h4 => ?_)
    · refine lv_iload hx hb dX4_sumWith_61 (lv_at hl 0 rfl) ?_
      refine x_iadd hx hb dX4_sumWith_63 ?_
      refine lv_istore (lv' := [(5, .int (zI ((sum9 (sxT (dfZ b y1 y2 d) e0) 0 k) + ((relN b k y1 (0) (d) : Int) - (relN b k y2 (0) (d) : Int))))), (7, .int (zI ((relN b k y1 (0) (d) : Int) - (relN b k y2 (0) (d) : Int)))), (6, .int (zI (k : Int))), (0, .ref o), (1, .int (zI z1)), (2, .int (zI z2)), (3, .int (zI zd)), (4, .int (zI (e0 : Int)))]) hx hb dX4_sumWith_64 hl (by decide) rfl (fun ls hl => ?_)
      refine x_iinc (lv' := [(6, .int (zI ((k : Int) + 1))), (5, .int (zI ((sum9 (sxT (dfZ b y1 y2 d) e0) 0 k) + ((relN b k y1 (0) (d) : Int) - (relN b k y2 (0) (d) : Int))))), (7, .int (zI ((relN b k y1 (0) (d) : Int) - (relN b k y2 (0) (d) : Int)))), (0, .ref o), (1, .int (zI z1)), (2, .int (zI z2)), (3, .int (zI zd)), (4, .int (zI (e0 : Int)))]) (k := 2) hx hb dX4_sumWith_66 hl rfl (by decide) rfl (fun ls hl => ?_)
      refine lv_goto (tgt := 6) hx hb dX4_sumWith_69 (by decide) ?_
      exact ih6 (k + 1) ls (show ((k + 1) ≤ 8) from (by omega)) (show 8 - (k + 1) < 8 - k from (by omega)) (lv_cons (x_at (lv_at hl 0 rfl) (by omega)) (lv_cons (x_at (lv_at hl 1 rfl) (by rw [sum9_s, Nat.zero_add, sxT, if_neg (by omega)]; rfl)) (lv_cons (lv_at hl 3 rfl) (lv_cons (lv_at hl 4 rfl) (lv_cons (lv_at hl 5 rfl) (lv_cons (lv_at hl 6 rfl) (lv_cons (lv_at hl 7 rfl) (lv_nil hl))))))))
    · refine lv_iload hx hb dX4_sumWith_55 (lv_at hl 0 rfl) ?_
      refine x_ineg hx hb dX4_sumWith_57 ?_
      refine lv_goto (tgt := 63) hx hb dX4_sumWith_58 (by decide) ?_
      refine x_iadd hx hb dX4_sumWith_63 ?_
      refine lv_istore (lv' := [(5, .int (zI ((sum9 (sxT (dfZ b y1 y2 d) e0) 0 k) + (-((relN b k y1 (0) (d) : Int) - (relN b k y2 (0) (d) : Int)))))), (7, .int (zI ((relN b k y1 (0) (d) : Int) - (relN b k y2 (0) (d) : Int)))), (6, .int (zI (k : Int))), (0, .ref o), (1, .int (zI z1)), (2, .int (zI z2)), (3, .int (zI zd)), (4, .int (zI (e0 : Int)))]) hx hb dX4_sumWith_64 hl (by decide) rfl (fun ls hl => ?_)
      refine x_iinc (lv' := [(6, .int (zI ((k : Int) + 1))), (5, .int (zI ((sum9 (sxT (dfZ b y1 y2 d) e0) 0 k) + (-((relN b k y1 (0) (d) : Int) - (relN b k y2 (0) (d) : Int)))))), (7, .int (zI ((relN b k y1 (0) (d) : Int) - (relN b k y2 (0) (d) : Int)))), (0, .ref o), (1, .int (zI z1)), (2, .int (zI z2)), (3, .int (zI zd)), (4, .int (zI (e0 : Int)))]) (k := 2) hx hb dX4_sumWith_66 hl rfl (by decide) rfl (fun ls hl => ?_)
      refine lv_goto (tgt := 6) hx hb dX4_sumWith_69 (by decide) ?_
      exact ih6 (k + 1) ls (show ((k + 1) ≤ 8) from (by omega)) (show 8 - (k + 1) < 8 - k from (by omega)) (lv_cons (x_at (lv_at hl 0 rfl) (by omega)) (lv_cons (x_at (lv_at hl 1 rfl) (by rw [sum9_s, Nat.zero_add, sxT, if_pos (by omega)]; rfl)) (lv_cons (lv_at hl 3 rfl) (lv_cons (lv_at hl 4 rfl) (lv_cons (lv_at hl 5 rfl) (lv_cons (lv_at hl 6 rfl) (lv_cons (lv_at hl 7 rfl) (lv_nil hl))))))))
set_option maxHeartbeats 4000000 in
set_option maxRecDepth 100000 in
theorem c_X4_sum (l : Launch) (G : XG) (o : Nat) (b : XB) (th ov un : Int) (z1 : Int) (hz1 : -2147483648 ≤ z1 ∧ z1 < 2147483648) (z2 : Int) (hz2 : -2147483648 ≤ z2 ∧ z2 < 2147483648) (zr : Int) (hzr : -2147483648 ≤ zr ∧ zr < 2147483648) : MetQI l yX4_sum wsX4_sum (rmF 2 52) G o b th ov un [.ref o, .int (zI z1), .int (zI z2), .int (zI zr)] (kR ((0 ≤ z1 ∧ z1 < 4) ∧ (0 ≤ z2 ∧ z2 < 4) ∧ (1 ≤ zr ∧ zr ≤ 20)) 0) (sxZ (dfZ b z1.toNat z2.toNat zr.toNat) 0) b := by
  refine Met.ofW (cc := cX4_sum) (maxL := 4) (ret := (some .int)) (by decide) rfl ?_
  intro p e s m args below meth c s₁ B hml hv
  obtain ⟨rfl, hW, hi, hK⟩ := hv
  have hx := B.exec
  have hb := B.bytes
  have hr := B.returns
  have hts := atoms_spec (ws := wsX4_sum) B.pre
  have hown : s.vm.findClass RX4 = some m.cls := findClass_of_methodNamed B.named
  have hlocks := B.notSynchronized
  have hl := lv_entry ([.ref o, .int (zI z1), .int (zI z2), .int (zI zr)]) (n := 4) (Nat.le_of_ble_eq_true rfl)
  rw [lg_entry_eq]
  generalize (lg_sl ([.ref o, .int (zI z1), .int (zI z2), .int (zI zr)]) ++ List.replicate (4 - (lg_sl ([.ref o, .int (zI z1), .int (zI z2), .int (zI zr)])).length) Slot.unset).toArray = ls at hl ⊢
  have hl : lv_has ls 4 [(0, .ref o), (1, .int (zI z1)), (2, .int (zI z2)), (3, .int (zI zr))] := hl
  have hS : va_S (mA o) s.heap s.heap [] := va_S.rf
  refine lv_aload_n hx hb dX4_sum_0 rfl (lv_at hl 0 rfl) ?_
  refine lv_iload_n hx hb dX4_sum_1 rfl (lv_at hl 1 rfl) ?_
  refine lv_iload_n hx hb dX4_sum_2 rfl (lv_at hl 2 rfl) ?_
  refine lv_iload_n hx hb dX4_sum_3 rfl (lv_at hl 3 rfl) ?_
  refine x_wI (va_runV (As := [.int (zI z1), .int (zI z2), .int (zI zr)]) (rest := []) ⟨hx, hb, hml, hown, hts⟩ (c_X4_isTest l G o b th ov un z1 (by omega) z2 (by omega) zr (by omega)) (cwV 3 hts gX4_sum_X4_isTest rfl rfl rfl (by decide +kernel) ⟨Nat.le_of_ble_eq_true rfl, Nat.le_of_ble_eq_true rfl⟩) (x_preM hW hi hK) rfl rfl hl.1 rfl (lv_room (Nat.le_of_ble_eq_true rfl)) dX4_sum_4 ⟨Nat.le_of_ble_eq_true rfl, Nat.le_of_ble_eq_true rfl⟩) hS (fun q _ h => h) (fun q h => h) (fun H1 locs1 hW1 hz1 hk1 hS => ?_)
  have hW := hW1
  refine x_ifB_eq (tgt := 21) hx hb dX4_sum_7 (by decide) (fun h1 => ?_) (fun h2 => ?_)
  · replace hW := hW.th (kR_f h1)
    refine x_iconst hx hb dX4_sum_21 ?_
    exact x_qI hx hb hr (kR_f (by omega)) (no1) hW (if0_1) hS dX4_sum_22 hlocks
  · replace hW := hW.th (kR_t h2 rfl)
    obtain ⟨y1, rfl⟩ : ∃ y1 : Nat, z1 = (y1 : Int) := ⟨z1.toNat, by omega⟩
    obtain ⟨y2, rfl⟩ : ∃ y2 : Nat, z2 = (y2 : Int) := ⟨z2.toNat, by omega⟩
    obtain ⟨d, rfl⟩ : ∃ d : Nat, zr = (d : Int) := ⟨zr.toNat, by omega⟩
    refine lv_aload_n hx hb dX4_sum_10 rfl (lv_at hl 0 rfl) ?_
    refine lv_iload_n hx hb dX4_sum_11 rfl (lv_at hl 1 rfl) ?_
    refine lv_iload_n hx hb dX4_sum_12 rfl (lv_at hl 2 rfl) ?_
    refine lv_iload_n hx hb dX4_sum_13 rfl (lv_at hl 3 rfl) ?_
    refine x_iconst hx hb dX4_sum_14 ?_
    refine x_cI (va_runV (As := [.int (zI (y1 : Int)), .int (zI (y2 : Int)), .int (zI (d : Int)), .int (zI 0)]) (rest := []) ⟨hx, hb, hml, hown, hts⟩ (c_X4_sumWith l G o b 0 ov un y1 y2 (by omega) (by omega) (y1 : Int) (y2 : Int) (d : Int) 0 d (0) (by omega) (by omega) (by omega) (by omega) (by omega) (by omega)) (cwV 4 hts gX4_sum_X4_sumWith rfl rfl rfl (by decide +kernel) ⟨Nat.le_of_ble_eq_true rfl, Nat.le_of_ble_eq_true rfl⟩) (x_preM hW hi hK) rfl rfl hl.1 rfl (lv_room (Nat.le_of_ble_eq_true rfl)) dX4_sum_15 ⟨Nat.le_of_ble_eq_true rfl, Nat.le_of_ble_eq_true rfl⟩) ?_
    refine lv_goto (tgt := 22) hx hb dX4_sum_18 (by decide) ?_
    exact x_qI hx hb hr (kR_t (by omega) rfl) (fun _ => rfl) hW (if0_t) hS dX4_sum_22 hlocks
set_option maxHeartbeats 4000000 in
set_option maxRecDepth 100000 in
theorem c_X4_test (l : Launch) (G : XG) (o : Nat) (b : XB) (th ov un : Int) (z1 : Int) (hz1 : -2147483648 ≤ z1 ∧ z1 < 2147483648) (z2 : Int) (hz2 : -2147483648 ≤ z2 ∧ z2 < 2147483648) (zr : Int) (hzr : -2147483648 ≤ zr ∧ zr < 2147483648) : MetQI l yX4_test wsX4_test (rmF 2 52) G o b th ov un [.ref o, .int (zI z1), .int (zI z2), .int (zI zr)] (kR ((0 ≤ z1 ∧ z1 < 4) ∧ (0 ≤ z2 ∧ z2 < 4) ∧ (1 ≤ zr ∧ zr ≤ 20)) 0) (tsN (dfZ b z1.toNat z2.toNat zr.toNat) : Int) b := by
  refine Met.ofW (cc := cX4_test) (maxL := 9) (ret := (some .int)) (by decide) rfl ?_
  intro p e s m args below meth c s₁ B hml hv
  obtain ⟨rfl, hW, hi, hK⟩ := hv
  have hx := B.exec
  have hb := B.bytes
  have hr := B.returns
  have hts := atoms_spec (ws := wsX4_test) B.pre
  have hown : s.vm.findClass RX4 = some m.cls := findClass_of_methodNamed B.named
  have hlocks := B.notSynchronized
  have hl := lv_entry ([.ref o, .int (zI z1), .int (zI z2), .int (zI zr)]) (n := 9) (Nat.le_of_ble_eq_true rfl)
  rw [lg_entry_eq]
  generalize (lg_sl ([.ref o, .int (zI z1), .int (zI z2), .int (zI zr)]) ++ List.replicate (9 - (lg_sl ([.ref o, .int (zI z1), .int (zI z2), .int (zI zr)])).length) Slot.unset).toArray = ls at hl ⊢
  have hl : lv_has ls 9 [(0, .ref o), (1, .int (zI z1)), (2, .int (zI z2)), (3, .int (zI zr))] := hl
  have hS : va_S (mA o) s.heap s.heap [] := va_S.rf
  refine lv_aload_n hx hb dX4_test_0 rfl (lv_at hl 0 rfl) ?_
  refine lv_iload_n hx hb dX4_test_1 rfl (lv_at hl 1 rfl) ?_
  refine lv_iload_n hx hb dX4_test_2 rfl (lv_at hl 2 rfl) ?_
  refine lv_iload_n hx hb dX4_test_3 rfl (lv_at hl 3 rfl) ?_
  refine x_wI (va_runV (As := [.int (zI z1), .int (zI z2), .int (zI zr)]) (rest := []) ⟨hx, hb, hml, hown, hts⟩ (c_X4_isTest l G o b th ov un z1 (by omega) z2 (by omega) zr (by omega)) (cwV 3 hts gX4_test_X4_isTest rfl rfl rfl (by decide +kernel) ⟨Nat.le_of_ble_eq_true rfl, Nat.le_of_ble_eq_true rfl⟩) (x_preM hW hi hK) rfl rfl hl.1 rfl (lv_room (Nat.le_of_ble_eq_true rfl)) dX4_test_4 ⟨Nat.le_of_ble_eq_true rfl, Nat.le_of_ble_eq_true rfl⟩) hS (fun q _ h => h) (fun q h => h) (fun H1 locs1 hW1 hz1 hk1 hS => ?_)
  have hW := hW1
  refine x_ifB_ne (tgt := 12) hx hb dX4_test_7 (by decide) (fun h1 => ?_) (fun h2 => ?_)
  · replace hW := hW.th (kR_t h1 rfl)
    obtain ⟨y1, rfl⟩ : ∃ y1 : Nat, z1 = (y1 : Int) := ⟨z1.toNat, by omega⟩
    obtain ⟨y2, rfl⟩ : ∃ y2 : Nat, z2 = (y2 : Int) := ⟨z2.toNat, by omega⟩
    obtain ⟨d, rfl⟩ : ∃ d : Nat, zr = (d : Int) := ⟨zr.toNat, by omega⟩
    refine lv_aload_n hx hb dX4_test_12 rfl (lv_at hl 0 rfl) ?_
    refine lv_iload_n hx hb dX4_test_13 rfl (lv_at hl 1 rfl) ?_
    refine lv_iload_n hx hb dX4_test_14 rfl (lv_at hl 2 rfl) ?_
    refine lv_iload_n hx hb dX4_test_15 rfl (lv_at hl 3 rfl) ?_
    refine x_iconst hx hb dX4_test_16 ?_
    refine x_cI (va_runV (As := [.int (zI (y1 : Int)), .int (zI (y2 : Int)), .int (zI (d : Int)), .int (zI 0)]) (rest := []) ⟨hx, hb, hml, hown, hts⟩ (c_X4_sumWith l G o b 0 ov un y1 y2 (by omega) (by omega) (y1 : Int) (y2 : Int) (d : Int) 0 d (0) (by omega) (by omega) (by omega) (by omega) (by omega) (by omega)) (cwV 4 hts gX4_test_X4_sumWith rfl rfl rfl (by decide +kernel) ⟨Nat.le_of_ble_eq_true rfl, Nat.le_of_ble_eq_true rfl⟩) (x_preM hW hi hK) rfl rfl hl.1 rfl (lv_room (Nat.le_of_ble_eq_true rfl)) dX4_test_17 ⟨Nat.le_of_ble_eq_true rfl, Nat.le_of_ble_eq_true rfl⟩) ?_
    refine lv_istore (lv' := [(4, .int (zI (sxZ (dfZ b y1 y2 d) (0)))), (0, .ref o), (1, .int (zI (y1 : Int))), (2, .int (zI (y2 : Int))), (3, .int (zI (d : Int)))]) hx hb dX4_test_20 hl (by decide) rfl (fun ls hl => ?_)
    have hdb : ∀ j, j < 8 → -20 ≤ dfZ b y1 y2 d j ∧ dfZ b y1 y2 d j ≤ 20 := fun j hj => dfZ_bd b y1 y2 (by omega) j
    have hs0 := sxZ_bd hdb 0
    refine lv_iload hx hb dX4_test_22 (lv_at hl 0 rfl) ?_
    refine x_if_ge (tgt := 33) hx hb dX4_test_24 (by decide) (by omega) (fun h3 => ?_) (fun h4 => ?_)
    · refine lv_iload hx hb dX4_test_33 (lv_at hl 0 rfl) ?_
      refine lv_istore (lv' := [(5, .int (zI (sxZ (dfZ b y1 y2 d) (0)))), (4, .int (zI (sxZ (dfZ b y1 y2 d) (0)))), (0, .ref o), (1, .int (zI (y1 : Int))), (2, .int (zI (y2 : Int))), (3, .int (zI (d : Int)))]) hx hb dX4_test_35 hl (by decide) rfl (fun ls hl => ?_)
      refine x_iconst hx hb dX4_test_37 ?_
      refine lv_istore (lv' := [(6, .int (zI 0)), (5, .int (zI (sxZ (dfZ b y1 y2 d) (0)))), (4, .int (zI (sxZ (dfZ b y1 y2 d) (0)))), (0, .ref o), (1, .int (zI (y1 : Int))), (2, .int (zI (y2 : Int))), (3, .int (zI (d : Int)))]) hx hb dX4_test_38 hl (by decide) rfl (fun ls hl => ?_)
      refine x_iconst hx hb dX4_test_40 ?_
      refine lv_istore (lv' := [(7, .int (zI 0)), (6, .int (zI 0)), (5, .int (zI (sxZ (dfZ b y1 y2 d) (0)))), (4, .int (zI (sxZ (dfZ b y1 y2 d) (0)))), (0, .ref o), (1, .int (zI (y1 : Int))), (2, .int (zI (y2 : Int))), (3, .int (zI (d : Int)))]) hx hb dX4_test_41 hl (by decide) rfl (fun ls hl => ?_)
      refine x_loop1 (fun (k : Nat) => (k ≤ 256) ∧ (cnt9 (tsP (dfZ b y1 y2 d)) 0 k ≤ k)) (fun (k : Nat) => 256 - k) (fun (k : Nat) => [(7, .int (zI (k : Int))), (6, .int (zI (cnt9 (tsP (dfZ b y1 y2 d)) 0 k : Int))), (5, .int (zI (max (sxZ (dfZ b y1 y2 d) (0)) (-(sxZ (dfZ b y1 y2 d) (0)))))), (0, .ref o), (1, .int (zI (y1 : Int))), (2, .int (zI (y2 : Int))), (3, .int (zI (d : Int)))]) (0) (show ((0) ≤ 256) ∧ (cnt9 (tsP (dfZ b y1 y2 d)) 0 (0) ≤ (0)) from ⟨(Nat.zero_le _), (cnt9_le _ _ _)⟩) (show lv_has ls 9 [(7, .int (zI ((0) : Int))), (6, .int (zI (cnt9 (tsP (dfZ b y1 y2 d)) 0 (0) : Int))), (5, .int (zI (max (sxZ (dfZ b y1 y2 d) (0)) (-(sxZ (dfZ b y1 y2 d) (0)))))), (0, .ref o), (1, .int (zI (y1 : Int))), (2, .int (zI (y2 : Int))), (3, .int (zI (d : Int)))] from (lv_cons (x_at (lv_at hl 0 rfl) (by omega)) (lv_cons (x_at (lv_at hl 1 rfl) (rfl)) (lv_cons (x_at (lv_at hl 2 rfl) (by omega)) (lv_cons (lv_at hl 4 rfl) (lv_cons (lv_at hl 5 rfl) (lv_cons (lv_at hl 6 rfl) (lv_cons (lv_at hl 7 rfl) (lv_nil hl))))))))) (fun k ls hI43 hl ih43 => ?_)
      obtain ⟨hk, hc⟩ : (k ≤ 256) ∧ (cnt9 (tsP (dfZ b y1 y2 d)) 0 k ≤ k) := hI43
      have hl : lv_has ls 9 [(7, .int (zI (k : Int))), (6, .int (zI (cnt9 (tsP (dfZ b y1 y2 d)) 0 k : Int))), (5, .int (zI (max (sxZ (dfZ b y1 y2 d) (0)) (-(sxZ (dfZ b y1 y2 d) (0)))))), (0, .ref o), (1, .int (zI (y1 : Int))), (2, .int (zI (y2 : Int))), (3, .int (zI (d : Int)))] := hl
      refine lv_iload hx hb dX4_test_43 (lv_at hl 0 rfl) ?_
      refine lv_sipush (v := zI 256) hx hb dX4_test_45 (by decide +kernel) ?_
      refine x_icmp_ge (tgt := 93) hx hb dX4_test_48 (by decide) (by omega) (fun h5 => ?_) (fun h6 => ?_)
      · refine lv_iload hx hb dX4_test_93 (lv_at hl 1 rfl) ?_
        exact x_qI hx hb hr (kR_t (by omega) rfl) (fun _ => by rw [show k = 256 from by omega]; rfl) hW (if0_t) hS dX4_test_95 hlocks
      · refine lv_aload_n hx hb dX4_test_51 rfl (lv_at hl 3 rfl) ?_
        refine lv_iload_n hx hb dX4_test_52 rfl (lv_at hl 4 rfl) ?_
        refine lv_iload_n hx hb dX4_test_53 rfl (lv_at hl 5 rfl) ?_
        refine lv_iload_n hx hb dX4_test_54 rfl (lv_at hl 6 rfl) ?_
        refine lv_iload hx hb dX4_test_55 (lv_at hl 0 rfl) ?_
        refine x_cI (va_runV (As := [.int (zI (y1 : Int)), .int (zI (y2 : Int)), .int (zI (d : Int)), .int (zI (k : Int))]) (rest := []) ⟨hx, hb, hml, hown, hts⟩ (c_X4_sumWith l G o b 0 ov un y1 y2 (by omega) (by omega) (y1 : Int) (y2 : Int) (d : Int) (k : Int) d (k) (by omega) (by omega) (by omega) (by omega) (by omega) (by omega)) (cwV 4 hts gX4_test_X4_sumWith rfl rfl rfl (by decide +kernel) ⟨Nat.le_of_ble_eq_true rfl, Nat.le_of_ble_eq_true rfl⟩) (x_preM hW hi hK) rfl rfl hl.1 rfl (lv_room (Nat.le_of_ble_eq_true rfl)) dX4_test_57 ⟨Nat.le_of_ble_eq_true rfl, Nat.le_of_ble_eq_true rfl⟩) ?_
        refine lv_istore (lv' := [(8, .int (zI (sxZ (dfZ b y1 y2 d) (k)))), (7, .int (zI (k : Int))), (6, .int (zI (cnt9 (tsP (dfZ b y1 y2 d)) 0 k : Int))), (5, .int (zI (max (sxZ (dfZ b y1 y2 d) (0)) (-(sxZ (dfZ b y1 y2 d) (0)))))), (0, .ref o), (1, .int (zI (y1 : Int))), (2, .int (zI (y2 : Int))), (3, .int (zI (d : Int)))]) hx hb dX4_test_60 hl (by decide) rfl (fun ls hl => ?_)
        have hsk := sxZ_bd hdb k
        refine lv_iload hx hb dX4_test_62 (lv_at hl 2 rfl) ?_
        refine lv_iload hx hb dX4_test_64 (lv_at hl 0 rfl) ?_
        refine lv_iload hx hb dX4_test_66 (lv_at hl 3 rfl) ?_
        refine x_icmp_ge (tgt := 79) hx hb dX4_test_68 (by decide) (by omega) (fun h7 => ?_) (fun h8 => ?_)
        · refine x_iconst hx hb dX4_test_79 ?_
          refine lv_goto (tgt := 84) hx hb dX4_test_80 (by decide) ?_
          refine x_iadd hx hb dX4_test_84 ?_
          refine lv_istore (lv' := [(6, .int (zI ((cnt9 (tsP (dfZ b y1 y2 d)) 0 k : Int) + 1))), (8, .int (zI (sxZ (dfZ b y1 y2 d) (k)))), (7, .int (zI (k : Int))), (5, .int (zI (max (sxZ (dfZ b y1 y2 d) (0)) (-(sxZ (dfZ b y1 y2 d) (0)))))), (0, .ref o), (1, .int (zI (y1 : Int))), (2, .int (zI (y2 : Int))), (3, .int (zI (d : Int)))]) hx hb dX4_test_85 hl (by decide) rfl (fun ls hl => ?_)
          refine x_iinc (lv' := [(7, .int (zI ((k : Int) + 1))), (6, .int (zI ((cnt9 (tsP (dfZ b y1 y2 d)) 0 k : Int) + 1))), (8, .int (zI (sxZ (dfZ b y1 y2 d) (k)))), (5, .int (zI (max (sxZ (dfZ b y1 y2 d) (0)) (-(sxZ (dfZ b y1 y2 d) (0)))))), (0, .ref o), (1, .int (zI (y1 : Int))), (2, .int (zI (y2 : Int))), (3, .int (zI (d : Int)))]) (k := 2) hx hb dX4_test_87 hl rfl (by decide) rfl (fun ls hl => ?_)
          refine lv_goto (tgt := 43) hx hb dX4_test_90 (by decide) ?_
          exact ih43 (k + 1) ls (show ((k + 1) ≤ 256) ∧ (cnt9 (tsP (dfZ b y1 y2 d)) 0 (k + 1) ≤ (k + 1)) from ⟨(by omega), (cnt9_le _ _ _)⟩) (show 256 - (k + 1) < 256 - k from (by omega)) (lv_cons (x_at (lv_at hl 0 rfl) (by omega)) (lv_cons (x_at (lv_at hl 1 rfl) (by rw [ts_t (by omega)]; rfl)) (lv_cons (lv_at hl 3 rfl) (lv_cons (lv_at hl 4 rfl) (lv_cons (lv_at hl 5 rfl) (lv_cons (lv_at hl 6 rfl) (lv_cons (lv_at hl 7 rfl) (lv_nil hl))))))))
        · refine lv_iload hx hb dX4_test_71 (lv_at hl 0 rfl) ?_
          refine x_ineg hx hb dX4_test_73 ?_
          refine lv_iload hx hb dX4_test_74 (lv_at hl 3 rfl) ?_
          refine x_icmp_lt (tgt := 83) hx hb dX4_test_76 (by decide) (by omega) (fun h9 => ?_) (fun h10 => ?_)
          · refine x_iconst hx hb dX4_test_83 ?_
            refine x_iadd hx hb dX4_test_84 ?_
            refine lv_istore (lv' := [(6, .int (zI ((cnt9 (tsP (dfZ b y1 y2 d)) 0 k : Int) + 0))), (8, .int (zI (sxZ (dfZ b y1 y2 d) (k)))), (7, .int (zI (k : Int))), (5, .int (zI (max (sxZ (dfZ b y1 y2 d) (0)) (-(sxZ (dfZ b y1 y2 d) (0)))))), (0, .ref o), (1, .int (zI (y1 : Int))), (2, .int (zI (y2 : Int))), (3, .int (zI (d : Int)))]) hx hb dX4_test_85 hl (by decide) rfl (fun ls hl => ?_)
            refine x_iinc (lv' := [(7, .int (zI ((k : Int) + 1))), (6, .int (zI ((cnt9 (tsP (dfZ b y1 y2 d)) 0 k : Int) + 0))), (8, .int (zI (sxZ (dfZ b y1 y2 d) (k)))), (5, .int (zI (max (sxZ (dfZ b y1 y2 d) (0)) (-(sxZ (dfZ b y1 y2 d) (0)))))), (0, .ref o), (1, .int (zI (y1 : Int))), (2, .int (zI (y2 : Int))), (3, .int (zI (d : Int)))]) (k := 2) hx hb dX4_test_87 hl rfl (by decide) rfl (fun ls hl => ?_)
            refine lv_goto (tgt := 43) hx hb dX4_test_90 (by decide) ?_
            exact ih43 (k + 1) ls (show ((k + 1) ≤ 256) ∧ (cnt9 (tsP (dfZ b y1 y2 d)) 0 (k + 1) ≤ (k + 1)) from ⟨(by omega), (cnt9_le _ _ _)⟩) (show 256 - (k + 1) < 256 - k from (by omega)) (lv_cons (x_at (lv_at hl 0 rfl) (by omega)) (lv_cons (x_at (lv_at hl 1 rfl) (by rw [ts_f (by omega)]; exact Int.add_zero _)) (lv_cons (lv_at hl 3 rfl) (lv_cons (lv_at hl 4 rfl) (lv_cons (lv_at hl 5 rfl) (lv_cons (lv_at hl 6 rfl) (lv_cons (lv_at hl 7 rfl) (lv_nil hl))))))))
          · refine x_iconst hx hb dX4_test_79 ?_
            refine lv_goto (tgt := 84) hx hb dX4_test_80 (by decide) ?_
            refine x_iadd hx hb dX4_test_84 ?_
            refine lv_istore (lv' := [(6, .int (zI ((cnt9 (tsP (dfZ b y1 y2 d)) 0 k : Int) + 1))), (8, .int (zI (sxZ (dfZ b y1 y2 d) (k)))), (7, .int (zI (k : Int))), (5, .int (zI (max (sxZ (dfZ b y1 y2 d) (0)) (-(sxZ (dfZ b y1 y2 d) (0)))))), (0, .ref o), (1, .int (zI (y1 : Int))), (2, .int (zI (y2 : Int))), (3, .int (zI (d : Int)))]) hx hb dX4_test_85 hl (by decide) rfl (fun ls hl => ?_)
            refine x_iinc (lv' := [(7, .int (zI ((k : Int) + 1))), (6, .int (zI ((cnt9 (tsP (dfZ b y1 y2 d)) 0 k : Int) + 1))), (8, .int (zI (sxZ (dfZ b y1 y2 d) (k)))), (5, .int (zI (max (sxZ (dfZ b y1 y2 d) (0)) (-(sxZ (dfZ b y1 y2 d) (0)))))), (0, .ref o), (1, .int (zI (y1 : Int))), (2, .int (zI (y2 : Int))), (3, .int (zI (d : Int)))]) (k := 2) hx hb dX4_test_87 hl rfl (by decide) rfl (fun ls hl => ?_)
            refine lv_goto (tgt := 43) hx hb dX4_test_90 (by decide) ?_
            exact ih43 (k + 1) ls (show ((k + 1) ≤ 256) ∧ (cnt9 (tsP (dfZ b y1 y2 d)) 0 (k + 1) ≤ (k + 1)) from ⟨(by omega), (cnt9_le _ _ _)⟩) (show 256 - (k + 1) < 256 - k from (by omega)) (lv_cons (x_at (lv_at hl 0 rfl) (by omega)) (lv_cons (x_at (lv_at hl 1 rfl) (by rw [ts_t (by omega)]; rfl)) (lv_cons (lv_at hl 3 rfl) (lv_cons (lv_at hl 4 rfl) (lv_cons (lv_at hl 5 rfl) (lv_cons (lv_at hl 6 rfl) (lv_cons (lv_at hl 7 rfl) (lv_nil hl))))))))
    · refine lv_iload hx hb dX4_test_27 (lv_at hl 0 rfl) ?_
      refine x_ineg hx hb dX4_test_29 ?_
      refine lv_goto (tgt := 35) hx hb dX4_test_30 (by decide) ?_
      refine lv_istore (lv' := [(5, .int (zI (-(sxZ (dfZ b y1 y2 d) (0))))), (4, .int (zI (sxZ (dfZ b y1 y2 d) (0)))), (0, .ref o), (1, .int (zI (y1 : Int))), (2, .int (zI (y2 : Int))), (3, .int (zI (d : Int)))]) hx hb dX4_test_35 hl (by decide) rfl (fun ls hl => ?_)
      refine x_iconst hx hb dX4_test_37 ?_
      refine lv_istore (lv' := [(6, .int (zI 0)), (5, .int (zI (-(sxZ (dfZ b y1 y2 d) (0))))), (4, .int (zI (sxZ (dfZ b y1 y2 d) (0)))), (0, .ref o), (1, .int (zI (y1 : Int))), (2, .int (zI (y2 : Int))), (3, .int (zI (d : Int)))]) hx hb dX4_test_38 hl (by decide) rfl (fun ls hl => ?_)
      refine x_iconst hx hb dX4_test_40 ?_
      refine lv_istore (lv' := [(7, .int (zI 0)), (6, .int (zI 0)), (5, .int (zI (-(sxZ (dfZ b y1 y2 d) (0))))), (4, .int (zI (sxZ (dfZ b y1 y2 d) (0)))), (0, .ref o), (1, .int (zI (y1 : Int))), (2, .int (zI (y2 : Int))), (3, .int (zI (d : Int)))]) hx hb dX4_test_41 hl (by decide) rfl (fun ls hl => ?_)
      refine x_loop1 (fun (k : Nat) => (k ≤ 256) ∧ (cnt9 (tsP (dfZ b y1 y2 d)) 0 k ≤ k)) (fun (k : Nat) => 256 - k) (fun (k : Nat) => [(7, .int (zI (k : Int))), (6, .int (zI (cnt9 (tsP (dfZ b y1 y2 d)) 0 k : Int))), (5, .int (zI (max (sxZ (dfZ b y1 y2 d) (0)) (-(sxZ (dfZ b y1 y2 d) (0)))))), (0, .ref o), (1, .int (zI (y1 : Int))), (2, .int (zI (y2 : Int))), (3, .int (zI (d : Int)))]) (0) (show ((0) ≤ 256) ∧ (cnt9 (tsP (dfZ b y1 y2 d)) 0 (0) ≤ (0)) from ⟨(Nat.zero_le _), (cnt9_le _ _ _)⟩) (show lv_has ls 9 [(7, .int (zI ((0) : Int))), (6, .int (zI (cnt9 (tsP (dfZ b y1 y2 d)) 0 (0) : Int))), (5, .int (zI (max (sxZ (dfZ b y1 y2 d) (0)) (-(sxZ (dfZ b y1 y2 d) (0)))))), (0, .ref o), (1, .int (zI (y1 : Int))), (2, .int (zI (y2 : Int))), (3, .int (zI (d : Int)))] from (lv_cons (x_at (lv_at hl 0 rfl) (by omega)) (lv_cons (x_at (lv_at hl 1 rfl) (rfl)) (lv_cons (x_at (lv_at hl 2 rfl) (by omega)) (lv_cons (lv_at hl 4 rfl) (lv_cons (lv_at hl 5 rfl) (lv_cons (lv_at hl 6 rfl) (lv_cons (lv_at hl 7 rfl) (lv_nil hl))))))))) (fun k ls hI43 hl ih43 => ?_)
      obtain ⟨hk, hc⟩ : (k ≤ 256) ∧ (cnt9 (tsP (dfZ b y1 y2 d)) 0 k ≤ k) := hI43
      have hl : lv_has ls 9 [(7, .int (zI (k : Int))), (6, .int (zI (cnt9 (tsP (dfZ b y1 y2 d)) 0 k : Int))), (5, .int (zI (max (sxZ (dfZ b y1 y2 d) (0)) (-(sxZ (dfZ b y1 y2 d) (0)))))), (0, .ref o), (1, .int (zI (y1 : Int))), (2, .int (zI (y2 : Int))), (3, .int (zI (d : Int)))] := hl
      refine lv_iload hx hb dX4_test_43 (lv_at hl 0 rfl) ?_
      refine lv_sipush (v := zI 256) hx hb dX4_test_45 (by decide +kernel) ?_
      refine x_icmp_ge (tgt := 93) hx hb dX4_test_48 (by decide) (by omega) (fun h11 => ?_) (fun h12 => ?_)
      · refine lv_iload hx hb dX4_test_93 (lv_at hl 1 rfl) ?_
        exact x_qI hx hb hr (kR_t (by omega) rfl) (fun _ => by rw [show k = 256 from by omega]; rfl) hW (if0_t) hS dX4_test_95 hlocks
      · refine lv_aload_n hx hb dX4_test_51 rfl (lv_at hl 3 rfl) ?_
        refine lv_iload_n hx hb dX4_test_52 rfl (lv_at hl 4 rfl) ?_
        refine lv_iload_n hx hb dX4_test_53 rfl (lv_at hl 5 rfl) ?_
        refine lv_iload_n hx hb dX4_test_54 rfl (lv_at hl 6 rfl) ?_
        refine lv_iload hx hb dX4_test_55 (lv_at hl 0 rfl) ?_
        refine x_cI (va_runV (As := [.int (zI (y1 : Int)), .int (zI (y2 : Int)), .int (zI (d : Int)), .int (zI (k : Int))]) (rest := []) ⟨hx, hb, hml, hown, hts⟩ (c_X4_sumWith l G o b 0 ov un y1 y2 (by omega) (by omega) (y1 : Int) (y2 : Int) (d : Int) (k : Int) d (k) (by omega) (by omega) (by omega) (by omega) (by omega) (by omega)) (cwV 4 hts gX4_test_X4_sumWith rfl rfl rfl (by decide +kernel) ⟨Nat.le_of_ble_eq_true rfl, Nat.le_of_ble_eq_true rfl⟩) (x_preM hW hi hK) rfl rfl hl.1 rfl (lv_room (Nat.le_of_ble_eq_true rfl)) dX4_test_57 ⟨Nat.le_of_ble_eq_true rfl, Nat.le_of_ble_eq_true rfl⟩) ?_
        refine lv_istore (lv' := [(8, .int (zI (sxZ (dfZ b y1 y2 d) (k)))), (7, .int (zI (k : Int))), (6, .int (zI (cnt9 (tsP (dfZ b y1 y2 d)) 0 k : Int))), (5, .int (zI (max (sxZ (dfZ b y1 y2 d) (0)) (-(sxZ (dfZ b y1 y2 d) (0)))))), (0, .ref o), (1, .int (zI (y1 : Int))), (2, .int (zI (y2 : Int))), (3, .int (zI (d : Int)))]) hx hb dX4_test_60 hl (by decide) rfl (fun ls hl => ?_)
        have hsk := sxZ_bd hdb k
        refine lv_iload hx hb dX4_test_62 (lv_at hl 2 rfl) ?_
        refine lv_iload hx hb dX4_test_64 (lv_at hl 0 rfl) ?_
        refine lv_iload hx hb dX4_test_66 (lv_at hl 3 rfl) ?_
        refine x_icmp_ge (tgt := 79) hx hb dX4_test_68 (by decide) (by omega) (fun h13 => ?_) (fun h14 => ?_)
        · refine x_iconst hx hb dX4_test_79 ?_
          refine lv_goto (tgt := 84) hx hb dX4_test_80 (by decide) ?_
          refine x_iadd hx hb dX4_test_84 ?_
          refine lv_istore (lv' := [(6, .int (zI ((cnt9 (tsP (dfZ b y1 y2 d)) 0 k : Int) + 1))), (8, .int (zI (sxZ (dfZ b y1 y2 d) (k)))), (7, .int (zI (k : Int))), (5, .int (zI (max (sxZ (dfZ b y1 y2 d) (0)) (-(sxZ (dfZ b y1 y2 d) (0)))))), (0, .ref o), (1, .int (zI (y1 : Int))), (2, .int (zI (y2 : Int))), (3, .int (zI (d : Int)))]) hx hb dX4_test_85 hl (by decide) rfl (fun ls hl => ?_)
          refine x_iinc (lv' := [(7, .int (zI ((k : Int) + 1))), (6, .int (zI ((cnt9 (tsP (dfZ b y1 y2 d)) 0 k : Int) + 1))), (8, .int (zI (sxZ (dfZ b y1 y2 d) (k)))), (5, .int (zI (max (sxZ (dfZ b y1 y2 d) (0)) (-(sxZ (dfZ b y1 y2 d) (0)))))), (0, .ref o), (1, .int (zI (y1 : Int))), (2, .int (zI (y2 : Int))), (3, .int (zI (d : Int)))]) (k := 2) hx hb dX4_test_87 hl rfl (by decide) rfl (fun ls hl => ?_)
          refine lv_goto (tgt := 43) hx hb dX4_test_90 (by decide) ?_
          exact ih43 (k + 1) ls (show ((k + 1) ≤ 256) ∧ (cnt9 (tsP (dfZ b y1 y2 d)) 0 (k + 1) ≤ (k + 1)) from ⟨(by omega), (cnt9_le _ _ _)⟩) (show 256 - (k + 1) < 256 - k from (by omega)) (lv_cons (x_at (lv_at hl 0 rfl) (by omega)) (lv_cons (x_at (lv_at hl 1 rfl) (by rw [ts_t (by omega)]; rfl)) (lv_cons (lv_at hl 3 rfl) (lv_cons (lv_at hl 4 rfl) (lv_cons (lv_at hl 5 rfl) (lv_cons (lv_at hl 6 rfl) (lv_cons (lv_at hl 7 rfl) (lv_nil hl))))))))
        · refine lv_iload hx hb dX4_test_71 (lv_at hl 0 rfl) ?_
          refine x_ineg hx hb dX4_test_73 ?_
          refine lv_iload hx hb dX4_test_74 (lv_at hl 3 rfl) ?_
          refine x_icmp_lt (tgt := 83) hx hb dX4_test_76 (by decide) (by omega) (fun h15 => ?_) (fun h16 => ?_)
          · refine x_iconst hx hb dX4_test_83 ?_
            refine x_iadd hx hb dX4_test_84 ?_
            refine lv_istore (lv' := [(6, .int (zI ((cnt9 (tsP (dfZ b y1 y2 d)) 0 k : Int) + 0))), (8, .int (zI (sxZ (dfZ b y1 y2 d) (k)))), (7, .int (zI (k : Int))), (5, .int (zI (max (sxZ (dfZ b y1 y2 d) (0)) (-(sxZ (dfZ b y1 y2 d) (0)))))), (0, .ref o), (1, .int (zI (y1 : Int))), (2, .int (zI (y2 : Int))), (3, .int (zI (d : Int)))]) hx hb dX4_test_85 hl (by decide) rfl (fun ls hl => ?_)
            refine x_iinc (lv' := [(7, .int (zI ((k : Int) + 1))), (6, .int (zI ((cnt9 (tsP (dfZ b y1 y2 d)) 0 k : Int) + 0))), (8, .int (zI (sxZ (dfZ b y1 y2 d) (k)))), (5, .int (zI (max (sxZ (dfZ b y1 y2 d) (0)) (-(sxZ (dfZ b y1 y2 d) (0)))))), (0, .ref o), (1, .int (zI (y1 : Int))), (2, .int (zI (y2 : Int))), (3, .int (zI (d : Int)))]) (k := 2) hx hb dX4_test_87 hl rfl (by decide) rfl (fun ls hl => ?_)
            refine lv_goto (tgt := 43) hx hb dX4_test_90 (by decide) ?_
            exact ih43 (k + 1) ls (show ((k + 1) ≤ 256) ∧ (cnt9 (tsP (dfZ b y1 y2 d)) 0 (k + 1) ≤ (k + 1)) from ⟨(by omega), (cnt9_le _ _ _)⟩) (show 256 - (k + 1) < 256 - k from (by omega)) (lv_cons (x_at (lv_at hl 0 rfl) (by omega)) (lv_cons (x_at (lv_at hl 1 rfl) (by rw [ts_f (by omega)]; exact Int.add_zero _)) (lv_cons (lv_at hl 3 rfl) (lv_cons (lv_at hl 4 rfl) (lv_cons (lv_at hl 5 rfl) (lv_cons (lv_at hl 6 rfl) (lv_cons (lv_at hl 7 rfl) (lv_nil hl))))))))
          · refine x_iconst hx hb dX4_test_79 ?_
            refine lv_goto (tgt := 84) hx hb dX4_test_80 (by decide) ?_
            refine x_iadd hx hb dX4_test_84 ?_
            refine lv_istore (lv' := [(6, .int (zI ((cnt9 (tsP (dfZ b y1 y2 d)) 0 k : Int) + 1))), (8, .int (zI (sxZ (dfZ b y1 y2 d) (k)))), (7, .int (zI (k : Int))), (5, .int (zI (max (sxZ (dfZ b y1 y2 d) (0)) (-(sxZ (dfZ b y1 y2 d) (0)))))), (0, .ref o), (1, .int (zI (y1 : Int))), (2, .int (zI (y2 : Int))), (3, .int (zI (d : Int)))]) hx hb dX4_test_85 hl (by decide) rfl (fun ls hl => ?_)
            refine x_iinc (lv' := [(7, .int (zI ((k : Int) + 1))), (6, .int (zI ((cnt9 (tsP (dfZ b y1 y2 d)) 0 k : Int) + 1))), (8, .int (zI (sxZ (dfZ b y1 y2 d) (k)))), (5, .int (zI (max (sxZ (dfZ b y1 y2 d) (0)) (-(sxZ (dfZ b y1 y2 d) (0)))))), (0, .ref o), (1, .int (zI (y1 : Int))), (2, .int (zI (y2 : Int))), (3, .int (zI (d : Int)))]) (k := 2) hx hb dX4_test_87 hl rfl (by decide) rfl (fun ls hl => ?_)
            refine lv_goto (tgt := 43) hx hb dX4_test_90 (by decide) ?_
            exact ih43 (k + 1) ls (show ((k + 1) ≤ 256) ∧ (cnt9 (tsP (dfZ b y1 y2 d)) 0 (k + 1) ≤ (k + 1)) from ⟨(by omega), (cnt9_le _ _ _)⟩) (show 256 - (k + 1) < 256 - k from (by omega)) (lv_cons (x_at (lv_at hl 0 rfl) (by omega)) (lv_cons (x_at (lv_at hl 1 rfl) (by rw [ts_t (by omega)]; rfl)) (lv_cons (lv_at hl 3 rfl) (lv_cons (lv_at hl 4 rfl) (lv_cons (lv_at hl 5 rfl) (lv_cons (lv_at hl 6 rfl) (lv_cons (lv_at hl 7 rfl) (lv_nil hl))))))))
  · replace hW := hW.th (kR_f h2)
    refine x_iconst hx hb dX4_test_10 ?_
    exact x_qI hx hb hr (kR_f (by omega)) (no1) hW (if0_1) hS dX4_test_11 hlocks
