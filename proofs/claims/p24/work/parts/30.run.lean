set_option maxHeartbeats 4000000 in
set_option maxRecDepth 100000 in
theorem c_X2_endsBelow (l : Launch) (G : XG) (o : Nat) (b : XB) (lim : Int) (dif : Nat → Int) (q y : Nat) (hq : q < 8) (hy : y < 4) (d : Int) (hd : -2147483648 ≤ d ∧ d < 2147483648) : MetI l yX2_endsBelow wsX2_endsBelow (rmF 0 0) (BPc G o b lim dif [.ref (o + 2 + 15 * q + 2 + 3 * y), .int (zI d)]) (bI (0 < bN b q y ∧ (bS b q y (bN b q y - 1) : Int) < d)) := by
  refine Met.ofW (cc := cX2_endsBelow) (maxL := 2) (ret := (some .boolean)) (by decide) rfl ?_
  intro p e s m args below meth c s₁ B hml hv
  obtain ⟨rfl, hW, hi, hK⟩ := hv
  have hx := B.exec
  have hb := B.bytes
  have hr := B.returns
  have hts := atoms_spec (ws := wsX2_endsBelow) B.pre
  have hown : s.vm.findClass RX2 = some m.cls := findClass_of_methodNamed B.named
  have hlocks := B.notSynchronized
  have hl := lv_entry ([.ref (o + 2 + 15 * q + 2 + 3 * y), .int (zI d)]) (n := 2) (Nat.le_of_ble_eq_true rfl)
  rw [lg_entry_eq]
  generalize (lg_sl ([.ref (o + 2 + 15 * q + 2 + 3 * y), .int (zI d)]) ++ List.replicate (2 - (lg_sl ([.ref (o + 2 + 15 * q + 2 + 3 * y), .int (zI d)])).length) Slot.unset).toArray = ls at hl ⊢
  have hl : lv_has ls 2 [(0, .ref (o + 2 + 15 * q + 2 + 3 * y)), (1, .int (zI d))] := hl
  have hn20 := hi.n q y
  refine lv_aload_n hx hb dX2_endsBelow_0 rfl (lv_at hl 0 rfl) ?_
  refine x_get (ci := 2) (C := RX2) (T := TX2) (N := 3) (own := RX2) (index := 18) (v := .int (zI (bN b q y : Int))) hx hb hts (by decide +kernel) hown hK (hW.r (q := q) (s := y) (by omega) (by omega)) rfl 2 (by decide) (by decide +kernel) rfl rfl dX2_endsBelow_1 ?_
  refine x_if_le (tgt := 26) hx hb dX2_endsBelow_4 (by decide) (by omega) (fun h1 => ?_) (fun h2 => ?_)
  · refine x_iconst hx hb dX2_endsBelow_26 ?_
    exact x_retB hx hb hr (⟨by first | (rw [bI_t (by omega)]; done) | (rw [bI_f (by omega)]; done), by omega, by omega⟩) dX2_endsBelow_27 hlocks
  · refine lv_aload_n hx hb dX2_endsBelow_7 rfl (lv_at hl 0 rfl) ?_
    refine x_get (ci := 2) (C := RX2) (T := TX2) (N := 3) (own := RX2) (index := 15) (v := .ref (o + 2 + 15 * q + 2 + 3 * y + 2)) hx hb hts (by decide +kernel) hown hK (hW.r (q := q) (s := y) (by omega) (by omega)) rfl 1 (by decide) (by decide +kernel) rfl rfl dX2_endsBelow_8 ?_
    refine lv_aload_n hx hb dX2_endsBelow_11 rfl (lv_at hl 0 rfl) ?_
    refine x_get (ci := 2) (C := RX2) (T := TX2) (N := 3) (own := RX2) (index := 18) (v := .int (zI (bN b q y : Int))) hx hb hts (by decide +kernel) hown hK (hW.r (q := q) (s := y) (by omega) (by omega)) rfl 2 (by decide) (by decide +kernel) rfl rfl dX2_endsBelow_12 ?_
    refine x_iconst hx hb dX2_endsBelow_15 ?_
    refine x_isub hx hb dX2_endsBelow_16 ?_
    refine x_iald hx hb hK (hW.rc (q := q) (s := y) (by omega) (by omega)) ((bN b q y - 1)) (by omega) (by omega) (by decide) dX2_endsBelow_17 ?_
    have hv3 := hi.s q y ((bN b q y - 1))
    refine lv_iload_n hx hb dX2_endsBelow_18 rfl (lv_at hl 1 rfl) ?_
    refine x_icmp_ge (tgt := 26) hx hb dX2_endsBelow_19 (by decide) (by omega) (fun h4 => ?_) (fun h5 => ?_)
    · refine x_iconst hx hb dX2_endsBelow_26 ?_
      exact x_retB hx hb hr (⟨by first | (rw [bI_t (by omega)]; done) | (rw [bI_f (by omega)]; done), by omega, by omega⟩) dX2_endsBelow_27 hlocks
    · refine x_iconst hx hb dX2_endsBelow_22 ?_
      refine lv_goto (tgt := 27) hx hb dX2_endsBelow_23 (by decide) ?_
      exact x_retB hx hb hr (⟨by first | (rw [bI_t (by omega)]; done) | (rw [bI_f (by omega)]; done), by omega, by omega⟩) dX2_endsBelow_27 hlocks
/-- the document of a run at a rank -/
def dAt (b : XB) (q s : Nat) (r : Int) : Int := if 1 ≤ r ∧ r ≤ (bN b q s : Int) then (bD b q s (r.toNat - 1) : Int) else -1
theorem dAt_k (b : XB) (q s k : Nat) (h : k < bN b q s) : dAt b q s ((k : Int) + 1) = (bD b q s k : Int) := by
  unfold dAt
  rw [if_pos (by omega), show ((k : Int) + 1).toNat - 1 = k from by omega]
theorem dAt_no (b : XB) (q s : Nat) (r : Int) (h : r < 1 ∨ (bN b q s : Int) < r) : dAt b q s r = -1 := if_neg (by omega)
theorem dAt_rng {b : XB} (hi : bInv b) (q s : Nat) (r : Int) : -1 ≤ dAt b q s r ∧ dAt b q s r < 40 := by
  unfold dAt
  have := hi.d q s (r.toNat - 1)
  split <;> omega
set_option maxHeartbeats 4000000 in
set_option maxRecDepth 100000 in
theorem c_X2_documentAt (l : Launch) (G : XG) (o : Nat) (b : XB) (lim : Int) (dif : Nat → Int) (q y : Nat) (hq : q < 8) (hy : y < 4) (d : Int) (hd : -2147483648 ≤ d ∧ d < 2147483648) : MetI l yX2_documentAt wsX2_documentAt (rmF 0 0) (BPc G o b lim dif [.ref (o + 2 + 15 * q + 2 + 3 * y), .int (zI d)]) (dAt b q y d) := by
  refine Met.ofW (cc := cX2_documentAt) (maxL := 2) (ret := (some .int)) (by decide) rfl ?_
  intro p e s m args below meth c s₁ B hml hv
  obtain ⟨rfl, hW, hi, hK⟩ := hv
  have hx := B.exec
  have hb := B.bytes
  have hr := B.returns
  have hts := atoms_spec (ws := wsX2_documentAt) B.pre
  have hown : s.vm.findClass RX2 = some m.cls := findClass_of_methodNamed B.named
  have hlocks := B.notSynchronized
  have hl := lv_entry ([.ref (o + 2 + 15 * q + 2 + 3 * y), .int (zI d)]) (n := 2) (Nat.le_of_ble_eq_true rfl)
  rw [lg_entry_eq]
  generalize (lg_sl ([.ref (o + 2 + 15 * q + 2 + 3 * y), .int (zI d)]) ++ List.replicate (2 - (lg_sl ([.ref (o + 2 + 15 * q + 2 + 3 * y), .int (zI d)])).length) Slot.unset).toArray = ls at hl ⊢
  have hl : lv_has ls 2 [(0, .ref (o + 2 + 15 * q + 2 + 3 * y)), (1, .int (zI d))] := hl
  have hn20 := hi.n q y
  refine lv_iload_n hx hb dX2_documentAt_0 rfl (lv_at hl 1 rfl) ?_
  refine x_iconst hx hb dX2_documentAt_1 ?_
  refine x_icmp_lt (tgt := 24) hx hb dX2_documentAt_2 (by decide) (by omega) (fun h1 => ?_) (fun h2 => ?_)
  · refine x_iconst hx hb dX2_documentAt_24 ?_
    exact x_retI hx hb hr (by rw [dAt_no _ _ _ _ (by omega)]) dX2_documentAt_25 hlocks
  · refine lv_iload_n hx hb dX2_documentAt_5 rfl (lv_at hl 1 rfl) ?_
    refine lv_aload_n hx hb dX2_documentAt_6 rfl (lv_at hl 0 rfl) ?_
    refine x_get (ci := 2) (C := RX2) (T := TX2) (N := 3) (own := RX2) (index := 18) (v := .int (zI (bN b q y : Int))) hx hb hts (by decide +kernel) hown hK (hW.r (q := q) (s := y) (by omega) (by omega)) rfl 2 (by decide) (by decide +kernel) rfl rfl dX2_documentAt_7 ?_
    refine x_icmp_gt (tgt := 24) hx hb dX2_documentAt_10 (by decide) (by omega) (fun h3 => ?_) (fun h4 => ?_)
    · refine x_iconst hx hb dX2_documentAt_24 ?_
      exact x_retI hx hb hr (by rw [dAt_no _ _ _ _ (by omega)]) dX2_documentAt_25 hlocks
    · refine lv_aload_n hx hb dX2_documentAt_13 rfl (lv_at hl 0 rfl) ?_
      refine x_get (ci := 2) (C := RX2) (T := TX2) (N := 3) (own := RX2) (index := 9) (v := .ref (o + 2 + 15 * q + 2 + 3 * y + 1)) hx hb hts (by decide +kernel) hown hK (hW.r (q := q) (s := y) (by omega) (by omega)) rfl 0 (by decide) (by decide +kernel) rfl rfl dX2_documentAt_14 ?_
      refine lv_iload_n hx hb dX2_documentAt_17 rfl (lv_at hl 1 rfl) ?_
      refine x_iconst hx hb dX2_documentAt_18 ?_
      refine x_isub hx hb dX2_documentAt_19 ?_
      refine x_iald hx hb hK (hW.rd (q := q) (s := y) (by omega) (by omega)) (d.toNat - 1) (by omega) (by omega) (by decide) dX2_documentAt_20 ?_
      have hv5 := hi.d q y (d.toNat - 1)
      refine lv_goto (tgt := 25) hx hb dX2_documentAt_21 (by decide) ?_
      exact x_retI hx hb hr (by rw [dAt, if_pos (by omega)]) dX2_documentAt_25 hlocks
/-- the rank of a document in a run, or -1 -/
def rk (b : XB) (q s : Nat) (d : Int) : Int := if fst9 (fun k => decide ((bD b q s k : Int) = d)) 0 (bN b q s) < bN b q s then (fst9 (fun k => decide ((bD b q s k : Int) = d)) 0 (bN b q s) : Int) + 1 else -1
theorem rk_no {b : XB} {q s : Nat} {d : Int} (h : ∀ j, j < bN b q s → ¬ ((bD b q s j : Int) = d)) : rk b q s d = -1 := by
  unfold rk
  rw [fst9_uniq (k := bN b q s) (Nat.zero_le _) (fun j _ hj => decide_eq_false (h j hj)) (Or.inl (Nat.zero_add _).symm)]
  rw [if_neg (Nat.lt_irrefl _)]
theorem rk_at {b : XB} {q s k : Nat} {d : Int} (hk : k < bN b q s) (h : ∀ j, j < k → ¬ ((bD b q s j : Int) = d)) (he : (bD b q s k : Int) = d) : rk b q s d = (k : Int) + 1 := by
  unfold rk
  rw [fst9_uniq (k := k) (Nat.zero_le _) (fun j _ hj => decide_eq_false (h j hj)) (Or.inr ⟨by omega, decide_eq_true he⟩)]
  rw [if_pos hk]
theorem rk_rng (b : XB) (q s : Nat) (d : Int) : -1 ≤ rk b q s d ∧ rk b q s d ≤ (bN b q s : Int) := by
  unfold rk
  split <;> omega
set_option maxHeartbeats 4000000 in
set_option maxRecDepth 100000 in
theorem c_X2_rankOf (l : Launch) (G : XG) (o : Nat) (b : XB) (lim : Int) (dif : Nat → Int) (q y : Nat) (hq : q < 8) (hy : y < 4) (d : Int) (hd : -2147483648 ≤ d ∧ d < 2147483648) : MetI l yX2_rankOf wsX2_rankOf (rmF 0 0) (BPc G o b lim dif [.ref (o + 2 + 15 * q + 2 + 3 * y), .int (zI d)]) (rk b q y d) := by
  refine Met.ofW (cc := cX2_rankOf) (maxL := 3) (ret := (some .int)) (by decide) rfl ?_
  intro p e s m args below meth c s₁ B hml hv
  obtain ⟨rfl, hW, hi, hK⟩ := hv
  have hx := B.exec
  have hb := B.bytes
  have hr := B.returns
  have hts := atoms_spec (ws := wsX2_rankOf) B.pre
  have hown : s.vm.findClass RX2 = some m.cls := findClass_of_methodNamed B.named
  have hlocks := B.notSynchronized
  have hl := lv_entry ([.ref (o + 2 + 15 * q + 2 + 3 * y), .int (zI d)]) (n := 3) (Nat.le_of_ble_eq_true rfl)
  rw [lg_entry_eq]
  generalize (lg_sl ([.ref (o + 2 + 15 * q + 2 + 3 * y), .int (zI d)]) ++ List.replicate (3 - (lg_sl ([.ref (o + 2 + 15 * q + 2 + 3 * y), .int (zI d)])).length) Slot.unset).toArray = ls at hl ⊢
  have hl : lv_has ls 3 [(0, .ref (o + 2 + 15 * q + 2 + 3 * y)), (1, .int (zI d))] := hl
  have hn20 := hi.n q y
  refine x_iconst hx hb dX2_rankOf_0 ?_
  refine lv_istore_n (lv' := [(2, .int (zI 1)), (0, .ref (o + 2 + 15 * q + 2 + 3 * y)), (1, .int (zI d))]) hx hb dX2_rankOf_1 rfl hl (by decide) rfl (fun ls hl => ?_)
  refine x_loop1 (fun (k : Nat) => (k ≤ bN b q y) ∧ (∀ j, j < k → ¬ ((bD b q y j : Int) = d))) (fun (k : Nat) => bN b q y - k) (fun (k : Nat) => [(2, .int (zI ((k : Int) + 1))), (1, .int (zI d)), (0, .ref (o + 2 + 15 * q + 2 + 3 * y))]) (0) (show ((0) ≤ bN b q y) ∧ (∀ j, j < (0) → ¬ ((bD b q y j : Int) = d)) from ⟨(Nat.zero_le _), (fun j hj => absurd hj (Nat.not_lt_zero _))⟩) (show lv_has ls 3 [(2, .int (zI (((0) : Int) + 1))), (1, .int (zI d)), (0, .ref (o + 2 + 15 * q + 2 + 3 * y))] from (lv_cons (x_at (lv_at hl 0 rfl) (by omega)) (lv_cons (lv_at hl 2 rfl) (lv_cons (lv_at hl 1 rfl) (lv_nil hl))))) (fun k ls hI2 hl ih2 => ?_)
  obtain ⟨hk, hm⟩ : (k ≤ bN b q y) ∧ (∀ j, j < k → ¬ ((bD b q y j : Int) = d)) := hI2
  have hl : lv_has ls 3 [(2, .int (zI ((k : Int) + 1))), (1, .int (zI d)), (0, .ref (o + 2 + 15 * q + 2 + 3 * y))] := hl
  refine lv_iload_n hx hb dX2_rankOf_2 rfl (lv_at hl 0 rfl) ?_
  refine lv_aload_n hx hb dX2_rankOf_3 rfl (lv_at hl 2 rfl) ?_
  refine x_get (ci := 2) (C := RX2) (T := TX2) (N := 3) (own := RX2) (index := 18) (v := .int (zI (bN b q y : Int))) hx hb hts (by decide +kernel) hown hK (hW.r (q := q) (s := y) (by omega) (by omega)) rfl 2 (by decide) (by decide +kernel) rfl rfl dX2_rankOf_4 ?_
  refine x_icmp_gt (tgt := 30) hx hb dX2_rankOf_7 (by decide) (by omega) (fun h1 => ?_) (fun h2 => ?_)
  · refine x_iconst hx hb dX2_rankOf_30 ?_
    exact x_retI hx hb hr ((rk_no (fun j hj => hm j (by omega))).symm) dX2_rankOf_31 hlocks
  · refine lv_aload_n hx hb dX2_rankOf_10 rfl (lv_at hl 2 rfl) ?_
    refine x_get (ci := 2) (C := RX2) (T := TX2) (N := 3) (own := RX2) (index := 9) (v := .ref (o + 2 + 15 * q + 2 + 3 * y + 1)) hx hb hts (by decide +kernel) hown hK (hW.r (q := q) (s := y) (by omega) (by omega)) rfl 0 (by decide) (by decide +kernel) rfl rfl dX2_rankOf_11 ?_
    refine lv_iload_n hx hb dX2_rankOf_14 rfl (lv_at hl 0 rfl) ?_
    refine x_iconst hx hb dX2_rankOf_15 ?_
    refine x_isub hx hb dX2_rankOf_16 ?_
    refine x_iald hx hb hK (hW.rd (q := q) (s := y) (by omega) (by omega)) (k) (by omega) (by omega) (by decide) dX2_rankOf_17 ?_
    have hv3 := hi.d q y (k)
    refine lv_iload_n hx hb dX2_rankOf_18 rfl (lv_at hl 1 rfl) ?_
    refine x_icmp_ne (tgt := 24) hx hb dX2_rankOf_19 (by decide) (by omega) (fun h4 => ?_) (fun h5 => ?_)
    · refine x_iinc (lv' := [(2, .int (zI (((k : Int) + 1) + 1))), (1, .int (zI d)), (0, .ref (o + 2 + 15 * q + 2 + 3 * y))]) (k := 0) hx hb dX2_rankOf_24 hl rfl (by decide) rfl (fun ls hl => ?_)
      refine lv_goto (tgt := 2) hx hb dX2_rankOf_27 (by decide) ?_
      exact ih2 (k + 1) ls (show ((k + 1) ≤ bN b q y) ∧ (∀ j, j < (k + 1) → ¬ ((bD b q y j : Int) = d)) from ⟨(by omega), (lt_s hm (by assumption))⟩) (show bN b q y - (k + 1) < bN b q y - k from (by omega)) (lv_cons (x_at (lv_at hl 0 rfl) (by omega)) (lv_cons (lv_at hl 1 rfl) (lv_cons (lv_at hl 2 rfl) (lv_nil hl))))
    · refine lv_iload_n hx hb dX2_rankOf_22 rfl (lv_at hl 0 rfl) ?_
      exact x_retI hx hb hr ((rk_at (by omega) hm (by assumption)).symm) dX2_rankOf_23 hlocks
/-- where the group of equal scores begins -/
def tS (sc : Nat → Nat) : Nat → Nat
  | 0 => 0
  | i + 1 => if sc i = sc (i + 1) then tS sc i else i + 1
/-- .. and the place behind its end -/
def tE (sc : Nat → Nat) (n i : Nat) : Nat := fst9 (fun k => decide (¬ sc k = sc (k - 1))) (i + 1) (n - (i + 1))
theorem tS_le (sc : Nat → Nat) : ∀ i, tS sc i ≤ i
  | 0 => Nat.le_refl _
  | i + 1 => by
    have := tS_le sc i
    unfold tS
    split <;> omega
theorem tS_eq {sc : Nat → Nat} {i : Nat} (h0 : 1 ≤ i) (h : sc (i - 1) = sc i) : tS sc i = tS sc (i - 1) := by
  obtain ⟨j, rfl⟩ : ∃ j, i = j + 1 := ⟨i - 1, by omega⟩
  rw [Nat.add_sub_cancel] at h ⊢
  rw [tS, if_pos h]
theorem tS_ne {sc : Nat → Nat} {i : Nat} (h0 : 1 ≤ i) (h : ¬ sc (i - 1) = sc i) : tS sc i = i := by
  obtain ⟨j, rfl⟩ : ∃ j, i = j + 1 := ⟨i - 1, by omega⟩
  rw [Nat.add_sub_cancel] at h
  rw [tS, if_neg h]
theorem tE_rng (sc : Nat → Nat) {n i : Nat} (h : i < n) : i < tE sc n i ∧ tE sc n i ≤ n := by
  have := fst9_rng (fun k => decide (¬ sc k = sc (k - 1))) (n - (i + 1)) (i + 1)
  unfold tE
  omega
theorem tE_at {sc : Nat → Nat} {n i e : Nat} (h1 : i < e) (h2 : e ≤ n) (h : ∀ j, i < j → j < e → sc j = sc (j - 1)) (he : e = n ∨ ¬ sc e = sc (e - 1)) : tE sc n i = e := by
  refine fst9_uniq h1 (fun j a c => decide_eq_false (fun x => x (h j a c))) ?_
  rcases Nat.lt_or_ge e n with hl | hl
  · rcases he with he | he
    · omega
    · exact Or.inr ⟨by omega, decide_eq_true he⟩
  · exact Or.inl (by omega)
set_option maxHeartbeats 4000000 in
set_option maxRecDepth 100000 in
theorem c_X2_firstTied (l : Launch) (G : XG) (o : Nat) (b : XB) (lim : Int) (dif : Nat → Int) (q y : Nat) (hq : q < 8) (hy : y < 4) (r : Int) (i0 : Nat) (hri : r = (i0 : Int) + 1) (hi0 : i0 < bN b q y) : MetI l yX2_firstTied wsX2_firstTied (rmF 0 0) (BPc G o b lim dif [.ref (o + 2 + 15 * q + 2 + 3 * y), .int (zI r)]) ((tS (bS b q y) i0 : Int) + 1) := by
  refine Met.ofW (cc := cX2_firstTied) (maxL := 3) (ret := (some .int)) (by decide) rfl ?_
  intro p e s m args below meth c s₁ B hml hv
  obtain ⟨rfl, hW, hi, hK⟩ := hv
  have hx := B.exec
  have hb := B.bytes
  have hr := B.returns
  have hts := atoms_spec (ws := wsX2_firstTied) B.pre
  have hown : s.vm.findClass RX2 = some m.cls := findClass_of_methodNamed B.named
  have hlocks := B.notSynchronized
  have hl := lv_entry ([.ref (o + 2 + 15 * q + 2 + 3 * y), .int (zI r)]) (n := 3) (Nat.le_of_ble_eq_true rfl)
  rw [lg_entry_eq]
  generalize (lg_sl ([.ref (o + 2 + 15 * q + 2 + 3 * y), .int (zI r)]) ++ List.replicate (3 - (lg_sl ([.ref (o + 2 + 15 * q + 2 + 3 * y), .int (zI r)])).length) Slot.unset).toArray = ls at hl ⊢
  have hl : lv_has ls 3 [(0, .ref (o + 2 + 15 * q + 2 + 3 * y)), (1, .int (zI r))] := hl
  have hn20 := hi.n q y
  refine lv_iload_n hx hb dX2_firstTied_0 rfl (lv_at hl 1 rfl) ?_
  refine lv_istore_n (lv' := [(2, .int (zI r)), (0, .ref (o + 2 + 15 * q + 2 + 3 * y)), (1, .int (zI r))]) hx hb dX2_firstTied_1 rfl hl (by decide) rfl (fun ls hl => ?_)
  refine x_loop1 (fun (i : Nat) => (i ≤ i0) ∧ (tS (bS b q y) i0 = tS (bS b q y) i)) (fun (i : Nat) => i) (fun (i : Nat) => [(2, .int (zI ((i : Int) + 1))), (0, .ref (o + 2 + 15 * q + 2 + 3 * y))]) (i0) (show ((i0) ≤ i0) ∧ (tS (bS b q y) i0 = tS (bS b q y) (i0)) from ⟨(Nat.le_refl _), (rfl)⟩) (show lv_has ls 3 [(2, .int (zI (((i0) : Int) + 1))), (0, .ref (o + 2 + 15 * q + 2 + 3 * y))] from (lv_cons (x_at (lv_at hl 0 rfl) (by omega)) (lv_cons (lv_at hl 1 rfl) (lv_nil hl)))) (fun i ls hI2 hl ih2 => ?_)
  obtain ⟨hle, he⟩ : (i ≤ i0) ∧ (tS (bS b q y) i0 = tS (bS b q y) i) := hI2
  have hl : lv_has ls 3 [(2, .int (zI ((i : Int) + 1))), (0, .ref (o + 2 + 15 * q + 2 + 3 * y))] := hl
  refine lv_iload_n hx hb dX2_firstTied_2 rfl (lv_at hl 0 rfl) ?_
  refine x_iconst hx hb dX2_firstTied_3 ?_
  refine x_icmp_le (tgt := 40) hx hb dX2_firstTied_4 (by decide) (by omega) (fun h1 => ?_) (fun h2 => ?_)
  · refine lv_iload_n hx hb dX2_firstTied_40 rfl (lv_at hl 0 rfl) ?_
    exact x_retI hx hb hr (by rw [he]; first | (rw [show i = 0 from by omega]; rfl) | rw [tS_ne (by omega) (by omega)]) dX2_firstTied_41 hlocks
  · refine lv_iload_n hx hb dX2_firstTied_7 rfl (lv_at hl 0 rfl) ?_
    refine lv_aload_n hx hb dX2_firstTied_8 rfl (lv_at hl 1 rfl) ?_
    refine x_get (ci := 2) (C := RX2) (T := TX2) (N := 3) (own := RX2) (index := 18) (v := .int (zI (bN b q y : Int))) hx hb hts (by decide +kernel) hown hK (hW.r (q := q) (s := y) (by omega) (by omega)) rfl 2 (by decide) (by decide +kernel) rfl rfl dX2_firstTied_9 ?_
    refine x_icmp_gt (tgt := 40) hx hb dX2_firstTied_12 (by decide) (by omega) (fun h3 => ?_) (fun h4 => ?_)
    · exact absurd h3 (by omega)
    · refine lv_aload_n hx hb dX2_firstTied_15 rfl (lv_at hl 1 rfl) ?_
      refine x_get (ci := 2) (C := RX2) (T := TX2) (N := 3) (own := RX2) (index := 15) (v := .ref (o + 2 + 15 * q + 2 + 3 * y + 2)) hx hb hts (by decide +kernel) hown hK (hW.r (q := q) (s := y) (by omega) (by omega)) rfl 1 (by decide) (by decide +kernel) rfl rfl dX2_firstTied_16 ?_
      refine lv_iload_n hx hb dX2_firstTied_19 rfl (lv_at hl 0 rfl) ?_
      refine x_iconst hx hb dX2_firstTied_20 ?_
      refine x_isub hx hb dX2_firstTied_21 ?_
      refine x_iald hx hb hK (hW.rc (q := q) (s := y) (by omega) (by omega)) (i - 1) (by omega) (by omega) (by decide) dX2_firstTied_22 ?_
      have hv5 := hi.s q y (i - 1)
      refine lv_aload_n hx hb dX2_firstTied_23 rfl (lv_at hl 1 rfl) ?_
      refine x_get (ci := 2) (C := RX2) (T := TX2) (N := 3) (own := RX2) (index := 15) (v := .ref (o + 2 + 15 * q + 2 + 3 * y + 2)) hx hb hts (by decide +kernel) hown hK (hW.r (q := q) (s := y) (by omega) (by omega)) rfl 1 (by decide) (by decide +kernel) rfl rfl dX2_firstTied_24 ?_
      refine lv_iload_n hx hb dX2_firstTied_27 rfl (lv_at hl 0 rfl) ?_
      refine x_iconst hx hb dX2_firstTied_28 ?_
      refine x_isub hx hb dX2_firstTied_29 ?_
      refine x_iald hx hb hK (hW.rc (q := q) (s := y) (by omega) (by omega)) (i) (by omega) (by omega) (by decide) dX2_firstTied_30 ?_
      have hv6 := hi.s q y (i)
      refine x_icmp_ne (tgt := 40) hx hb dX2_firstTied_31 (by decide) (by omega) (fun h7 => ?_) (fun h8 => ?_)
      · refine lv_iload_n hx hb dX2_firstTied_40 rfl (lv_at hl 0 rfl) ?_
        exact x_retI hx hb hr (by rw [he]; first | (rw [show i = 0 from by omega]; rfl) | rw [tS_ne (by omega) (by omega)]) dX2_firstTied_41 hlocks
      · refine x_iinc (lv' := [(2, .int (zI (((i : Int) + 1) + (-1)))), (0, .ref (o + 2 + 15 * q + 2 + 3 * y))]) (k := 0) hx hb dX2_firstTied_34 hl rfl (by decide) rfl (fun ls hl => ?_)
        refine lv_goto (tgt := 2) hx hb dX2_firstTied_37 (by decide) ?_
        exact ih2 (i - 1) ls (show ((i - 1) ≤ i0) ∧ (tS (bS b q y) i0 = tS (bS b q y) (i - 1)) from ⟨(by omega), (he.trans (tS_eq (by omega) (by omega)))⟩) (show (i - 1) < i from (by omega)) (lv_cons (x_at (lv_at hl 0 rfl) (by omega)) (lv_cons (lv_at hl 1 rfl) (lv_nil hl)))
set_option maxHeartbeats 4000000 in
set_option maxRecDepth 100000 in
theorem c_X2_lastTied (l : Launch) (G : XG) (o : Nat) (b : XB) (lim : Int) (dif : Nat → Int) (q y : Nat) (hq : q < 8) (hy : y < 4) (r : Int) (i0 : Nat) (hri : r = (i0 : Int) + 1) (hi0 : i0 < bN b q y) : MetI l yX2_lastTied wsX2_lastTied (rmF 0 0) (BPc G o b lim dif [.ref (o + 2 + 15 * q + 2 + 3 * y), .int (zI r)]) (tE (bS b q y) (bN b q y) i0 : Int) := by
  refine Met.ofW (cc := cX2_lastTied) (maxL := 3) (ret := (some .int)) (by decide) rfl ?_
  intro p e s m args below meth c s₁ B hml hv
  obtain ⟨rfl, hW, hi, hK⟩ := hv
  have hx := B.exec
  have hb := B.bytes
  have hr := B.returns
  have hts := atoms_spec (ws := wsX2_lastTied) B.pre
  have hown : s.vm.findClass RX2 = some m.cls := findClass_of_methodNamed B.named
  have hlocks := B.notSynchronized
  have hl := lv_entry ([.ref (o + 2 + 15 * q + 2 + 3 * y), .int (zI r)]) (n := 3) (Nat.le_of_ble_eq_true rfl)
  rw [lg_entry_eq]
  generalize (lg_sl ([.ref (o + 2 + 15 * q + 2 + 3 * y), .int (zI r)]) ++ List.replicate (3 - (lg_sl ([.ref (o + 2 + 15 * q + 2 + 3 * y), .int (zI r)])).length) Slot.unset).toArray = ls at hl ⊢
  have hl : lv_has ls 3 [(0, .ref (o + 2 + 15 * q + 2 + 3 * y)), (1, .int (zI r))] := hl
  have hn20 := hi.n q y
  refine lv_iload_n hx hb dX2_lastTied_0 rfl (lv_at hl 1 rfl) ?_
  refine lv_istore_n (lv' := [(2, .int (zI r)), (0, .ref (o + 2 + 15 * q + 2 + 3 * y)), (1, .int (zI r))]) hx hb dX2_lastTied_1 rfl hl (by decide) rfl (fun ls hl => ?_)
  refine x_loop1 (fun (i : Nat) => (i0 < i) ∧ (i ≤ bN b q y) ∧ (∀ j, i0 < j → j < i → bS b q y j = bS b q y (j - 1))) (fun (i : Nat) => bN b q y - i) (fun (i : Nat) => [(2, .int (zI (i : Int))), (0, .ref (o + 2 + 15 * q + 2 + 3 * y))]) (i0 + 1) (show (i0 < (i0 + 1)) ∧ ((i0 + 1) ≤ bN b q y) ∧ (∀ j, i0 < j → j < (i0 + 1) → bS b q y j = bS b q y (j - 1)) from ⟨(by omega), (by omega), (fun j h1 h2 => absurd h2 (by omega))⟩) (show lv_has ls 3 [(2, .int (zI ((i0 + 1) : Int))), (0, .ref (o + 2 + 15 * q + 2 + 3 * y))] from (lv_cons (x_at (lv_at hl 0 rfl) (by omega)) (lv_cons (lv_at hl 1 rfl) (lv_nil hl)))) (fun i ls hI2 hl ih2 => ?_)
  obtain ⟨hle, hle2, he⟩ : (i0 < i) ∧ (i ≤ bN b q y) ∧ (∀ j, i0 < j → j < i → bS b q y j = bS b q y (j - 1)) := hI2
  have hl : lv_has ls 3 [(2, .int (zI (i : Int))), (0, .ref (o + 2 + 15 * q + 2 + 3 * y))] := hl
  refine lv_iload_n hx hb dX2_lastTied_2 rfl (lv_at hl 0 rfl) ?_
  refine x_iconst hx hb dX2_lastTied_3 ?_
  refine x_icmp_lt (tgt := 38) hx hb dX2_lastTied_4 (by decide) (by omega) (fun h1 => ?_) (fun h2 => ?_)
  · exact absurd h1 (by omega)
  · refine lv_iload_n hx hb dX2_lastTied_7 rfl (lv_at hl 0 rfl) ?_
    refine lv_aload_n hx hb dX2_lastTied_8 rfl (lv_at hl 1 rfl) ?_
    refine x_get (ci := 2) (C := RX2) (T := TX2) (N := 3) (own := RX2) (index := 18) (v := .int (zI (bN b q y : Int))) hx hb hts (by decide +kernel) hown hK (hW.r (q := q) (s := y) (by omega) (by omega)) rfl 2 (by decide) (by decide +kernel) rfl rfl dX2_lastTied_9 ?_
    refine x_icmp_ge (tgt := 38) hx hb dX2_lastTied_12 (by decide) (by omega) (fun h3 => ?_) (fun h4 => ?_)
    · refine lv_iload_n hx hb dX2_lastTied_38 rfl (lv_at hl 0 rfl) ?_
      exact x_retI hx hb hr (by rw [tE_at (e := i) hle hle2 he (by omega)]) dX2_lastTied_39 hlocks
    · refine lv_aload_n hx hb dX2_lastTied_15 rfl (lv_at hl 1 rfl) ?_
      refine x_get (ci := 2) (C := RX2) (T := TX2) (N := 3) (own := RX2) (index := 15) (v := .ref (o + 2 + 15 * q + 2 + 3 * y + 2)) hx hb hts (by decide +kernel) hown hK (hW.r (q := q) (s := y) (by omega) (by omega)) rfl 1 (by decide) (by decide +kernel) rfl rfl dX2_lastTied_16 ?_
      refine lv_iload_n hx hb dX2_lastTied_19 rfl (lv_at hl 0 rfl) ?_
      refine x_iald hx hb hK (hW.rc (q := q) (s := y) (by omega) (by omega)) (i) (by omega) (by omega) (by decide) dX2_lastTied_20 ?_
      have hv5 := hi.s q y (i)
      refine lv_aload_n hx hb dX2_lastTied_21 rfl (lv_at hl 1 rfl) ?_
      refine x_get (ci := 2) (C := RX2) (T := TX2) (N := 3) (own := RX2) (index := 15) (v := .ref (o + 2 + 15 * q + 2 + 3 * y + 2)) hx hb hts (by decide +kernel) hown hK (hW.r (q := q) (s := y) (by omega) (by omega)) rfl 1 (by decide) (by decide +kernel) rfl rfl dX2_lastTied_22 ?_
      refine lv_iload_n hx hb dX2_lastTied_25 rfl (lv_at hl 0 rfl) ?_
      refine x_iconst hx hb dX2_lastTied_26 ?_
      refine x_isub hx hb dX2_lastTied_27 ?_
      refine x_iald hx hb hK (hW.rc (q := q) (s := y) (by omega) (by omega)) (i - 1) (by omega) (by omega) (by decide) dX2_lastTied_28 ?_
      have hv6 := hi.s q y (i - 1)
      refine x_icmp_ne (tgt := 38) hx hb dX2_lastTied_29 (by decide) (by omega) (fun h7 => ?_) (fun h8 => ?_)
      · refine lv_iload_n hx hb dX2_lastTied_38 rfl (lv_at hl 0 rfl) ?_
        exact x_retI hx hb hr (by rw [tE_at (e := i) hle hle2 he (by omega)]) dX2_lastTied_39 hlocks
      · refine x_iinc (lv' := [(2, .int (zI ((i : Int) + 1))), (0, .ref (o + 2 + 15 * q + 2 + 3 * y))]) (k := 0) hx hb dX2_lastTied_32 hl rfl (by decide) rfl (fun ls hl => ?_)
        refine lv_goto (tgt := 2) hx hb dX2_lastTied_35 (by decide) ?_
        exact ih2 (i + 1) ls (show (i0 < (i + 1)) ∧ ((i + 1) ≤ bN b q y) ∧ (∀ j, i0 < j → j < (i + 1) → bS b q y j = bS b q y (j - 1)) from ⟨(by omega), (by omega), (fun j h1 h2 => by rcases Nat.lt_or_ge j i with h | h; exact he j h1 h; rw [show j = i from by omega]; omega)⟩) (show bN b q y - (i + 1) < bN b q y - i from (by omega)) (lv_cons (x_at (lv_at hl 0 rfl) (by omega)) (lv_cons (lv_at hl 1 rfl) (lv_nil hl)))
