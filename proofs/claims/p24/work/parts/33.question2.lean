/-- what a place of a run adds to the mean of the hits -/
def mhT (b : XB) (q y : Nat) (de : Int) (k : Nat) : Int := if relP b q y k = true then hpZ ((tS (bS b q y) k : Int) + 1) (tE (bS b q y) (bN b q y) k : Int) de else 0
def mhZ (b : XB) (q y : Nat) (de : Int) : Int := sum9 (mhT b q y de) 0 (bN b q y)
theorem hpZ_bd (f la de : Int) : 0 ≤ hpZ f la de ∧ hpZ f la de ≤ 232792560 := by
  unfold hpZ
  split
  · omega
  · have h1 : 0 < la - f + 1 := by omega
    have h2 : min la de - f + 1 ≤ la - f + 1 := by omega
    have h3 : 0 ≤ 232792560 / (la - f + 1) := Int.ediv_nonneg (by omega) (by omega)
    have h4 : 232792560 / (la - f + 1) * (min la de - f + 1) ≤ 232792560 / (la - f + 1) * (la - f + 1) := Int.mul_le_mul_of_nonneg_left h2 h3
    have h5 : 232792560 / (la - f + 1) * (la - f + 1) ≤ 232792560 := Int.ediv_mul_le _ (by omega)
    exact ⟨Int.mul_nonneg h3 (by omega), by omega⟩
theorem mhT_bd (b : XB) (q y : Nat) (de : Int) (k : Nat) : 0 ≤ mhT b q y de k ∧ mhT b q y de k ≤ 232792560 := by
  unfold mhT
  split
  · exact hpZ_bd _ _ _
  · omega
theorem mh_bd {b : XB} (hi : bInv b) {q y k : Nat} (de : Int) (h : k ≤ bN b q y) : 0 ≤ sum9 (mhT b q y de) 0 k ∧ sum9 (mhT b q y de) 0 k ≤ 20 * 232792560 := by
  have a := sum9_bd (g := mhT b q y de) (B := 232792560) (lo := 0) (n := k) (fun j _ => mhT_bd b q y de (0 + j))
  have := hi.n q y
  omega
theorem mh_t {b : XB} {q y k : Nat} {de : Int} (hk : k < bN b q y) (h : relZ b q y ((k : Int) + 1) = true) : sum9 (mhT b q y de) 0 k + hpZ ((tS (bS b q y) k : Int) + 1) (tE (bS b q y) (bN b q y) k : Int) de = sum9 (mhT b q y de) 0 (k + 1) := by
  rw [relZ_k hk] at h
  rw [sum9_s, Nat.zero_add, mhT, if_pos h]
theorem mh_f {b : XB} {q y k : Nat} {de : Int} (hk : k < bN b q y) (h : ¬ relZ b q y ((k : Int) + 1) = true) : sum9 (mhT b q y de) 0 k = sum9 (mhT b q y de) 0 (k + 1) := by
  rw [relZ_k hk] at h
  rw [sum9_s, Nat.zero_add, mhT, if_neg h, Int.add_zero]
set_option maxHeartbeats 4000000 in
set_option maxRecDepth 100000 in
theorem c_X1_meanHitParts (l : Launch) (G : XG) (o : Nat) (b : XB) (lim : Int) (dif : Nat → Int) (q : Nat) (hq : q < 8) (y : Nat) (hy : y < 4) (zy de : Int) (hzy : zy = (y : Int)) (hde : 1 ≤ de ∧ de ≤ 20) : MetL l yX1_meanHitParts wsX1_meanHitParts (rmF 2 45) (BPc G o b lim dif [.ref (o + 2 + 15 * q), .int (zI zy), .int (zI de)]) (mhZ b q y de) := by
  refine Met.ofW (cc := cX1_meanHitParts) (maxL := 7) (ret := (some .long)) (by decide) rfl ?_
  intro p e s m args below meth c s₁ B hml hv
  obtain ⟨rfl, hW, hi, hK⟩ := hv
  have hx := B.exec
  have hb := B.bytes
  have hr := B.returns
  have hts := atoms_spec (ws := wsX1_meanHitParts) B.pre
  have hown : s.vm.findClass RX1 = some m.cls := findClass_of_methodNamed B.named
  have hlocks := B.notSynchronized
  have hl := lv_entry ([.ref (o + 2 + 15 * q), .int (zI zy), .int (zI de)]) (n := 7) (Nat.le_of_ble_eq_true rfl)
  rw [lg_entry_eq]
  generalize (lg_sl ([.ref (o + 2 + 15 * q), .int (zI zy), .int (zI de)]) ++ List.replicate (7 - (lg_sl ([.ref (o + 2 + 15 * q), .int (zI zy), .int (zI de)])).length) Slot.unset).toArray = ls at hl ⊢
  have hl : lv_has ls 7 [(0, .ref (o + 2 + 15 * q)), (1, .int (zI zy)), (2, .int (zI de))] := hl
  have hn20 := hi.n q y
  refine lv_aload_n hx hb dX1_meanHitParts_0 rfl (lv_at hl 0 rfl) ?_
  refine x_get (ci := 1) (C := RX1) (T := TX1) (N := 2) (own := RX1) (index := 11) (v := .ref (o + 2 + 15 * q + 1)) hx hb hts (by decide +kernel) hown hK (hW.q (q := q) (by omega)) rfl 0 (by decide) (by decide +kernel) rfl rfl dX1_meanHitParts_1 ?_
  refine lv_iload_n hx hb dX1_meanHitParts_4 rfl (lv_at hl 1 rfl) ?_
  refine x_aaldr hx hb hK (hW.rs (q := q) (by omega)) (y) (by omega) (by omega) (by decide) dX1_meanHitParts_5 ?_
  refine lv_astore_n (lv' := [(3, .ref (o + 2 + 15 * q + 2 + 3 * y)), (0, .ref (o + 2 + 15 * q)), (1, .int (zI zy)), (2, .int (zI de))]) hx hb dX1_meanHitParts_6 rfl hl (by decide) rfl (fun ls hl => ?_)
  refine lv_lconst (v := lI 0) hx hb dX1_meanHitParts_7 (by decide +kernel) ?_
  refine lv_lstore (lv' := [(4, .long (lI 0)), (3, .ref (o + 2 + 15 * q + 2 + 3 * y)), (0, .ref (o + 2 + 15 * q)), (1, .int (zI zy)), (2, .int (zI de))]) hx hb dX1_meanHitParts_8 hl (by decide) rfl (fun ls hl => ?_)
  refine x_iconst hx hb dX1_meanHitParts_10 ?_
  refine lv_istore (lv' := [(6, .int (zI 1)), (4, .long (lI 0)), (3, .ref (o + 2 + 15 * q + 2 + 3 * y)), (0, .ref (o + 2 + 15 * q)), (1, .int (zI zy)), (2, .int (zI de))]) hx hb dX1_meanHitParts_11 hl (by decide) rfl (fun ls hl => ?_)
  refine x_loop1 (fun (k : Nat) => (k ≤ bN b q y)) (fun (k : Nat) => bN b q y - k) (fun (k : Nat) => [(6, .int (zI ((k : Int) + 1))), (4, .long (lI (sum9 (mhT b q y de) 0 k))), (3, .ref (o + 2 + 15 * q + 2 + 3 * y)), (0, .ref (o + 2 + 15 * q)), (1, .int (zI zy)), (2, .int (zI de))]) (0) (show ((0) ≤ bN b q y) from (Nat.zero_le _)) (show lv_has ls 7 [(6, .int (zI (((0) : Int) + 1))), (4, .long (lI (sum9 (mhT b q y de) 0 (0)))), (3, .ref (o + 2 + 15 * q + 2 + 3 * y)), (0, .ref (o + 2 + 15 * q)), (1, .int (zI zy)), (2, .int (zI de))] from (lv_cons (x_at (lv_at hl 0 rfl) (by omega)) (lv_cons (x_atL (lv_at hl 1 rfl) (rfl)) (lv_cons (lv_at hl 2 rfl) (lv_cons (lv_at hl 3 rfl) (lv_cons (lv_at hl 4 rfl) (lv_cons (lv_at hl 5 rfl) (lv_nil hl)))))))) (fun k ls hI13 hl ih13 => ?_)
  have hk : k ≤ bN b q y := hI13
  have hl : lv_has ls 7 [(6, .int (zI ((k : Int) + 1))), (4, .long (lI (sum9 (mhT b q y de) 0 k))), (3, .ref (o + 2 + 15 * q + 2 + 3 * y)), (0, .ref (o + 2 + 15 * q)), (1, .int (zI zy)), (2, .int (zI de))] := hl
  have hbd := mh_bd hi (q := q) (y := y) de hk
  refine lv_iload hx hb dX1_meanHitParts_13 (lv_at hl 0 rfl) ?_
  refine lv_aload_n hx hb dX1_meanHitParts_15 rfl (lv_at hl 2 rfl) ?_
  refine x_getN (ci := 2) (C := RX2) (T := TX2) (N := 3) (own := RX1) (index := 33) (v := .int (zI (bN b q y : Int))) hx hb hts (by decide +kernel) hown hK (hW.r (q := q) (s := y) (by omega) (by omega)) rfl 2 (by decide) nk_RX1_33 rfl rfl dX1_meanHitParts_16 ?_
  refine x_icmp_gt (tgt := 59) hx hb dX1_meanHitParts_19 (by decide) (by omega) (fun h1 => ?_) (fun h2 => ?_)
  · refine lv_lload hx hb dX1_meanHitParts_59 (lv_at hl 1 rfl) ?_
    exact x_retL hx hb hr (by rw [show k = bN b q y from by omega]; rfl) dX1_meanHitParts_61 hlocks
  · refine lv_aload_n hx hb dX1_meanHitParts_22 rfl (lv_at hl 3 rfl) ?_
    refine lv_aload_n hx hb dX1_meanHitParts_23 rfl (lv_at hl 2 rfl) ?_
    refine lv_iload hx hb dX1_meanHitParts_24 (lv_at hl 0 rfl) ?_
    refine x_cI (va_runV (As := [.ref (o + 2 + 15 * q + 2 + 3 * y), .int (zI ((k : Int) + 1))]) (rest := []) ⟨hx, hb, hml, hown, hts⟩ (c_X1_isRelevantAt l G o b lim dif q (by omega) y (by omega) ((k : Int) + 1) (by omega)) (cwV 2 hts gX1_meanHitParts_X1_isRelevantAt rfl rfl rfl (by decide +kernel) ⟨Nat.le_of_ble_eq_true rfl, Nat.le_of_ble_eq_true rfl⟩) (x_preV hW hi hK (hW.q (q := q) (by omega)) (ci := 1) (q := (RX1, TX1, 2)) rfl) rfl rfl hl.1 rfl (lv_room (Nat.le_of_ble_eq_true rfl)) dX1_meanHitParts_26 ⟨Nat.le_of_ble_eq_true rfl, Nat.le_of_ble_eq_true rfl⟩) ?_
    refine x_ifB_eq (tgt := 53) hx hb dX1_meanHitParts_29 (by decide) (fun h3 => ?_) (fun h4 => ?_)
    · have hno := h3
      refine x_iinc (lv' := [(6, .int (zI (((k : Int) + 1) + 1))), (4, .long (lI (sum9 (mhT b q y de) 0 k))), (3, .ref (o + 2 + 15 * q + 2 + 3 * y)), (0, .ref (o + 2 + 15 * q)), (1, .int (zI zy)), (2, .int (zI de))]) (k := 0) hx hb dX1_meanHitParts_53 hl rfl (by decide) rfl (fun ls hl => ?_)
      refine lv_goto (tgt := 13) hx hb dX1_meanHitParts_56 (by decide) ?_
      exact ih13 (k + 1) ls (show ((k + 1) ≤ bN b q y) from (by omega)) (show bN b q y - (k + 1) < bN b q y - k from (by omega)) (lv_cons (x_at (lv_at hl 0 rfl) (by omega)) (lv_cons (x_atL (lv_at hl 1 rfl) (mh_f (by omega) hno)) (lv_cons (lv_at hl 2 rfl) (lv_cons (lv_at hl 3 rfl) (lv_cons (lv_at hl 4 rfl) (lv_cons (lv_at hl 5 rfl) (lv_nil hl)))))))
    · have hyes := h4
      have hts9 := tS_le (bS b q y) k
      have hte9 := tE_rng (bS b q y) (n := bN b q y) (i := k) (by omega)
      have hpb := hpZ_bd ((tS (bS b q y) k : Int) + 1) (tE (bS b q y) (bN b q y) k : Int) de
      refine lv_lload hx hb dX1_meanHitParts_32 (lv_at hl 1 rfl) ?_
      refine lv_aload_n hx hb dX1_meanHitParts_34 rfl (lv_at hl 2 rfl) ?_
      refine lv_iload hx hb dX1_meanHitParts_35 (lv_at hl 0 rfl) ?_
      refine x_cI (va_runVN (As := [.int (zI ((k : Int) + 1))]) (rest := [.long (lI (sum9 (mhT b q y de) 0 k))]) ⟨hx, hb, hml, hown, hts⟩ (c_X2_firstTied l G o b lim dif q y (by omega) (by omega) ((k : Int) + 1) (k) (by omega) (by omega)) ⟨va_cnB 1 hts gX1_meanHitParts_X2_firstTied_n41 rfl rfl rfl (x_nestM hK nk_RX1_41) (hts (.initialized RX2) (by decide +kernel)) (by decide +kernel) ⟨Nat.le_of_ble_eq_true rfl, Nat.le_of_ble_eq_true rfl⟩, hts (.instanceMethod yX2_firstTied) (by decide +kernel), hts (.selects RX2 yX2_firstTied yX2_firstTied) (by decide +kernel)⟩ (x_preV hW hi hK (hW.r (q := q) (s := y) (by omega) (by omega)) (ci := 2) (q := (RX2, TX2, 3)) rfl) rfl rfl hl.1 rfl (lv_room (Nat.le_of_ble_eq_true rfl)) dX1_meanHitParts_37 ⟨Nat.le_of_ble_eq_true rfl, Nat.le_of_ble_eq_true rfl⟩) ?_
      refine lv_aload_n hx hb dX1_meanHitParts_40 rfl (lv_at hl 2 rfl) ?_
      refine lv_iload hx hb dX1_meanHitParts_41 (lv_at hl 0 rfl) ?_
      refine x_cI (va_runVN (As := [.int (zI ((k : Int) + 1))]) (rest := [.int (zI ((tS (bS b q y) (k) : Int) + 1)), .long (lI (sum9 (mhT b q y de) 0 k))]) ⟨hx, hb, hml, hown, hts⟩ (c_X2_lastTied l G o b lim dif q y (by omega) (by omega) ((k : Int) + 1) (k) (by omega) (by omega)) ⟨va_cnB 1 hts gX1_meanHitParts_X2_lastTied_n44 rfl rfl rfl (x_nestM hK nk_RX1_44) (hts (.initialized RX2) (by decide +kernel)) (by decide +kernel) ⟨Nat.le_of_ble_eq_true rfl, Nat.le_of_ble_eq_true rfl⟩, hts (.instanceMethod yX2_lastTied) (by decide +kernel), hts (.selects RX2 yX2_lastTied yX2_lastTied) (by decide +kernel)⟩ (x_preV hW hi hK (hW.r (q := q) (s := y) (by omega) (by omega)) (ci := 2) (q := (RX2, TX2, 3)) rfl) rfl rfl hl.1 rfl (lv_room (Nat.le_of_ble_eq_true rfl)) dX1_meanHitParts_43 ⟨Nat.le_of_ble_eq_true rfl, Nat.le_of_ble_eq_true rfl⟩) ?_
      refine lv_iload_n hx hb dX1_meanHitParts_46 rfl (lv_at hl 5 rfl) ?_
      refine x_cL (va_runS (As := [.int (zI ((tS (bS b q y) (k) : Int) + 1)), .int (zI (tE (bS b q y) (bN b q y) (k) : Int)), .int (zI de)]) (rest := [.long (lI (sum9 (mhT b q y de) 0 k))]) ⟨hx, hb, hml, hown, hts⟩ (c_X1_hitParts l ((tS (bS b q y) (k) : Int) + 1) (tE (bS b q y) (bN b q y) (k) : Int) de (by omega) (by omega) (by omega)) (va_cwS 3 hts gX1_meanHitParts_X1_hitParts rfl rfl rfl (by decide +kernel) ⟨Nat.le_of_ble_eq_true rfl, Nat.le_of_ble_eq_true rfl⟩) x_preS rfl rfl hl.1 rfl (lv_room (Nat.le_of_ble_eq_true rfl)) dX1_meanHitParts_47 ⟨Nat.le_of_ble_eq_true rfl, Nat.le_of_ble_eq_true rfl⟩) ?_
      refine x_ladd hx hb dX1_meanHitParts_50 ?_
      refine lv_lstore (lv' := [(4, .long (lI ((sum9 (mhT b q y de) 0 k) + (hpZ ((tS (bS b q y) (k) : Int) + 1) (tE (bS b q y) (bN b q y) (k) : Int) de)))), (6, .int (zI ((k : Int) + 1))), (3, .ref (o + 2 + 15 * q + 2 + 3 * y)), (0, .ref (o + 2 + 15 * q)), (1, .int (zI zy)), (2, .int (zI de))]) hx hb dX1_meanHitParts_51 hl (by decide) rfl (fun ls hl => ?_)
      refine x_iinc (lv' := [(6, .int (zI (((k : Int) + 1) + 1))), (4, .long (lI ((sum9 (mhT b q y de) 0 k) + (hpZ ((tS (bS b q y) (k) : Int) + 1) (tE (bS b q y) (bN b q y) (k) : Int) de)))), (3, .ref (o + 2 + 15 * q + 2 + 3 * y)), (0, .ref (o + 2 + 15 * q)), (1, .int (zI zy)), (2, .int (zI de))]) (k := 1) hx hb dX1_meanHitParts_53 hl rfl (by decide) rfl (fun ls hl => ?_)
      refine lv_goto (tgt := 13) hx hb dX1_meanHitParts_56 (by decide) ?_
      exact ih13 (k + 1) ls (show ((k + 1) ≤ bN b q y) from (by omega)) (show bN b q y - (k + 1) < bN b q y - k from (by omega)) (lv_cons (x_at (lv_at hl 0 rfl) (by omega)) (lv_cons (x_atL (lv_at hl 1 rfl) (mh_t (by omega) hyes)) (lv_cons (lv_at hl 2 rfl) (lv_cons (lv_at hl 3 rfl) (lv_cons (lv_at hl 4 rfl) (lv_cons (lv_at hl 5 rfl) (lv_nil hl)))))))
/-- the place of the first relevant one; the length if there is none -/
def r0N (b : XB) (q y : Nat) : Nat := fst9 (relP b q y) 0 (bN b q y)
def frr (b : XB) (q y : Nat) : Int := if r0N b q y < bN b q y then (r0N b q y : Int) + 1 else -1
theorem r0_le (b : XB) (q y : Nat) : r0N b q y ≤ bN b q y := by
  have := fst9_rng (relP b q y) (bN b q y) 0
  unfold r0N
  omega
theorem frr_at {b : XB} {q y k : Nat} (hk : k < bN b q y) (h : ∀ j, j < k → relP b q y j = false) (he : relP b q y k = true) : frr b q y = (k : Int) + 1 := by
  have := fst9_uniq (P := relP b q y) (i := 0) (f := bN b q y) (k := k) (Nat.zero_le _) (fun j _ hj => h j hj) (Or.inr ⟨by omega, he⟩)
  rw [frr, r0N, this, if_pos hk]
theorem frr_no {b : XB} {q y : Nat} (h : ∀ j, j < bN b q y → relP b q y j = false) : frr b q y = -1 := by
  have := fst9_uniq (P := relP b q y) (i := 0) (f := bN b q y) (k := bN b q y) (Nat.zero_le _) (fun j _ hj => h j hj) (Or.inl (Nat.zero_add _).symm)
  rw [frr, r0N, this, if_neg (Nat.lt_irrefl _)]
theorem frr_m1 {b : XB} {q y : Nat} (h : frr b q y = -1) : r0N b q y = bN b q y := by
  unfold frr at h
  have := r0_le b q y
  split at h <;> omega
theorem frr_ne {b : XB} {q y : Nat} (h : ¬ frr b q y = -1) : r0N b q y < bN b q y ∧ frr b q y = (r0N b q y : Int) + 1 := by
  unfold frr at h ⊢
  split at h
  · rename_i h9
    rw [if_pos h9]; exact ⟨h9, rfl⟩
  · exact absurd rfl h
theorem r0_rel {b : XB} {q y : Nat} (h : r0N b q y < bN b q y) : relP b q y (r0N b q y) = true := fst9_at (relP b q y) (bN b q y) 0 (by unfold r0N at h; omega)
theorem frr_rng {b : XB} (hi : bInv b) (q y : Nat) : -1 ≤ frr b q y ∧ frr b q y ≤ 21 := by
  have := hi.n q y
  unfold frr
  split <;> omega
/-- the group of the first relevant one: its start, the place behind its end, how many of it are relevant -/
def gA (b : XB) (q y : Nat) : Nat := tS (bS b q y) (r0N b q y)
def gE (b : XB) (q y : Nat) : Nat := tE (bS b q y) (bN b q y) (r0N b q y)
def gR (b : XB) (q y : Nat) : Nat := relN b q y (gA b q y) (gE b q y)
theorem g_rng {b : XB} {q y : Nat} (h : r0N b q y < bN b q y) : gA b q y ≤ r0N b q y ∧ r0N b q y < gE b q y ∧ gE b q y ≤ bN b q y ∧ 1 ≤ gR b q y ∧ gR b q y ≤ gE b q y - gA b q y := by
  have h1 := tS_le (bS b q y) (r0N b q y)
  have h2 := tE_rng (bS b q y) h
  have h3 := relN_le b q y (gA b q y) (gE b q y)
  refine ⟨h1, h2.1, h2.2, ?_, h3⟩
  have e : min (gE b q y) (bN b q y) = gE b q y := Nat.min_eq_left h2.2
  have h4 : r0N b q y - gA b q y < gE b q y - gA b q y := by
    have a : gA b q y ≤ r0N b q y := h1
    have c : r0N b q y < gE b q y := h2.1
    omega
  unfold gR relN
  rw [e]
  exact cnt9_pos h4 (by rw [show gA b q y + (r0N b q y - gA b q y) = r0N b q y from by have a : gA b q y ≤ r0N b q y := h1; omega]; exact r0_rel h)
/-- what a rank adds to the sum of the reciprocals, k the place ahead of it -/
def rpT (e r k : Nat) : Int := 232792560 / ((k : Int) + 1) * subI (e - (k + 1) - (r - 1)) (r - 1)
def rpS (a e r : Nat) : Int := sum9 (rpT e r) a (e + 1 - r - a)
theorem rpT_bd {e r k : Nat} (he : e ≤ 20) (hr : r ≤ 20) : 0 ≤ rpT e r k ∧ rpT e r k ≤ 232792560 * 184756 := by
  by_cases hx : e - (k + 1) - (r - 1) + (r - 1) ≤ 20
  · have a := subI_bd hx
    have h1 : 0 ≤ (232792560 : Int) / ((k : Int) + 1) := Int.ediv_nonneg (by omega) (by omega)
    have h2 : (232792560 : Int) / ((k : Int) + 1) ≤ 232792560 := Int.ediv_le_self _ (by omega)
    exact ⟨Int.mul_nonneg h1 (by omega), Int.mul_le_mul h2 a.2 (by omega) (by omega)⟩
  · exact absurd hx (by omega)
theorem rp_bd {a e r n : Nat} (he : e ≤ 20) (hr : r ≤ 20) (hn : n ≤ 20) : 0 ≤ sum9 (rpT e r) a n ∧ sum9 (rpT e r) a n ≤ 20 * (232792560 * 184756) := by
  have h := sum9_bd (g := rpT e r) (B := 232792560 * 184756) (lo := a) (n := n) (fun j _ => rpT_bd he hr)
  omega
set_option maxHeartbeats 4000000 in
set_option maxRecDepth 100000 in
theorem c_X1_firstRelevantRank (l : Launch) (G : XG) (o : Nat) (b : XB) (lim : Int) (dif : Nat → Int) (q : Nat) (hq : q < 8) (y : Nat) (hy : y < 4) : MetI l yX1_firstRelevantRank wsX1_firstRelevantRank (rmF 2 44) (BPc G o b lim dif [.ref (o + 2 + 15 * q), .ref (o + 2 + 15 * q + 2 + 3 * y)]) (frr b q y) := by
  refine Met.ofW (cc := cX1_firstRelevantRank) (maxL := 3) (ret := (some .int)) (by decide) rfl ?_
  intro p e s m args below meth c s₁ B hml hv
  obtain ⟨rfl, hW, hi, hK⟩ := hv
  have hx := B.exec
  have hb := B.bytes
  have hr := B.returns
  have hts := atoms_spec (ws := wsX1_firstRelevantRank) B.pre
  have hown : s.vm.findClass RX1 = some m.cls := findClass_of_methodNamed B.named
  have hlocks := B.notSynchronized
  have hl := lv_entry ([.ref (o + 2 + 15 * q), .ref (o + 2 + 15 * q + 2 + 3 * y)]) (n := 3) (Nat.le_of_ble_eq_true rfl)
  rw [lg_entry_eq]
  generalize (lg_sl ([.ref (o + 2 + 15 * q), .ref (o + 2 + 15 * q + 2 + 3 * y)]) ++ List.replicate (3 - (lg_sl ([.ref (o + 2 + 15 * q), .ref (o + 2 + 15 * q + 2 + 3 * y)])).length) Slot.unset).toArray = ls at hl ⊢
  have hl : lv_has ls 3 [(0, .ref (o + 2 + 15 * q)), (1, .ref (o + 2 + 15 * q + 2 + 3 * y))] := hl
  have hn20 := hi.n q y
  refine x_iconst hx hb dX1_firstRelevantRank_0 ?_
  refine lv_istore_n (lv' := [(2, .int (zI 1)), (0, .ref (o + 2 + 15 * q)), (1, .ref (o + 2 + 15 * q + 2 + 3 * y))]) hx hb dX1_firstRelevantRank_1 rfl hl (by decide) rfl (fun ls hl => ?_)
  refine x_loop1 (fun (k : Nat) => (k ≤ bN b q y) ∧ (∀ j, j < k → relP b q y j = false)) (fun (k : Nat) => bN b q y - k) (fun (k : Nat) => [(2, .int (zI ((k : Int) + 1))), (0, .ref (o + 2 + 15 * q)), (1, .ref (o + 2 + 15 * q + 2 + 3 * y))]) (0) (show ((0) ≤ bN b q y) ∧ (∀ j, j < (0) → relP b q y j = false) from ⟨(Nat.zero_le _), (fun j hj => absurd hj (Nat.not_lt_zero _))⟩) (show lv_has ls 3 [(2, .int (zI (((0) : Int) + 1))), (0, .ref (o + 2 + 15 * q)), (1, .ref (o + 2 + 15 * q + 2 + 3 * y))] from (lv_cons (x_at (lv_at hl 0 rfl) (by omega)) (lv_cons (lv_at hl 1 rfl) (lv_cons (lv_at hl 2 rfl) (lv_nil hl))))) (fun k ls hI2 hl ih2 => ?_)
  obtain ⟨hk, hm⟩ : (k ≤ bN b q y) ∧ (∀ j, j < k → relP b q y j = false) := hI2
  have hl : lv_has ls 3 [(2, .int (zI ((k : Int) + 1))), (0, .ref (o + 2 + 15 * q)), (1, .ref (o + 2 + 15 * q + 2 + 3 * y))] := hl
  refine lv_iload_n hx hb dX1_firstRelevantRank_2 rfl (lv_at hl 0 rfl) ?_
  refine lv_aload_n hx hb dX1_firstRelevantRank_3 rfl (lv_at hl 2 rfl) ?_
  refine x_getN (ci := 2) (C := RX2) (T := TX2) (N := 3) (own := RX1) (index := 33) (v := .int (zI (bN b q y : Int))) hx hb hts (by decide +kernel) hown hK (hW.r (q := q) (s := y) (by omega) (by omega)) rfl 2 (by decide) nk_RX1_33 rfl rfl dX1_firstRelevantRank_4 ?_
  refine x_icmp_gt (tgt := 27) hx hb dX1_firstRelevantRank_7 (by decide) (by omega) (fun h1 => ?_) (fun h2 => ?_)
  · refine x_iconst hx hb dX1_firstRelevantRank_27 ?_
    exact x_retI hx hb hr ((frr_no (fun j hj => hm j (by omega))).symm) dX1_firstRelevantRank_28 hlocks
  · refine lv_aload_n hx hb dX1_firstRelevantRank_10 rfl (lv_at hl 1 rfl) ?_
    refine lv_aload_n hx hb dX1_firstRelevantRank_11 rfl (lv_at hl 2 rfl) ?_
    refine lv_iload_n hx hb dX1_firstRelevantRank_12 rfl (lv_at hl 0 rfl) ?_
    refine x_cI (va_runV (As := [.ref (o + 2 + 15 * q + 2 + 3 * y), .int (zI ((k : Int) + 1))]) (rest := []) ⟨hx, hb, hml, hown, hts⟩ (c_X1_isRelevantAt l G o b lim dif q (by omega) y (by omega) ((k : Int) + 1) (by omega)) (cwV 2 hts gX1_firstRelevantRank_X1_isRelevantAt rfl rfl rfl (by decide +kernel) ⟨Nat.le_of_ble_eq_true rfl, Nat.le_of_ble_eq_true rfl⟩) (x_preV hW hi hK (hW.q (q := q) (by omega)) (ci := 1) (q := (RX1, TX1, 2)) rfl) rfl rfl hl.1 rfl (lv_room (Nat.le_of_ble_eq_true rfl)) dX1_firstRelevantRank_13 ⟨Nat.le_of_ble_eq_true rfl, Nat.le_of_ble_eq_true rfl⟩) ?_
    refine x_ifB_eq (tgt := 21) hx hb dX1_firstRelevantRank_16 (by decide) (fun h3 => ?_) (fun h4 => ?_)
    · have hno := h3
      refine x_iinc (lv' := [(2, .int (zI (((k : Int) + 1) + 1))), (0, .ref (o + 2 + 15 * q)), (1, .ref (o + 2 + 15 * q + 2 + 3 * y))]) (k := 0) hx hb dX1_firstRelevantRank_21 hl rfl (by decide) rfl (fun ls hl => ?_)
      refine lv_goto (tgt := 2) hx hb dX1_firstRelevantRank_24 (by decide) ?_
      exact ih2 (k + 1) ls (show ((k + 1) ≤ bN b q y) ∧ (∀ j, j < (k + 1) → relP b q y j = false) from ⟨(by omega), (lt_s hm (by rw [← relZ_k (by omega)]; exact bne9 hno))⟩) (show bN b q y - (k + 1) < bN b q y - k from (by omega)) (lv_cons (x_at (lv_at hl 0 rfl) (by omega)) (lv_cons (lv_at hl 1 rfl) (lv_cons (lv_at hl 2 rfl) (lv_nil hl))))
    · have hyes := h4
      refine lv_iload_n hx hb dX1_firstRelevantRank_19 rfl (lv_at hl 0 rfl) ?_
      exact x_retI hx hb hr ((frr_at (by omega) hm (by rw [← relZ_k (by omega)]; exact hyes)).symm) dX1_firstRelevantRank_20 hlocks
/-- the reciprocal: what is divided, by what -/
def rpZ (b : XB) (q y : Nat) : Int := if r0N b q y < bN b q y then rpS (gA b q y) (gE b q y) (gR b q y) else 0
def rwZ (b : XB) (q y : Nat) : Int := if r0N b q y < bN b q y then 232792560 * subI (gE b q y - gA b q y - gR b q y) (gR b q y) else 1
set_option maxHeartbeats 4000000 in
set_option maxRecDepth 100000 in
theorem c_X1_reciprocalParts (l : Launch) (G : XG) (o : Nat) (b : XB) (lim : Int) (dif : Nat → Int) (q : Nat) (hq : q < 8) (y : Nat) (hy : y < 4) (zy : Int) (hzy : zy = (y : Int)) : MetL l yX1_reciprocalParts wsX1_reciprocalParts (rmF 3 69) (BPc G o b lim dif [.ref (o + 2 + 15 * q), .int (zI zy)]) (rpZ b q y) := by
  refine Met.ofW (cc := cX1_reciprocalParts) (maxL := 10) (ret := (some .long)) (by decide) rfl ?_
  intro p e s m args below meth c s₁ B hml hv
  obtain ⟨rfl, hW, hi, hK⟩ := hv
  have hx := B.exec
  have hb := B.bytes
  have hr := B.returns
  have hts := atoms_spec (ws := wsX1_reciprocalParts) B.pre
  have hown : s.vm.findClass RX1 = some m.cls := findClass_of_methodNamed B.named
  have hlocks := B.notSynchronized
  have hl := lv_entry ([.ref (o + 2 + 15 * q), .int (zI zy)]) (n := 10) (Nat.le_of_ble_eq_true rfl)
  rw [lg_entry_eq]
  generalize (lg_sl ([.ref (o + 2 + 15 * q), .int (zI zy)]) ++ List.replicate (10 - (lg_sl ([.ref (o + 2 + 15 * q), .int (zI zy)])).length) Slot.unset).toArray = ls at hl ⊢
  have hl : lv_has ls 10 [(0, .ref (o + 2 + 15 * q)), (1, .int (zI zy))] := hl
  have hn20 := hi.n q y
  refine lv_aload_n hx hb dX1_reciprocalParts_0 rfl (lv_at hl 0 rfl) ?_
  refine x_get (ci := 1) (C := RX1) (T := TX1) (N := 2) (own := RX1) (index := 11) (v := .ref (o + 2 + 15 * q + 1)) hx hb hts (by decide +kernel) hown hK (hW.q (q := q) (by omega)) rfl 0 (by decide) (by decide +kernel) rfl rfl dX1_reciprocalParts_1 ?_
  refine lv_iload_n hx hb dX1_reciprocalParts_4 rfl (lv_at hl 1 rfl) ?_
  refine x_aaldr hx hb hK (hW.rs (q := q) (by omega)) (y) (by omega) (by omega) (by decide) dX1_reciprocalParts_5 ?_
  refine lv_astore_n (lv' := [(2, .ref (o + 2 + 15 * q + 2 + 3 * y)), (0, .ref (o + 2 + 15 * q)), (1, .int (zI zy))]) hx hb dX1_reciprocalParts_6 rfl hl (by decide) rfl (fun ls hl => ?_)
  refine lv_aload_n hx hb dX1_reciprocalParts_7 rfl (lv_at hl 1 rfl) ?_
  refine lv_aload_n hx hb dX1_reciprocalParts_8 rfl (lv_at hl 0 rfl) ?_
  refine x_cI (va_runV (As := [.ref (o + 2 + 15 * q + 2 + 3 * y)]) (rest := []) ⟨hx, hb, hml, hown, hts⟩ (c_X1_firstRelevantRank l G o b lim dif q (by omega) y (by omega)) (cwV 1 hts gX1_reciprocalParts_X1_firstRelevantRank rfl rfl rfl (by decide +kernel) ⟨Nat.le_of_ble_eq_true rfl, Nat.le_of_ble_eq_true rfl⟩) (x_preV hW hi hK (hW.q (q := q) (by omega)) (ci := 1) (q := (RX1, TX1, 2)) rfl) rfl rfl hl.1 rfl (lv_room (Nat.le_of_ble_eq_true rfl)) dX1_reciprocalParts_9 ⟨Nat.le_of_ble_eq_true rfl, Nat.le_of_ble_eq_true rfl⟩) ?_
  have hfr := frr_rng hi q y
  refine lv_istore_n (lv' := [(3, .int (zI (frr b q y))), (2, .ref (o + 2 + 15 * q + 2 + 3 * y)), (0, .ref (o + 2 + 15 * q)), (1, .int (zI zy))]) hx hb dX1_reciprocalParts_12 rfl hl (by decide) rfl (fun ls hl => ?_)
  refine lv_iload_n hx hb dX1_reciprocalParts_13 rfl (lv_at hl 0 rfl) ?_
  refine x_iconst hx hb dX1_reciprocalParts_14 ?_
  refine x_icmp_ne (tgt := 20) hx hb dX1_reciprocalParts_15 (by decide) (by omega) (fun h1 => ?_) (fun h2 => ?_)
  · have hf9 := frr_ne h1
    have hg9 := g_rng hf9.1
    have ea : tS (bS b q y) (r0N b q y) = gA b q y := rfl
    have ee : tE (bS b q y) (bN b q y) (r0N b q y) = gE b q y := rfl
    have er : relN b q y (tS (bS b q y) (r0N b q y)) (tE (bS b q y) (bN b q y) (r0N b q y)) = gR b q y := rfl
    refine lv_aload_n hx hb dX1_reciprocalParts_20 rfl (lv_at hl 1 rfl) ?_
    refine lv_iload_n hx hb dX1_reciprocalParts_21 rfl (lv_at hl 0 rfl) ?_
    refine x_cI (va_runVN (As := [.int (zI (frr b q y))]) (rest := []) ⟨hx, hb, hml, hown, hts⟩ (c_X2_firstTied l G o b lim dif q y (by omega) (by omega) (frr b q y) (r0N b q y) (by omega) (by omega)) ⟨va_cnB 1 hts gX1_reciprocalParts_X2_firstTied_n41 rfl rfl rfl (x_nestM hK nk_RX1_41) (hts (.initialized RX2) (by decide +kernel)) (by decide +kernel) ⟨Nat.le_of_ble_eq_true rfl, Nat.le_of_ble_eq_true rfl⟩, hts (.instanceMethod yX2_firstTied) (by decide +kernel), hts (.selects RX2 yX2_firstTied yX2_firstTied) (by decide +kernel)⟩ (x_preV hW hi hK (hW.r (q := q) (s := y) (by omega) (by omega)) (ci := 2) (q := (RX2, TX2, 3)) rfl) rfl rfl hl.1 rfl (lv_room (Nat.le_of_ble_eq_true rfl)) dX1_reciprocalParts_22 ⟨Nat.le_of_ble_eq_true rfl, Nat.le_of_ble_eq_true rfl⟩) ?_
    refine lv_istore (lv' := [(4, .int (zI ((tS (bS b q y) (r0N b q y) : Int) + 1))), (3, .int (zI (frr b q y))), (2, .ref (o + 2 + 15 * q + 2 + 3 * y)), (0, .ref (o + 2 + 15 * q)), (1, .int (zI zy))]) hx hb dX1_reciprocalParts_25 hl (by decide) rfl (fun ls hl => ?_)
    refine lv_aload_n hx hb dX1_reciprocalParts_27 rfl (lv_at hl 2 rfl) ?_
    refine lv_iload_n hx hb dX1_reciprocalParts_28 rfl (lv_at hl 1 rfl) ?_
    refine x_cI (va_runVN (As := [.int (zI (frr b q y))]) (rest := []) ⟨hx, hb, hml, hown, hts⟩ (c_X2_lastTied l G o b lim dif q y (by omega) (by omega) (frr b q y) (r0N b q y) (by omega) (by omega)) ⟨va_cnB 1 hts gX1_reciprocalParts_X2_lastTied_n44 rfl rfl rfl (x_nestM hK nk_RX1_44) (hts (.initialized RX2) (by decide +kernel)) (by decide +kernel) ⟨Nat.le_of_ble_eq_true rfl, Nat.le_of_ble_eq_true rfl⟩, hts (.instanceMethod yX2_lastTied) (by decide +kernel), hts (.selects RX2 yX2_lastTied yX2_lastTied) (by decide +kernel)⟩ (x_preV hW hi hK (hW.r (q := q) (s := y) (by omega) (by omega)) (ci := 2) (q := (RX2, TX2, 3)) rfl) rfl rfl hl.1 rfl (lv_room (Nat.le_of_ble_eq_true rfl)) dX1_reciprocalParts_29 ⟨Nat.le_of_ble_eq_true rfl, Nat.le_of_ble_eq_true rfl⟩) ?_
    refine lv_istore (lv' := [(5, .int (zI (tE (bS b q y) (bN b q y) (r0N b q y) : Int))), (4, .int (zI ((tS (bS b q y) (r0N b q y) : Int) + 1))), (3, .int (zI (frr b q y))), (2, .ref (o + 2 + 15 * q + 2 + 3 * y)), (0, .ref (o + 2 + 15 * q)), (1, .int (zI zy))]) hx hb dX1_reciprocalParts_32 hl (by decide) rfl (fun ls hl => ?_)
    refine lv_aload_n hx hb dX1_reciprocalParts_34 rfl (lv_at hl 4 rfl) ?_
    refine lv_aload_n hx hb dX1_reciprocalParts_35 rfl (lv_at hl 3 rfl) ?_
    refine lv_iload hx hb dX1_reciprocalParts_36 (lv_at hl 1 rfl) ?_
    refine lv_iload hx hb dX1_reciprocalParts_38 (lv_at hl 0 rfl) ?_
    refine x_cI (va_runV (As := [.ref (o + 2 + 15 * q + 2 + 3 * y), .int (zI ((tS (bS b q y) (r0N b q y) : Int) + 1)), .int (zI (tE (bS b q y) (bN b q y) (r0N b q y) : Int))]) (rest := []) ⟨hx, hb, hml, hown, hts⟩ (c_X1_relevantWithin l G o b lim dif q (by omega) y (by omega) ((tS (bS b q y) (r0N b q y) : Int) + 1) (tE (bS b q y) (bN b q y) (r0N b q y) : Int) (tS (bS b q y) (r0N b q y)) (tE (bS b q y) (bN b q y) (r0N b q y)) (by omega) (by omega) (by omega) (by omega)) (cwV 3 hts gX1_reciprocalParts_X1_relevantWithin rfl rfl rfl (by decide +kernel) ⟨Nat.le_of_ble_eq_true rfl, Nat.le_of_ble_eq_true rfl⟩) (x_preV hW hi hK (hW.q (q := q) (by omega)) (ci := 1) (q := (RX1, TX1, 2)) rfl) rfl rfl hl.1 rfl (lv_room (Nat.le_of_ble_eq_true rfl)) dX1_reciprocalParts_40 ⟨Nat.le_of_ble_eq_true rfl, Nat.le_of_ble_eq_true rfl⟩) ?_
    refine lv_istore (lv' := [(6, .int (zI (relN b q y (tS (bS b q y) (r0N b q y)) (tE (bS b q y) (bN b q y) (r0N b q y)) : Int))), (5, .int (zI (tE (bS b q y) (bN b q y) (r0N b q y) : Int))), (4, .int (zI ((tS (bS b q y) (r0N b q y) : Int) + 1))), (3, .int (zI (frr b q y))), (2, .ref (o + 2 + 15 * q + 2 + 3 * y)), (0, .ref (o + 2 + 15 * q)), (1, .int (zI zy))]) hx hb dX1_reciprocalParts_43 hl (by decide) rfl (fun ls hl => ?_)
    refine lv_lconst (v := lI 0) hx hb dX1_reciprocalParts_45 (by decide +kernel) ?_
    refine lv_lstore (lv' := [(7, .long (lI 0)), (6, .int (zI (relN b q y (tS (bS b q y) (r0N b q y)) (tE (bS b q y) (bN b q y) (r0N b q y)) : Int))), (5, .int (zI (tE (bS b q y) (bN b q y) (r0N b q y) : Int))), (4, .int (zI ((tS (bS b q y) (r0N b q y) : Int) + 1))), (3, .int (zI (frr b q y))), (2, .ref (o + 2 + 15 * q + 2 + 3 * y)), (0, .ref (o + 2 + 15 * q)), (1, .int (zI zy))]) hx hb dX1_reciprocalParts_46 hl (by decide) rfl (fun ls hl => ?_)
    refine lv_iload hx hb dX1_reciprocalParts_48 (lv_at hl 3 rfl) ?_
    refine x_iconst hx hb dX1_reciprocalParts_50 ?_
    refine x_max (index := 67) (rest := []) hx hb hml hl hown hts (by decide +kernel) (Nat.le_of_ble_eq_true rfl) (by omega) (Nat.le_of_ble_eq_true rfl) ⟨Nat.le_of_ble_eq_true rfl, Nat.le_of_ble_eq_true rfl⟩ dX1_reciprocalParts_51 ?_
    refine lv_istore (lv' := [(9, .int (zI (max ((tS (bS b q y) (r0N b q y) : Int) + 1) 1))), (7, .long (lI 0)), (6, .int (zI (relN b q y (tS (bS b q y) (r0N b q y)) (tE (bS b q y) (bN b q y) (r0N b q y)) : Int))), (5, .int (zI (tE (bS b q y) (bN b q y) (r0N b q y) : Int))), (4, .int (zI ((tS (bS b q y) (r0N b q y) : Int) + 1))), (3, .int (zI (frr b q y))), (2, .ref (o + 2 + 15 * q + 2 + 3 * y)), (0, .ref (o + 2 + 15 * q)), (1, .int (zI zy))]) hx hb dX1_reciprocalParts_54 hl (by decide) rfl (fun ls hl => ?_)
    refine x_loop1 (fun (j : Nat) => (j ≤ gE b q y + 1 - gR b q y - gA b q y)) (fun (j : Nat) => gE b q y + 1 - gR b q y - gA b q y - j) (fun (j : Nat) => [(9, .int (zI ((gA b q y + j : Int) + 1))), (7, .long (lI (sum9 (rpT (gE b q y) (gR b q y)) (gA b q y) j))), (5, .int (zI (gE b q y : Int))), (6, .int (zI (gR b q y : Int)))]) (0) (show ((0) ≤ gE b q y + 1 - gR b q y - gA b q y) from (Nat.zero_le _)) (show lv_has ls 10 [(9, .int (zI ((gA b q y + (0) : Int) + 1))), (7, .long (lI (sum9 (rpT (gE b q y) (gR b q y)) (gA b q y) (0)))), (5, .int (zI (gE b q y : Int))), (6, .int (zI (gR b q y : Int)))] from (lv_cons (x_at (lv_at hl 0 rfl) (by omega)) (lv_cons (x_atL (lv_at hl 1 rfl) (rfl)) (lv_cons (x_at (lv_at hl 3 rfl) (by rw [← ee])) (lv_cons (x_at (lv_at hl 2 rfl) (by rw [← er])) (lv_nil hl)))))) (fun j ls hI56 hl ih56 => ?_)
    have hj : j ≤ gE b q y + 1 - gR b q y - gA b q y := hI56
    have hl : lv_has ls 10 [(9, .int (zI ((gA b q y + j : Int) + 1))), (7, .long (lI (sum9 (rpT (gE b q y) (gR b q y)) (gA b q y) j))), (5, .int (zI (gE b q y : Int))), (6, .int (zI (gR b q y : Int)))] := hl
    have hbd := rp_bd (a := gA b q y) (e := gE b q y) (r := gR b q y) (n := j) (by omega) (by omega) (by omega)
    refine lv_iload hx hb dX1_reciprocalParts_56 (lv_at hl 0 rfl) ?_
    refine lv_iload hx hb dX1_reciprocalParts_58 (lv_at hl 2 rfl) ?_
    refine lv_iload hx hb dX1_reciprocalParts_60 (lv_at hl 3 rfl) ?_
    refine x_isub hx hb dX1_reciprocalParts_62 ?_
    refine x_iconst hx hb dX1_reciprocalParts_63 ?_
    refine x_iadd hx hb dX1_reciprocalParts_64 ?_
    refine x_icmp_gt (tgt := 99) hx hb dX1_reciprocalParts_65 (by decide) (by omega) (fun h3 => ?_) (fun h4 => ?_)
    · refine lv_lload hx hb dX1_reciprocalParts_99 (lv_at hl 1 rfl) ?_
      exact x_retL hx hb hr (by rw [rpZ, if_pos hf9.1, rpS, show j = gE b q y + 1 - gR b q y - gA b q y from by omega]) dX1_reciprocalParts_101 hlocks
    · refine lv_lload hx hb dX1_reciprocalParts_68 (lv_at hl 1 rfl) ?_
      refine lv_ldc2 (v := lI 232792560) hx hb hown (by rw [show lI 232792560 = (232792560 : Int64) from by decide +kernel]; exact hts (.constantLong RX1 57 232792560) (by decide +kernel)) dX1_reciprocalParts_70 ?_
      refine lv_iload hx hb dX1_reciprocalParts_73 (lv_at hl 0 rfl) ?_
      refine x_i2l hx hb (by omega) dX1_reciprocalParts_75 ?_
      refine x_ldiv hx hb (by omega) (by omega) dX1_reciprocalParts_76 ?_
      refine lv_iload hx hb dX1_reciprocalParts_77 (lv_at hl 2 rfl) ?_
      refine lv_iload hx hb dX1_reciprocalParts_79 (lv_at hl 0 rfl) ?_
      refine x_isub hx hb dX1_reciprocalParts_81 ?_
      refine lv_iload hx hb dX1_reciprocalParts_82 (lv_at hl 3 rfl) ?_
      refine x_iconst hx hb dX1_reciprocalParts_84 ?_
      refine x_isub hx hb dX1_reciprocalParts_85 ?_
      refine x_cL (va_runSN (As := [.int (zI ((gE b q y : Int) - ((gA b q y + j : Int) + 1))), .int (zI ((gR b q y : Int) - 1))]) (rest := [.long (lI (232792560 / ((gA b q y + j : Int) + 1))), .long (lI (sum9 (rpT (gE b q y) (gR b q y)) (gA b q y) j))]) ⟨hx, hb, hml, hown, hts⟩ (c_X3_subsets l ((gE b q y : Int) - ((gA b q y + j : Int) + 1)) ((gR b q y : Int) - 1) (gE b q y - (gA b q y + j + 1) - (gR b q y - 1)) (gR b q y - 1) (by omega) (by omega) (by omega)) ⟨va_cnB 2 hts gX1_reciprocalParts_X3_subsets_n70 rfl rfl rfl (x_nestM hK nk_RX1_70) (hts (.initialized RX3) (by decide +kernel)) (by decide +kernel) ⟨Nat.le_of_ble_eq_true rfl, Nat.le_of_ble_eq_true rfl⟩, hts (.static yX3_subsets) (by decide +kernel), trivial⟩ x_preS rfl rfl hl.1 rfl (lv_room (Nat.le_of_ble_eq_true rfl)) dX1_reciprocalParts_86 ⟨Nat.le_of_ble_eq_true rfl, Nat.le_of_ble_eq_true rfl⟩) ?_
      refine x_lmul hx hb dX1_reciprocalParts_89 ?_
      refine x_ladd hx hb dX1_reciprocalParts_90 ?_
      refine lv_lstore (lv' := [(7, .long (lI ((sum9 (rpT (gE b q y) (gR b q y)) (gA b q y) j) + ((232792560 / ((gA b q y + j : Int) + 1)) * (subI (gE b q y - (gA b q y + j + 1) - (gR b q y - 1)) (gR b q y - 1)))))), (9, .int (zI ((gA b q y + j : Int) + 1))), (5, .int (zI (gE b q y : Int))), (6, .int (zI (gR b q y : Int)))]) hx hb dX1_reciprocalParts_91 hl (by decide) rfl (fun ls hl => ?_)
      refine x_iinc (lv' := [(9, .int (zI (((gA b q y + j : Int) + 1) + 1))), (7, .long (lI ((sum9 (rpT (gE b q y) (gR b q y)) (gA b q y) j) + ((232792560 / ((gA b q y + j : Int) + 1)) * (subI (gE b q y - (gA b q y + j + 1) - (gR b q y - 1)) (gR b q y - 1)))))), (5, .int (zI (gE b q y : Int))), (6, .int (zI (gR b q y : Int)))]) (k := 1) hx hb dX1_reciprocalParts_93 hl rfl (by decide) rfl (fun ls hl => ?_)
      refine lv_goto (tgt := 56) hx hb dX1_reciprocalParts_96 (by decide) ?_
      exact ih56 (j + 1) ls (show ((j + 1) ≤ gE b q y + 1 - gR b q y - gA b q y) from (by omega)) (show gE b q y + 1 - gR b q y - gA b q y - (j + 1) < gE b q y + 1 - gR b q y - gA b q y - j from (by omega)) (lv_cons (x_at (lv_at hl 0 rfl) (by omega)) (lv_cons (x_atL (lv_at hl 1 rfl) (by rw [sum9_s, rpT]; simp only [Int.natCast_add])) (lv_cons (lv_at hl 2 rfl) (lv_cons (lv_at hl 3 rfl) (lv_nil hl)))))
  · have hm1 := frr_m1 h2
    refine lv_lconst (v := lI 0) hx hb dX1_reciprocalParts_18 (by decide +kernel) ?_
    exact x_retL hx hb hr (by rw [rpZ, if_neg (by omega)]) dX1_reciprocalParts_19 hlocks
set_option maxHeartbeats 4000000 in
set_option maxRecDepth 100000 in
theorem c_X1_reciprocalWhole (l : Launch) (G : XG) (o : Nat) (b : XB) (lim : Int) (dif : Nat → Int) (q : Nat) (hq : q < 8) (y : Nat) (hy : y < 4) (zy : Int) (hzy : zy = (y : Int)) : MetL l yX1_reciprocalWhole wsX1_reciprocalWhole (rmF 3 69) (BPc G o b lim dif [.ref (o + 2 + 15 * q), .int (zI zy)]) (rwZ b q y) := by
  refine Met.ofW (cc := cX1_reciprocalWhole) (maxL := 6) (ret := (some .long)) (by decide) rfl ?_
  intro p e s m args below meth c s₁ B hml hv
  obtain ⟨rfl, hW, hi, hK⟩ := hv
  have hx := B.exec
  have hb := B.bytes
  have hr := B.returns
  have hts := atoms_spec (ws := wsX1_reciprocalWhole) B.pre
  have hown : s.vm.findClass RX1 = some m.cls := findClass_of_methodNamed B.named
  have hlocks := B.notSynchronized
  have hl := lv_entry ([.ref (o + 2 + 15 * q), .int (zI zy)]) (n := 6) (Nat.le_of_ble_eq_true rfl)
  rw [lg_entry_eq]
  generalize (lg_sl ([.ref (o + 2 + 15 * q), .int (zI zy)]) ++ List.replicate (6 - (lg_sl ([.ref (o + 2 + 15 * q), .int (zI zy)])).length) Slot.unset).toArray = ls at hl ⊢
  have hl : lv_has ls 6 [(0, .ref (o + 2 + 15 * q)), (1, .int (zI zy))] := hl
  have hn20 := hi.n q y
  refine lv_aload_n hx hb dX1_reciprocalWhole_0 rfl (lv_at hl 0 rfl) ?_
  refine x_get (ci := 1) (C := RX1) (T := TX1) (N := 2) (own := RX1) (index := 11) (v := .ref (o + 2 + 15 * q + 1)) hx hb hts (by decide +kernel) hown hK (hW.q (q := q) (by omega)) rfl 0 (by decide) (by decide +kernel) rfl rfl dX1_reciprocalWhole_1 ?_
  refine lv_iload_n hx hb dX1_reciprocalWhole_4 rfl (lv_at hl 1 rfl) ?_
  refine x_aaldr hx hb hK (hW.rs (q := q) (by omega)) (y) (by omega) (by omega) (by decide) dX1_reciprocalWhole_5 ?_
  refine lv_astore_n (lv' := [(2, .ref (o + 2 + 15 * q + 2 + 3 * y)), (0, .ref (o + 2 + 15 * q)), (1, .int (zI zy))]) hx hb dX1_reciprocalWhole_6 rfl hl (by decide) rfl (fun ls hl => ?_)
  refine lv_aload_n hx hb dX1_reciprocalWhole_7 rfl (lv_at hl 1 rfl) ?_
  refine lv_aload_n hx hb dX1_reciprocalWhole_8 rfl (lv_at hl 0 rfl) ?_
  refine x_cI (va_runV (As := [.ref (o + 2 + 15 * q + 2 + 3 * y)]) (rest := []) ⟨hx, hb, hml, hown, hts⟩ (c_X1_firstRelevantRank l G o b lim dif q (by omega) y (by omega)) (cwV 1 hts gX1_reciprocalWhole_X1_firstRelevantRank rfl rfl rfl (by decide +kernel) ⟨Nat.le_of_ble_eq_true rfl, Nat.le_of_ble_eq_true rfl⟩) (x_preV hW hi hK (hW.q (q := q) (by omega)) (ci := 1) (q := (RX1, TX1, 2)) rfl) rfl rfl hl.1 rfl (lv_room (Nat.le_of_ble_eq_true rfl)) dX1_reciprocalWhole_9 ⟨Nat.le_of_ble_eq_true rfl, Nat.le_of_ble_eq_true rfl⟩) ?_
  have hfr := frr_rng hi q y
  refine lv_istore_n (lv' := [(3, .int (zI (frr b q y))), (2, .ref (o + 2 + 15 * q + 2 + 3 * y)), (0, .ref (o + 2 + 15 * q)), (1, .int (zI zy))]) hx hb dX1_reciprocalWhole_12 rfl hl (by decide) rfl (fun ls hl => ?_)
  refine lv_iload_n hx hb dX1_reciprocalWhole_13 rfl (lv_at hl 0 rfl) ?_
  refine x_iconst hx hb dX1_reciprocalWhole_14 ?_
  refine x_icmp_ne (tgt := 20) hx hb dX1_reciprocalWhole_15 (by decide) (by omega) (fun h1 => ?_) (fun h2 => ?_)
  · have hf9 := frr_ne h1
    have hg9 := g_rng hf9.1
    have ea : tS (bS b q y) (r0N b q y) = gA b q y := rfl
    have ee : tE (bS b q y) (bN b q y) (r0N b q y) = gE b q y := rfl
    have er : relN b q y (tS (bS b q y) (r0N b q y)) (tE (bS b q y) (bN b q y) (r0N b q y)) = gR b q y := rfl
    refine lv_aload_n hx hb dX1_reciprocalWhole_20 rfl (lv_at hl 1 rfl) ?_
    refine lv_iload_n hx hb dX1_reciprocalWhole_21 rfl (lv_at hl 0 rfl) ?_
    refine x_cI (va_runVN (As := [.int (zI (frr b q y))]) (rest := []) ⟨hx, hb, hml, hown, hts⟩ (c_X2_firstTied l G o b lim dif q y (by omega) (by omega) (frr b q y) (r0N b q y) (by omega) (by omega)) ⟨va_cnB 1 hts gX1_reciprocalWhole_X2_firstTied_n41 rfl rfl rfl (x_nestM hK nk_RX1_41) (hts (.initialized RX2) (by decide +kernel)) (by decide +kernel) ⟨Nat.le_of_ble_eq_true rfl, Nat.le_of_ble_eq_true rfl⟩, hts (.instanceMethod yX2_firstTied) (by decide +kernel), hts (.selects RX2 yX2_firstTied yX2_firstTied) (by decide +kernel)⟩ (x_preV hW hi hK (hW.r (q := q) (s := y) (by omega) (by omega)) (ci := 2) (q := (RX2, TX2, 3)) rfl) rfl rfl hl.1 rfl (lv_room (Nat.le_of_ble_eq_true rfl)) dX1_reciprocalWhole_22 ⟨Nat.le_of_ble_eq_true rfl, Nat.le_of_ble_eq_true rfl⟩) ?_
    refine lv_istore (lv' := [(4, .int (zI ((tS (bS b q y) (r0N b q y) : Int) + 1))), (3, .int (zI (frr b q y))), (2, .ref (o + 2 + 15 * q + 2 + 3 * y)), (0, .ref (o + 2 + 15 * q)), (1, .int (zI zy))]) hx hb dX1_reciprocalWhole_25 hl (by decide) rfl (fun ls hl => ?_)
    refine lv_aload_n hx hb dX1_reciprocalWhole_27 rfl (lv_at hl 2 rfl) ?_
    refine lv_iload_n hx hb dX1_reciprocalWhole_28 rfl (lv_at hl 1 rfl) ?_
    refine x_cI (va_runVN (As := [.int (zI (frr b q y))]) (rest := []) ⟨hx, hb, hml, hown, hts⟩ (c_X2_lastTied l G o b lim dif q y (by omega) (by omega) (frr b q y) (r0N b q y) (by omega) (by omega)) ⟨va_cnB 1 hts gX1_reciprocalWhole_X2_lastTied_n44 rfl rfl rfl (x_nestM hK nk_RX1_44) (hts (.initialized RX2) (by decide +kernel)) (by decide +kernel) ⟨Nat.le_of_ble_eq_true rfl, Nat.le_of_ble_eq_true rfl⟩, hts (.instanceMethod yX2_lastTied) (by decide +kernel), hts (.selects RX2 yX2_lastTied yX2_lastTied) (by decide +kernel)⟩ (x_preV hW hi hK (hW.r (q := q) (s := y) (by omega) (by omega)) (ci := 2) (q := (RX2, TX2, 3)) rfl) rfl rfl hl.1 rfl (lv_room (Nat.le_of_ble_eq_true rfl)) dX1_reciprocalWhole_29 ⟨Nat.le_of_ble_eq_true rfl, Nat.le_of_ble_eq_true rfl⟩) ?_
    refine lv_istore (lv' := [(5, .int (zI (tE (bS b q y) (bN b q y) (r0N b q y) : Int))), (4, .int (zI ((tS (bS b q y) (r0N b q y) : Int) + 1))), (3, .int (zI (frr b q y))), (2, .ref (o + 2 + 15 * q + 2 + 3 * y)), (0, .ref (o + 2 + 15 * q)), (1, .int (zI zy))]) hx hb dX1_reciprocalWhole_32 hl (by decide) rfl (fun ls hl => ?_)
    refine lv_ldc2 (v := lI 232792560) hx hb hown (by rw [show lI 232792560 = (232792560 : Int64) from by decide +kernel]; exact hts (.constantLong RX1 57 232792560) (by decide +kernel)) dX1_reciprocalWhole_34 ?_
    refine lv_iload hx hb dX1_reciprocalWhole_37 (lv_at hl 0 rfl) ?_
    refine lv_iload hx hb dX1_reciprocalWhole_39 (lv_at hl 1 rfl) ?_
    refine x_isub hx hb dX1_reciprocalWhole_41 ?_
    refine x_iconst hx hb dX1_reciprocalWhole_42 ?_
    refine x_iadd hx hb dX1_reciprocalWhole_43 ?_
    refine lv_aload_n hx hb dX1_reciprocalWhole_44 rfl (lv_at hl 4 rfl) ?_
    refine lv_aload_n hx hb dX1_reciprocalWhole_45 rfl (lv_at hl 3 rfl) ?_
    refine lv_iload hx hb dX1_reciprocalWhole_46 (lv_at hl 1 rfl) ?_
    refine lv_iload hx hb dX1_reciprocalWhole_48 (lv_at hl 0 rfl) ?_
    refine x_cI (va_runV (As := [.ref (o + 2 + 15 * q + 2 + 3 * y), .int (zI ((tS (bS b q y) (r0N b q y) : Int) + 1)), .int (zI (tE (bS b q y) (bN b q y) (r0N b q y) : Int))]) (rest := [.int (zI (((tE (bS b q y) (bN b q y) (r0N b q y) : Int) - ((tS (bS b q y) (r0N b q y) : Int) + 1)) + 1)), .long (lI 232792560)]) ⟨hx, hb, hml, hown, hts⟩ (c_X1_relevantWithin l G o b lim dif q (by omega) y (by omega) ((tS (bS b q y) (r0N b q y) : Int) + 1) (tE (bS b q y) (bN b q y) (r0N b q y) : Int) (tS (bS b q y) (r0N b q y)) (tE (bS b q y) (bN b q y) (r0N b q y)) (by omega) (by omega) (by omega) (by omega)) (cwV 3 hts gX1_reciprocalWhole_X1_relevantWithin rfl rfl rfl (by decide +kernel) ⟨Nat.le_of_ble_eq_true rfl, Nat.le_of_ble_eq_true rfl⟩) (x_preV hW hi hK (hW.q (q := q) (by omega)) (ci := 1) (q := (RX1, TX1, 2)) rfl) rfl rfl hl.1 rfl (lv_room (Nat.le_of_ble_eq_true rfl)) dX1_reciprocalWhole_50 ⟨Nat.le_of_ble_eq_true rfl, Nat.le_of_ble_eq_true rfl⟩) ?_
    refine x_cL (va_runSN (As := [.int (zI (((tE (bS b q y) (bN b q y) (r0N b q y) : Int) - ((tS (bS b q y) (r0N b q y) : Int) + 1)) + 1)), .int (zI (relN b q y (tS (bS b q y) (r0N b q y)) (tE (bS b q y) (bN b q y) (r0N b q y)) : Int))]) (rest := [.long (lI 232792560)]) ⟨hx, hb, hml, hown, hts⟩ (c_X3_subsets l (((tE (bS b q y) (bN b q y) (r0N b q y) : Int) - ((tS (bS b q y) (r0N b q y) : Int) + 1)) + 1) (relN b q y (tS (bS b q y) (r0N b q y)) (tE (bS b q y) (bN b q y) (r0N b q y)) : Int) (gE b q y - gA b q y - gR b q y) (gR b q y) (by omega) (by omega) (by omega)) ⟨va_cnB 2 hts gX1_reciprocalWhole_X3_subsets_n70 rfl rfl rfl (x_nestM hK nk_RX1_70) (hts (.initialized RX3) (by decide +kernel)) (by decide +kernel) ⟨Nat.le_of_ble_eq_true rfl, Nat.le_of_ble_eq_true rfl⟩, hts (.static yX3_subsets) (by decide +kernel), trivial⟩ x_preS rfl rfl hl.1 rfl (lv_room (Nat.le_of_ble_eq_true rfl)) dX1_reciprocalWhole_53 ⟨Nat.le_of_ble_eq_true rfl, Nat.le_of_ble_eq_true rfl⟩) ?_
    refine x_lmul hx hb dX1_reciprocalWhole_56 ?_
    exact x_retL hx hb hr (by rw [rwZ, if_pos hf9.1]) dX1_reciprocalWhole_57 hlocks
  · have hm1 := frr_m1 h2
    refine lv_lconst (v := lI 1) hx hb dX1_reciprocalWhole_18 (by decide +kernel) ?_
    exact x_retL hx hb hr (by rw [rwZ, if_neg (by omega)]) dX1_reciprocalWhole_19 hlocks
