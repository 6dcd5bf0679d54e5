/-! ===== the mean of the hits by groups ===== -/
def isSt (sc : Nat → Nat) (k : Nat) : Prop := k = 0 ∨ ¬ sc (k - 1) = sc k
theorem tS_ge {sc : Nat → Nat} {k : Nat} (h : isSt sc k) : ∀ i, k ≤ i → k ≤ tS sc i
  | 0, hk => by
    have : k = 0 := by omega
    omega
  | i + 1, hk => by
    unfold tS
    split
    · rename_i he
      by_cases e : k = i + 1
      · subst e
        rcases h with h | h
        · omega
        · rw [Nat.add_sub_cancel] at h; exact absurd he h
      · exact tS_ge h i (by omega)
    · exact hk
theorem tE_eqs {sc : Nat → Nat} {n k : Nat} (hk : k < n) : ∀ j, k ≤ j → j < tE sc n k → sc j = sc k
  | 0, h1, _ => by rw [show k = 0 from by omega]
  | j + 1, h1, h2 => by
    by_cases e : k = j + 1
    · rw [e]
    · have a := fst9_all (fun k => decide (¬ sc k = sc (k - 1))) (n - (k + 1)) (k + 1) (j + 1) (by omega) h2
      have c : sc (j + 1) = sc j := by
        have := of_decide_eq_false a
        rw [Nat.add_sub_cancel] at this
        exact Classical.not_not.mp this
      rw [c]
      exact tE_eqs hk j (by omega) (by omega)
theorem tE_st {sc : Nat → Nat} {n k : Nat} (hk : k < n) : tE sc n k = n ∨ isSt sc (tE sc n k) := by
  have r := tE_rng sc hk
  by_cases h : tE sc n k = n
  · exact Or.inl h
  · have a := fst9_at (fun k => decide (¬ sc k = sc (k - 1))) (n - (k + 1)) (k + 1) (by
      have : tE sc n k < n := by omega
      unfold tE at this
      omega)
    have c := of_decide_eq_true a
    exact Or.inr (Or.inr (fun x => c x.symm))
theorem grp_S {sc : Nat → Nat} {n k i : Nat} (hk : k < n) (h : isSt sc k) (h1 : k ≤ i) (h2 : i < tE sc n k) : tS sc i = k := by
  have hle := tS_ge h i h1
  induction i with
  | zero => have : k = 0 := by omega
            rw [this]; rfl
  | succ i ih =>
    by_cases e : k = i + 1
    · subst e
      rcases h with h | h
      · omega
      · exact tS_ne (by omega) h
    · have q : sc i = sc (i + 1) := by rw [tE_eqs (sc := sc) hk i (by omega) (by omega), tE_eqs (sc := sc) hk (i + 1) h1 h2]
      rw [tS, if_pos q]
      exact ih (by omega) (by omega) (tS_ge h i (by omega))
theorem grp_E {sc : Nat → Nat} {n k i : Nat} (hk : k < n) (h1 : k ≤ i) (h2 : i < tE sc n k) : tE sc n i = tE sc n k := by
  have r := tE_rng sc hk
  refine tE_at h2 r.2 (fun j a c => ?_) ?_
  · rw [tE_eqs (sc := sc) hk j (by omega) c, tE_eqs (sc := sc) hk (j - 1) (by omega) (by omega)]
  · rcases tE_st (sc := sc) hk with h | h
    · exact Or.inl h
    · rcases h with h | h
      · omega
      · exact Or.inr (fun x => h x.symm)
theorem sum9_cnt {g : Nat → Int} {P : Nat → Bool} {c : Int} {lo : Nat} : ∀ {n : Nat}, (∀ i, i < n → g (lo + i) = if P (lo + i) = true then c else 0) → sum9 g lo n = (cnt9 P lo n : Int) * c
  | 0, _ => by rw [show sum9 g lo 0 = 0 from rfl, show cnt9 P lo 0 = 0 from rfl]; simp
  | n + 1, h => by
    rw [sum9_s, sum9_cnt (n := n) (fun i hi => h i (by omega)), h n (by omega), cnt9]
    split
    · rw [Int.natCast_add, Int.add_mul]; simp
    · simp
theorem sum9_zero {g : Nat → Int} {lo : Nat} : ∀ {n : Nat}, (∀ i, i < n → g (lo + i) = 0) → sum9 g lo n = 0
  | 0, _ => rfl
  | n + 1, h => by rw [sum9_s, sum9_zero (n := n) (fun i hi => h i (by omega)), h n (by omega)]; rfl
/-- one group more -/
theorem mh_grp {b : XB} {q y k : Nat} {de : Int} (hk : k < bN b q y) (hs : isSt (bS b q y) k) (hd : (k : Int) < de) :
    sum9 (mhT b q y de) 0 k + (relN b q y k (tE (bS b q y) (bN b q y) k) : Int) * (min (tE (bS b q y) (bN b q y) k : Int) de - (k : Int)) * (232792560 / ((tE (bS b q y) (bN b q y) k : Int) - (k : Int))) = sum9 (mhT b q y de) 0 (tE (bS b q y) (bN b q y) k) := by
  have r := tE_rng (bS b q y) hk
  obtain ⟨e, he⟩ : ∃ e, e = tE (bS b q y) (bN b q y) k := ⟨_, rfl⟩
  have hg : sum9 (mhT b q y de) k (e - k) = (cnt9 (relP b q y) k (e - k) : Int) * (232792560 / ((e : Int) - (k : Int)) * (min (e : Int) de - (k : Int))) := by
    refine sum9_cnt (fun i hi => ?_)
    have h1 := grp_S hk hs (i := k + i) (by omega) (by omega)
    have h2 := grp_E (sc := bS b q y) hk (i := k + i) (by omega) (by omega)
    have hp : hpZ ((k : Int) + 1) (e : Int) de = 232792560 / ((e : Int) - (k : Int)) * (min (e : Int) de - (k : Int)) := by
      rw [hpZ, if_neg (by omega), show (e : Int) - ((k : Int) + 1) + 1 = (e : Int) - (k : Int) from by omega, show min (e : Int) de - ((k : Int) + 1) + 1 = min (e : Int) de - (k : Int) from by omega]
    rw [mhT, h1, h2, ← he, hp]
  have hc : relN b q y k e = cnt9 (relP b q y) k (e - k) := by rw [relN, Nat.min_eq_left (by omega)]
  have ha := sum9_app (mhT b q y de) 0 k (e - k)
  rw [show k + (e - k) = e from by omega, Nat.zero_add] at ha
  rw [← he, hc, ha, hg, Int.mul_assoc, Int.mul_comm (min (e : Int) de - (k : Int))]
theorem mh_end {b : XB} {q y k : Nat} {de : Int} (hk : k ≤ bN b q y) (hs : isSt (bS b q y) k) (hd : de ≤ (k : Int)) : sum9 (mhT b q y de) 0 k = mhZ b q y de := by
  have ha := sum9_app (mhT b q y de) 0 k (bN b q y - k)
  rw [show k + (bN b q y - k) = bN b q y from by omega, Nat.zero_add] at ha
  have h0 : sum9 (mhT b q y de) k (bN b q y - k) = 0 := sum9_zero (fun i hi => by
    have h1 := tS_ge hs (k + i) (by omega)
    unfold mhT
    split
    · rw [hpZ, if_pos (by omega)]
    · rfl)
  rw [mhZ, ha, h0, Int.add_zero]
/-- a number of hits is at most the group -/
theorem mh_rng {x s z : Int} (hx : 0 ≤ x ∧ x ≤ 20) (hs : 0 ≤ s ∧ s ≤ 20) : 0 ≤ x * s ∧ x * s ≤ 20 * 20 := ⟨Int.mul_nonneg hx.1 hs.1, Int.mul_le_mul hx.2 hs.2 hs.1 (by omega)⟩
set_option maxHeartbeats 4000000 in
set_option maxRecDepth 100000 in
theorem c_X4_meanHits (l : Launch) (G : XG) (o : Nat) (b : XB) (th ov un : Int) (q y : Nat) (hq : q < 8) (hy : y < 4) (zr : Int) (hzr : zr = 8 * (y : Int) + (q : Int)) (zd : Int) (hzd : 1 ≤ zd ∧ zd ≤ 20) : MetL l yX4_meanHits wsX4_meanHits (rmF 1 25) (MPc G o b th ov un [.ref o, .int (zI zr), .int (zI zd)]) (mhZ b q y zd) := by
  refine Met.ofW (cc := cX4_meanHits) (maxL := 8) (ret := (some .long)) (by decide) rfl ?_
  intro p e s m args below meth c s₁ B hml hv
  obtain ⟨rfl, hW, hi, hK⟩ := hv
  have hx := B.exec
  have hb := B.bytes
  have hr := B.returns
  have hts := atoms_spec (ws := wsX4_meanHits) B.pre
  have hown : s.vm.findClass RX4 = some m.cls := findClass_of_methodNamed B.named
  have hlocks := B.notSynchronized
  have hl := lv_entry ([.ref o, .int (zI zr), .int (zI zd)]) (n := 8) (Nat.le_of_ble_eq_true rfl)
  rw [lg_entry_eq]
  generalize (lg_sl ([.ref o, .int (zI zr), .int (zI zd)]) ++ List.replicate (8 - (lg_sl ([.ref o, .int (zI zr), .int (zI zd)])).length) Slot.unset).toArray = ls at hl ⊢
  have hl : lv_has ls 8 [(0, .ref o), (1, .int (zI zr)), (2, .int (zI zd))] := hl
  have hn20 := hi.n q y
  refine lv_lconst (v := lI 0) hx hb dX4_meanHits_0 (by decide +kernel) ?_
  refine lv_lstore_n (lv' := [(3, .long (lI 0)), (0, .ref o), (1, .int (zI zr)), (2, .int (zI zd))]) hx hb dX4_meanHits_1 rfl hl (by decide) rfl (fun ls hl => ?_)
  refine x_iconst hx hb dX4_meanHits_2 ?_
  refine lv_istore (lv' := [(5, .int (zI 0)), (3, .long (lI 0)), (0, .ref o), (1, .int (zI zr)), (2, .int (zI zd))]) hx hb dX4_meanHits_3 hl (by decide) rfl (fun ls hl => ?_)
  refine x_loop1 (fun (k : Nat) => (k ≤ bN b q y) ∧ (k = bN b q y ∨ isSt (bS b q y) k)) (fun (k : Nat) => bN b q y - k) (fun (k : Nat) => [(5, .int (zI (k : Int))), (3, .long (lI (sum9 (mhT b q y zd) 0 k))), (0, .ref o), (1, .int (zI zr)), (2, .int (zI zd))]) (0) (show ((0) ≤ bN b q y) ∧ ((0) = bN b q y ∨ isSt (bS b q y) (0)) from ⟨(Nat.zero_le _), (Or.inr (Or.inl rfl))⟩) (show lv_has ls 8 [(5, .int (zI ((0) : Int))), (3, .long (lI (sum9 (mhT b q y zd) 0 (0)))), (0, .ref o), (1, .int (zI zr)), (2, .int (zI zd))] from (lv_cons (x_at (lv_at hl 0 rfl) (by omega)) (lv_cons (x_atL (lv_at hl 1 rfl) (rfl)) (lv_cons (lv_at hl 2 rfl) (lv_cons (lv_at hl 3 rfl) (lv_cons (lv_at hl 4 rfl) (lv_nil hl))))))) (fun k ls hI5 hl ih5 => ?_)
  obtain ⟨hk, hs⟩ : (k ≤ bN b q y) ∧ (k = bN b q y ∨ isSt (bS b q y) k) := hI5
  have hl : lv_has ls 8 [(5, .int (zI (k : Int))), (3, .long (lI (sum9 (mhT b q y zd) 0 k))), (0, .ref o), (1, .int (zI zr)), (2, .int (zI zd))] := hl
  refine lv_iload hx hb dX4_meanHits_5 (lv_at hl 0 rfl) ?_
  refine lv_aload_n hx hb dX4_meanHits_7 rfl (lv_at hl 2 rfl) ?_
  refine x_get (ci := 4) (C := RX4) (T := TX4) (N := 10) (own := RX4) (index := 7) (v := .ref (o + 1)) hx hb hts (by decide +kernel) hown hK hW.ob rfl 0 (by decide) (by decide +kernel) rfl rfl dX4_meanHits_8 ?_
  refine lv_iload_n hx hb dX4_meanHits_11 rfl (lv_at hl 3 rfl) ?_
  refine x_iald hx hb hK hW.le (8 * y + q) (by omega) (by omega) (by decide) dX4_meanHits_12 ?_
  have hv1 := mN_at b (q := q) (y := y) (by omega)
  refine x_icmp_ge (tgt := 83) hx hb dX4_meanHits_13 (by decide) (by omega) (fun h2 => ?_) (fun h3 => ?_)
  · refine lv_lload_n hx hb dX4_meanHits_83 rfl (lv_at hl 1 rfl) ?_
    exact x_retL hx hb hr (by first | (rw [show k = bN b q y from by omega]; rfl) | exact mh_end (by omega) (hs.resolve_left (by omega)) (by omega)) dX4_meanHits_84 hlocks
  · refine lv_iload hx hb dX4_meanHits_16 (lv_at hl 0 rfl) ?_
    refine lv_iload_n hx hb dX4_meanHits_18 rfl (lv_at hl 4 rfl) ?_
    refine x_icmp_ge (tgt := 83) hx hb dX4_meanHits_19 (by decide) (by omega) (fun h4 => ?_) (fun h5 => ?_)
    · refine lv_lload_n hx hb dX4_meanHits_83 rfl (lv_at hl 1 rfl) ?_
      exact x_retL hx hb hr (by first | (rw [show k = bN b q y from by omega]; rfl) | exact mh_end (by omega) (hs.resolve_left (by omega)) (by omega)) dX4_meanHits_84 hlocks
    · refine lv_aload_n hx hb dX4_meanHits_22 rfl (lv_at hl 2 rfl) ?_
      refine lv_iload_n hx hb dX4_meanHits_23 rfl (lv_at hl 3 rfl) ?_
      refine lv_iload hx hb dX4_meanHits_24 (lv_at hl 0 rfl) ?_
      refine x_cI (va_runV (As := [.int (zI zr), .int (zI (k : Int))]) (rest := []) ⟨hx, hb, hml, hown, hts⟩ (c_X4_tieEnd l G o b th ov un q y (by omega) (by omega) zr (by omega) (k : Int) (k) (by omega) (by omega)) (cwV 2 hts gX4_meanHits_X4_tieEnd rfl rfl rfl (by decide +kernel) ⟨Nat.le_of_ble_eq_true rfl, Nat.le_of_ble_eq_true rfl⟩) (x_preM hW hi hK) rfl rfl hl.1 rfl (lv_room (Nat.le_of_ble_eq_true rfl)) dX4_meanHits_26 ⟨Nat.le_of_ble_eq_true rfl, Nat.le_of_ble_eq_true rfl⟩) ?_
      have hte9 := tE_rng (bS b q y) (n := bN b q y) (i := k) (by omega)
      have hrl9 := relN_le b q y k (tE (bS b q y) (bN b q y) (k))
      refine lv_istore (lv' := [(6, .int (zI (tE (bS b q y) (bN b q y) (k) : Int))), (5, .int (zI (k : Int))), (3, .long (lI (sum9 (mhT b q y zd) 0 k))), (0, .ref o), (1, .int (zI zr)), (2, .int (zI zd))]) hx hb dX4_meanHits_29 hl (by decide) rfl (fun ls hl => ?_)
      refine lv_iload hx hb dX4_meanHits_31 (lv_at hl 0 rfl) ?_
      refine lv_iload_n hx hb dX4_meanHits_33 rfl (lv_at hl 5 rfl) ?_
      refine x_icmp_ge (tgt := 42) hx hb dX4_meanHits_34 (by decide) (by omega) (fun h6 => ?_) (fun h7 => ?_)
      · refine lv_iload_n hx hb dX4_meanHits_42 rfl (lv_at hl 5 rfl) ?_
        refine lv_iload hx hb dX4_meanHits_43 (lv_at hl 1 rfl) ?_
        refine x_isub hx hb dX4_meanHits_45 ?_
        refine lv_istore (lv' := [(7, .int (zI (zd - (k : Int)))), (6, .int (zI (tE (bS b q y) (bN b q y) (k) : Int))), (5, .int (zI (k : Int))), (3, .long (lI (sum9 (mhT b q y zd) 0 k))), (0, .ref o), (1, .int (zI zr)), (2, .int (zI zd))]) hx hb dX4_meanHits_46 hl (by decide) rfl (fun ls hl => ?_)
        refine lv_lload_n hx hb dX4_meanHits_48 rfl (lv_at hl 3 rfl) ?_
        refine lv_aload_n hx hb dX4_meanHits_49 rfl (lv_at hl 4 rfl) ?_
        refine lv_iload_n hx hb dX4_meanHits_50 rfl (lv_at hl 5 rfl) ?_
        refine lv_iload hx hb dX4_meanHits_51 (lv_at hl 2 rfl) ?_
        refine lv_iload hx hb dX4_meanHits_53 (lv_at hl 1 rfl) ?_
        refine x_cI (va_runV (As := [.int (zI zr), .int (zI (k : Int)), .int (zI (tE (bS b q y) (bN b q y) (k) : Int))]) (rest := [.long (lI (sum9 (mhT b q y zd) 0 k))]) ⟨hx, hb, hml, hown, hts⟩ (c_X4_relevantAmong l G o b th ov un q y (by omega) (by omega) zr (by omega) (k : Int) (tE (bS b q y) (bN b q y) (k) : Int) (k) (tE (bS b q y) (bN b q y) (k)) (by omega) (by omega) (by omega) (by omega)) (cwV 3 hts gX4_meanHits_X4_relevantAmong rfl rfl rfl (by decide +kernel) ⟨Nat.le_of_ble_eq_true rfl, Nat.le_of_ble_eq_true rfl⟩) (x_preM hW hi hK) rfl rfl hl.1 rfl (lv_room (Nat.le_of_ble_eq_true rfl)) dX4_meanHits_55 ⟨Nat.le_of_ble_eq_true rfl, Nat.le_of_ble_eq_true rfl⟩) ?_
        refine x_i2l hx hb (by omega) dX4_meanHits_58 ?_
        refine lv_iload hx hb dX4_meanHits_59 (lv_at hl 0 rfl) ?_
        refine x_i2l hx hb (by omega) dX4_meanHits_61 ?_
        refine x_lmul hx hb dX4_meanHits_62 ?_
        refine lv_ldc2 (v := lI 232792560) hx hb hown (by rw [show lI 232792560 = (232792560 : Int64) from by decide +kernel]; exact hts (.constantLong RX4 64 232792560) (by decide +kernel)) dX4_meanHits_63 ?_
        refine lv_iload hx hb dX4_meanHits_66 (lv_at hl 1 rfl) ?_
        refine lv_iload hx hb dX4_meanHits_68 (lv_at hl 2 rfl) ?_
        refine x_isub hx hb dX4_meanHits_70 ?_
        refine x_i2l hx hb (by omega) dX4_meanHits_71 ?_
        refine x_ldiv hx hb (by omega) (by omega) dX4_meanHits_72 ?_
        refine x_lmul hx hb dX4_meanHits_73 ?_
        refine x_ladd hx hb dX4_meanHits_74 ?_
        refine lv_lstore_n (lv' := [(3, .long (lI ((sum9 (mhT b q y zd) 0 k) + (((relN b q y (k) (tE (bS b q y) (bN b q y) (k)) : Int) * (zd - (k : Int))) * (232792560 / ((tE (bS b q y) (bN b q y) (k) : Int) - (k : Int))))))), (7, .int (zI (zd - (k : Int)))), (6, .int (zI (tE (bS b q y) (bN b q y) (k) : Int))), (5, .int (zI (k : Int))), (0, .ref o), (1, .int (zI zr)), (2, .int (zI zd))]) hx hb dX4_meanHits_75 rfl hl (by decide) rfl (fun ls hl => ?_)
        refine lv_iload hx hb dX4_meanHits_76 (lv_at hl 2 rfl) ?_
        refine lv_istore (lv' := [(5, .int (zI (tE (bS b q y) (bN b q y) (k) : Int))), (3, .long (lI ((sum9 (mhT b q y zd) 0 k) + (((relN b q y (k) (tE (bS b q y) (bN b q y) (k)) : Int) * (zd - (k : Int))) * (232792560 / ((tE (bS b q y) (bN b q y) (k) : Int) - (k : Int))))))), (7, .int (zI (zd - (k : Int)))), (6, .int (zI (tE (bS b q y) (bN b q y) (k) : Int))), (0, .ref o), (1, .int (zI zr)), (2, .int (zI zd))]) hx hb dX4_meanHits_78 hl (by decide) rfl (fun ls hl => ?_)
        refine lv_goto (tgt := 5) hx hb dX4_meanHits_80 (by decide) ?_
        exact ih5 (tE (bS b q y) (bN b q y) (k)) ls (show ((tE (bS b q y) (bN b q y) (k)) ≤ bN b q y) ∧ ((tE (bS b q y) (bN b q y) (k)) = bN b q y ∨ isSt (bS b q y) (tE (bS b q y) (bN b q y) (k))) from ⟨(by omega), (tE_st (by omega))⟩) (show bN b q y - (tE (bS b q y) (bN b q y) (k)) < bN b q y - k from (by omega)) (lv_cons (lv_at hl 0 rfl) (lv_cons (x_atL (lv_at hl 1 rfl) (by have hg9 := mh_grp (b := b) (q := q) (y := y) (k := k) (de := zd) (by omega) (hs.resolve_left (by omega)) (by omega); first | (rw [show min (tE (bS b q y) (bN b q y) (k) : Int) zd = (tE (bS b q y) (bN b q y) (k) : Int) from by omega] at hg9; exact hg9) | (rw [show min (tE (bS b q y) (bN b q y) (k) : Int) zd = zd from by omega] at hg9; exact hg9))) (lv_cons (lv_at hl 4 rfl) (lv_cons (lv_at hl 5 rfl) (lv_cons (lv_at hl 6 rfl) (lv_nil hl))))))
      · refine lv_iload hx hb dX4_meanHits_37 (lv_at hl 0 rfl) ?_
        refine lv_goto (tgt := 43) hx hb dX4_meanHits_39 (by decide) ?_
        refine lv_iload hx hb dX4_meanHits_43 (lv_at hl 1 rfl) ?_
        refine x_isub hx hb dX4_meanHits_45 ?_
        refine lv_istore (lv' := [(7, .int (zI ((tE (bS b q y) (bN b q y) (k) : Int) - (k : Int)))), (6, .int (zI (tE (bS b q y) (bN b q y) (k) : Int))), (5, .int (zI (k : Int))), (3, .long (lI (sum9 (mhT b q y zd) 0 k))), (0, .ref o), (1, .int (zI zr)), (2, .int (zI zd))]) hx hb dX4_meanHits_46 hl (by decide) rfl (fun ls hl => ?_)
        refine lv_lload_n hx hb dX4_meanHits_48 rfl (lv_at hl 3 rfl) ?_
        refine lv_aload_n hx hb dX4_meanHits_49 rfl (lv_at hl 4 rfl) ?_
        refine lv_iload_n hx hb dX4_meanHits_50 rfl (lv_at hl 5 rfl) ?_
        refine lv_iload hx hb dX4_meanHits_51 (lv_at hl 2 rfl) ?_
        refine lv_iload hx hb dX4_meanHits_53 (lv_at hl 1 rfl) ?_
        refine x_cI (va_runV (As := [.int (zI zr), .int (zI (k : Int)), .int (zI (tE (bS b q y) (bN b q y) (k) : Int))]) (rest := [.long (lI (sum9 (mhT b q y zd) 0 k))]) ⟨hx, hb, hml, hown, hts⟩ (c_X4_relevantAmong l G o b th ov un q y (by omega) (by omega) zr (by omega) (k : Int) (tE (bS b q y) (bN b q y) (k) : Int) (k) (tE (bS b q y) (bN b q y) (k)) (by omega) (by omega) (by omega) (by omega)) (cwV 3 hts gX4_meanHits_X4_relevantAmong rfl rfl rfl (by decide +kernel) ⟨Nat.le_of_ble_eq_true rfl, Nat.le_of_ble_eq_true rfl⟩) (x_preM hW hi hK) rfl rfl hl.1 rfl (lv_room (Nat.le_of_ble_eq_true rfl)) dX4_meanHits_55 ⟨Nat.le_of_ble_eq_true rfl, Nat.le_of_ble_eq_true rfl⟩) ?_
        refine x_i2l hx hb (by omega) dX4_meanHits_58 ?_
        refine lv_iload hx hb dX4_meanHits_59 (lv_at hl 0 rfl) ?_
        refine x_i2l hx hb (by omega) dX4_meanHits_61 ?_
        refine x_lmul hx hb dX4_meanHits_62 ?_
        refine lv_ldc2 (v := lI 232792560) hx hb hown (by rw [show lI 232792560 = (232792560 : Int64) from by decide +kernel]; exact hts (.constantLong RX4 64 232792560) (by decide +kernel)) dX4_meanHits_63 ?_
        refine lv_iload hx hb dX4_meanHits_66 (lv_at hl 1 rfl) ?_
        refine lv_iload hx hb dX4_meanHits_68 (lv_at hl 2 rfl) ?_
        refine x_isub hx hb dX4_meanHits_70 ?_
        refine x_i2l hx hb (by omega) dX4_meanHits_71 ?_
        refine x_ldiv hx hb (by omega) (by omega) dX4_meanHits_72 ?_
        refine x_lmul hx hb dX4_meanHits_73 ?_
        refine x_ladd hx hb dX4_meanHits_74 ?_
        refine lv_lstore_n (lv' := [(3, .long (lI ((sum9 (mhT b q y zd) 0 k) + (((relN b q y (k) (tE (bS b q y) (bN b q y) (k)) : Int) * ((tE (bS b q y) (bN b q y) (k) : Int) - (k : Int))) * (232792560 / ((tE (bS b q y) (bN b q y) (k) : Int) - (k : Int))))))), (7, .int (zI ((tE (bS b q y) (bN b q y) (k) : Int) - (k : Int)))), (6, .int (zI (tE (bS b q y) (bN b q y) (k) : Int))), (5, .int (zI (k : Int))), (0, .ref o), (1, .int (zI zr)), (2, .int (zI zd))]) hx hb dX4_meanHits_75 rfl hl (by decide) rfl (fun ls hl => ?_)
        refine lv_iload hx hb dX4_meanHits_76 (lv_at hl 2 rfl) ?_
        refine lv_istore (lv' := [(5, .int (zI (tE (bS b q y) (bN b q y) (k) : Int))), (3, .long (lI ((sum9 (mhT b q y zd) 0 k) + (((relN b q y (k) (tE (bS b q y) (bN b q y) (k)) : Int) * ((tE (bS b q y) (bN b q y) (k) : Int) - (k : Int))) * (232792560 / ((tE (bS b q y) (bN b q y) (k) : Int) - (k : Int))))))), (7, .int (zI ((tE (bS b q y) (bN b q y) (k) : Int) - (k : Int)))), (6, .int (zI (tE (bS b q y) (bN b q y) (k) : Int))), (0, .ref o), (1, .int (zI zr)), (2, .int (zI zd))]) hx hb dX4_meanHits_78 hl (by decide) rfl (fun ls hl => ?_)
        refine lv_goto (tgt := 5) hx hb dX4_meanHits_80 (by decide) ?_
        exact ih5 (tE (bS b q y) (bN b q y) (k)) ls (show ((tE (bS b q y) (bN b q y) (k)) ≤ bN b q y) ∧ ((tE (bS b q y) (bN b q y) (k)) = bN b q y ∨ isSt (bS b q y) (tE (bS b q y) (bN b q y) (k))) from ⟨(by omega), (tE_st (by omega))⟩) (show bN b q y - (tE (bS b q y) (bN b q y) (k)) < bN b q y - k from (by omega)) (lv_cons (lv_at hl 0 rfl) (lv_cons (x_atL (lv_at hl 1 rfl) (by have hg9 := mh_grp (b := b) (q := q) (y := y) (k := k) (de := zd) (by omega) (hs.resolve_left (by omega)) (by omega); first | (rw [show min (tE (bS b q y) (bN b q y) (k) : Int) zd = (tE (bS b q y) (bN b q y) (k) : Int) from by omega] at hg9; exact hg9) | (rw [show min (tE (bS b q y) (bN b q y) (k) : Int) zd = zd from by omega] at hg9; exact hg9))) (lv_cons (lv_at hl 4 rfl) (lv_cons (lv_at hl 5 rfl) (lv_cons (lv_at hl 6 rfl) (lv_nil hl))))))
set_option maxHeartbeats 4000000 in
set_option maxRecDepth 100000 in
theorem c_X4_allHits (l : Launch) (G : XG) (o : Nat) (b : XB) (th ov un : Int) (y : Nat) (hy : y < 4) (zy zd : Int) (hzy : zy = (y : Int)) (hzd : 1 ≤ zd ∧ zd ≤ 20) : MetL l yX4_allHits wsX4_allHits (rmF 2 52) (MPc G o b th ov un [.ref o, .int (zI zy), .int (zI zd)]) (shP b y zd) := by
  refine Met.ofW (cc := cX4_allHits) (maxL := 6) (ret := (some .long)) (by decide) rfl ?_
  intro p e s m args below meth c s₁ B hml hv
  obtain ⟨rfl, hW, hi, hK⟩ := hv
  have hx := B.exec
  have hb := B.bytes
  have hr := B.returns
  have hts := atoms_spec (ws := wsX4_allHits) B.pre
  have hown : s.vm.findClass RX4 = some m.cls := findClass_of_methodNamed B.named
  have hlocks := B.notSynchronized
  have hl := lv_entry ([.ref o, .int (zI zy), .int (zI zd)]) (n := 6) (Nat.le_of_ble_eq_true rfl)
  rw [lg_entry_eq]
  generalize (lg_sl ([.ref o, .int (zI zy), .int (zI zd)]) ++ List.replicate (6 - (lg_sl ([.ref o, .int (zI zy), .int (zI zd)])).length) Slot.unset).toArray = ls at hl ⊢
  have hl : lv_has ls 6 [(0, .ref o), (1, .int (zI zy)), (2, .int (zI zd))] := hl
  refine lv_lconst (v := lI 0) hx hb dX4_allHits_0 (by decide +kernel) ?_
  refine lv_lstore_n (lv' := [(3, .long (lI 0)), (0, .ref o), (1, .int (zI zy)), (2, .int (zI zd))]) hx hb dX4_allHits_1 rfl hl (by decide) rfl (fun ls hl => ?_)
  refine x_iconst hx hb dX4_allHits_2 ?_
  refine lv_istore (lv' := [(5, .int (zI 0)), (3, .long (lI 0)), (0, .ref o), (1, .int (zI zy)), (2, .int (zI zd))]) hx hb dX4_allHits_3 hl (by decide) rfl (fun ls hl => ?_)
  refine x_loop1 (fun (k : Nat) => (k ≤ 8)) (fun (k : Nat) => 8 - k) (fun (k : Nat) => [(5, .int (zI (k : Int))), (3, .long (lI (sum9 (fun q => mhZ b q y zd) 0 k))), (0, .ref o), (1, .int (zI zy)), (2, .int (zI zd))]) (0) (show ((0) ≤ 8) from (Nat.zero_le _)) (show lv_has ls 6 [(5, .int (zI ((0) : Int))), (3, .long (lI (sum9 (fun q => mhZ b q y zd) 0 (0)))), (0, .ref o), (1, .int (zI zy)), (2, .int (zI zd))] from (lv_cons (x_at (lv_at hl 0 rfl) (by omega)) (lv_cons (x_atL (lv_at hl 1 rfl) (rfl)) (lv_cons (lv_at hl 2 rfl) (lv_cons (lv_at hl 3 rfl) (lv_cons (lv_at hl 4 rfl) (lv_nil hl))))))) (fun k ls hI5 hl ih5 => ?_)
  have hk : k ≤ 8 := hI5
  have hl : lv_has ls 6 [(5, .int (zI (k : Int))), (3, .long (lI (sum9 (fun q => mhZ b q y zd) 0 k))), (0, .ref o), (1, .int (zI zy)), (2, .int (zI zd))] := hl
  refine lv_iload hx hb dX4_allHits_5 (lv_at hl 0 rfl) ?_
  refine lv_bipush (v := zI 8) hx hb dX4_allHits_7 (by decide +kernel) ?_
  refine x_icmp_ge (tgt := 33) hx hb dX4_allHits_9 (by decide) (by omega) (fun h1 => ?_) (fun h2 => ?_)
  · refine lv_lload_n hx hb dX4_allHits_33 rfl (lv_at hl 1 rfl) ?_
    exact x_retL hx hb hr (by rw [show k = 8 from by omega]; rfl) dX4_allHits_34 hlocks
  · refine lv_lload_n hx hb dX4_allHits_12 rfl (lv_at hl 1 rfl) ?_
    refine lv_aload_n hx hb dX4_allHits_13 rfl (lv_at hl 2 rfl) ?_
    refine lv_bipush (v := zI 8) hx hb dX4_allHits_14 (by decide +kernel) ?_
    refine lv_iload_n hx hb dX4_allHits_16 rfl (lv_at hl 3 rfl) ?_
    refine x_imul hx hb dX4_allHits_17 ?_
    refine lv_iload hx hb dX4_allHits_18 (lv_at hl 0 rfl) ?_
    refine x_iadd hx hb dX4_allHits_20 ?_
    refine lv_iload_n hx hb dX4_allHits_21 rfl (lv_at hl 4 rfl) ?_
    refine x_cL (va_runV (As := [.int (zI ((8 * zy) + (k : Int))), .int (zI zd)]) (rest := [.long (lI (sum9 (fun q => mhZ b q y zd) 0 k))]) ⟨hx, hb, hml, hown, hts⟩ (c_X4_meanHits l G o b th ov un k y (by omega) (by omega) ((8 * zy) + (k : Int)) (by omega) zd (by omega)) (cwV 2 hts gX4_allHits_X4_meanHits rfl rfl rfl (by decide +kernel) ⟨Nat.le_of_ble_eq_true rfl, Nat.le_of_ble_eq_true rfl⟩) (x_preM hW hi hK) rfl rfl hl.1 rfl (lv_room (Nat.le_of_ble_eq_true rfl)) dX4_allHits_22 ⟨Nat.le_of_ble_eq_true rfl, Nat.le_of_ble_eq_true rfl⟩) ?_
    refine x_ladd hx hb dX4_allHits_25 ?_
    refine lv_lstore_n (lv' := [(3, .long (lI ((sum9 (fun q => mhZ b q y zd) 0 k) + (mhZ b k y zd)))), (5, .int (zI (k : Int))), (0, .ref o), (1, .int (zI zy)), (2, .int (zI zd))]) hx hb dX4_allHits_26 rfl hl (by decide) rfl (fun ls hl => ?_)
    refine x_iinc (lv' := [(5, .int (zI ((k : Int) + 1))), (3, .long (lI ((sum9 (fun q => mhZ b q y zd) 0 k) + (mhZ b k y zd)))), (0, .ref o), (1, .int (zI zy)), (2, .int (zI zd))]) (k := 1) hx hb dX4_allHits_27 hl rfl (by decide) rfl (fun ls hl => ?_)
    refine lv_goto (tgt := 5) hx hb dX4_allHits_30 (by decide) ?_
    exact ih5 (k + 1) ls (show ((k + 1) ≤ 8) from (by omega)) (show 8 - (k + 1) < 8 - k from (by omega)) (lv_cons (x_at (lv_at hl 0 rfl) (by omega)) (lv_cons (x_atL (lv_at hl 1 rfl) (by rw [sum9_s, Nat.zero_add])) (lv_cons (lv_at hl 2 rfl) (lv_cons (lv_at hl 3 rfl) (lv_cons (lv_at hl 4 rfl) (lv_nil hl))))))
theorem redN_eq {a b x : Nat} {o : Int} (ho : o = (a : Int)) (hx : x = Nat.gcd a b) : o / (x : Int) = (redN a b : Int) := by rw [ho, hx, redN, Int.natCast_ediv]
theorem redN_eq2 {a b x : Nat} {u : Int} (hu : u = (b : Int)) (hx : x = Nat.gcd a b) : u / (x : Int) = (redN b a : Int) := by rw [hu, hx, redN, Nat.gcd_comm, Int.natCast_ediv]
set_option maxHeartbeats 4000000 in
set_option maxRecDepth 100000 in
theorem c_X4_lowers (l : Launch) (G : XG) (o : Nat) (b : XB) (th ov un : Int) (na nb : Nat) (hov : ov = (na : Int)) (hun : un = (nb : Int)) (hna : na < 9223372036854775808) (hnb : nb < 9223372036854775808) (hab : 0 < na ∨ 0 < nb) : MetWV l yX4_lowers wsX4_lowers (rmF 0 0) (MPc G o b th ov un [.ref o]) (fun H => MW G o b th (redN na nb : Int) (redN nb na : Int) H) (mA o) := by
  refine Met.ofW (cc := cX4_lowers) (maxL := 7) (ret := none) (by decide) rfl ?_
  intro p e s m args below meth c s₁ B hml hv
  obtain ⟨rfl, hW, hi, hK⟩ := hv
  have hx := B.exec
  have hb := B.bytes
  have hr := B.returns
  have hts := atoms_spec (ws := wsX4_lowers) B.pre
  have hown : s.vm.findClass RX4 = some m.cls := findClass_of_methodNamed B.named
  have hlocks := B.notSynchronized
  have hl := lv_entry ([.ref o]) (n := 7) (Nat.le_of_ble_eq_true rfl)
  rw [lg_entry_eq]
  generalize (lg_sl ([.ref o]) ++ List.replicate (7 - (lg_sl ([.ref o])).length) Slot.unset).toArray = ls at hl ⊢
  have hl : lv_has ls 7 [(0, .ref o)] := hl
  have hS : va_S (mA o) s.heap s.heap [] := va_S.rf
  refine lv_aload_n hx hb dX4_lowers_0 rfl (lv_at hl 0 rfl) ?_
  refine x_get (ci := 4) (C := RX4) (T := TX4) (N := 10) (own := RX4) (index := 66) (v := .long (lI ov)) hx hb hts (by decide +kernel) hown hK hW.ob rfl 7 (by decide) (by decide +kernel) rfl rfl dX4_lowers_1 ?_
  refine lv_lstore_n (lv' := [(1, .long (lI ov)), (0, .ref o)]) hx hb dX4_lowers_4 rfl hl (by decide) rfl (fun ls hl => ?_)
  refine lv_aload_n hx hb dX4_lowers_5 rfl (lv_at hl 1 rfl) ?_
  refine x_get (ci := 4) (C := RX4) (T := TX4) (N := 10) (own := RX4) (index := 70) (v := .long (lI un)) hx hb hts (by decide +kernel) hown hK hW.ob rfl 8 (by decide) (by decide +kernel) rfl rfl dX4_lowers_6 ?_
  refine lv_lstore_n (lv' := [(3, .long (lI un)), (1, .long (lI ov)), (0, .ref o)]) hx hb dX4_lowers_9 rfl hl (by decide) rfl (fun ls hl => ?_)
  refine x_loop2 (fun (x : Nat) (y : Nat) => (x < 9223372036854775808) ∧ (y < 9223372036854775808) ∧ (Nat.gcd x y = Nat.gcd na nb)) (fun (x : Nat) (y : Nat) => y) (fun (x : Nat) (y : Nat) => [(3, .long (lI (y : Int))), (1, .long (lI (x : Int))), (0, .ref o)]) (na) (nb) (show ((na) < 9223372036854775808) ∧ ((nb) < 9223372036854775808) ∧ (Nat.gcd (na) (nb) = Nat.gcd na nb) from ⟨(hna), (hnb), (rfl)⟩) (show lv_has ls 7 [(3, .long (lI ((nb) : Int))), (1, .long (lI ((na) : Int))), (0, .ref o)] from (lv_cons (x_atL (lv_at hl 0 rfl) (by omega)) (lv_cons (x_atL (lv_at hl 1 rfl) (by omega)) (lv_cons (lv_at hl 2 rfl) (lv_nil hl))))) (fun x y ls hI10 hl ih10 => ?_)
  obtain ⟨hx1, hy1, hg⟩ : (x < 9223372036854775808) ∧ (y < 9223372036854775808) ∧ (Nat.gcd x y = Nat.gcd na nb) := hI10
  have hl : lv_has ls 7 [(3, .long (lI (y : Int))), (1, .long (lI (x : Int))), (0, .ref o)] := hl
  refine lv_lload_n hx hb dX4_lowers_10 rfl (lv_at hl 0 rfl) ?_
  refine lv_lconst (v := lI 0) hx hb dX4_lowers_11 (by decide +kernel) ?_
  refine x_lcmp hx hb (by omega) dX4_lowers_12 ?_
  refine x_if_eq (tgt := 29) hx hb dX4_lowers_13 (by decide) (x_cw _ _) (fun h1 => ?_) (fun h2 => ?_)
  · have h0y : y = 0 := by have h9 := (cmpZ_eq _ _).mp h1; omega
    have hxg : x = Nat.gcd na nb := by rw [← hg, h0y, Nat.gcd_zero_right]
    have hg0 : 0 < Nat.gcd na nb := Nat.gcd_pos_iff.mpr hab
    refine lv_aload_n hx hb dX4_lowers_29 rfl (lv_at hl 2 rfl) ?_
    refine lv_dup hx hb dX4_lowers_30 rfl ?_
    refine x_get (ci := 4) (C := RX4) (T := TX4) (N := 10) (own := RX4) (index := 66) (v := .long (lI ov)) hx hb hts (by decide +kernel) hown hK hW.ob rfl 7 (by decide) (by decide +kernel) rfl rfl dX4_lowers_31 ?_
    refine lv_lload_n hx hb dX4_lowers_34 rfl (lv_at hl 1 rfl) ?_
    refine x_ldiv hx hb (by omega) (by omega) dX4_lowers_35 ?_
    refine x_put (ci := 4) (C := RX4) (T := TX4) (N := 10) (own := RX4) (index := 66) hx hb hts (by decide +kernel) tyX4 tyX4_ok nmX4 hown hK hW.ob hS ⟨by omega, by omega⟩ rfl 7 (by decide) (by decide +kernel) rfl rfl rfl rfl (Nat.le_of_ble_eq_true rfl) dX4_lowers_36 (fun H1 locs1 h1 hz1 hn1 hS => ?_)
    have hW := hW.putO h1 hn1
    refine lv_aload_n hx hb dX4_lowers_39 rfl (lv_at hl 2 rfl) ?_
    refine lv_dup hx hb dX4_lowers_40 rfl ?_
    refine x_get (ci := 4) (C := RX4) (T := TX4) (N := 10) (own := RX4) (index := 70) (v := .long (lI un)) hx hb hts (by decide +kernel) hown hK hW.ob rfl 8 (by decide) (by decide +kernel) rfl rfl dX4_lowers_41 ?_
    refine lv_lload_n hx hb dX4_lowers_44 rfl (lv_at hl 1 rfl) ?_
    refine x_ldiv hx hb (by omega) (by omega) dX4_lowers_45 ?_
    refine x_put (ci := 4) (C := RX4) (T := TX4) (N := 10) (own := RX4) (index := 70) hx hb hts (by decide +kernel) tyX4 tyX4_ok nmX4 hown hK hW.ob hS ⟨by omega, by omega⟩ rfl 8 (by decide) (by decide +kernel) rfl rfl rfl rfl (Nat.le_of_ble_eq_true rfl) dX4_lowers_46 (fun H1 locs1 h1 hz1 hn1 hS => ?_)
    have hW := hW.putO h1 hn1
    have hW := hW.ou (redN_eq hov hxg) (redN_eq2 hun hxg)
    exact W.vret hx hb hr (fun t ht _ => ⟨⟨(), rfl, trivial, _, ht, hW⟩, hS.F ht⟩) hS.2.2 dX4_lowers_49
  · have h0y : 0 < y := by rcases Nat.eq_zero_or_pos y with h9 | h9; exact absurd ((cmpZ_eq _ _).mpr (by omega)) h2; exact h9
    refine lv_lload_n hx hb dX4_lowers_16 rfl (lv_at hl 1 rfl) ?_
    refine lv_lload_n hx hb dX4_lowers_17 rfl (lv_at hl 0 rfl) ?_
    refine x_lrem hx hb (by omega) (by omega) dX4_lowers_18 ?_
    refine lv_lstore (lv' := [(5, .long (lI ((x : Int) % (y : Int)))), (3, .long (lI (y : Int))), (1, .long (lI (x : Int))), (0, .ref o)]) hx hb dX4_lowers_19 hl (by decide) rfl (fun ls hl => ?_)
    refine lv_lload_n hx hb dX4_lowers_21 rfl (lv_at hl 1 rfl) ?_
    refine lv_lstore_n (lv' := [(1, .long (lI (y : Int))), (5, .long (lI ((x : Int) % (y : Int)))), (3, .long (lI (y : Int))), (0, .ref o)]) hx hb dX4_lowers_22 rfl hl (by decide) rfl (fun ls hl => ?_)
    refine lv_lload hx hb dX4_lowers_23 (lv_at hl 1 rfl) ?_
    refine lv_lstore_n (lv' := [(3, .long (lI ((x : Int) % (y : Int)))), (1, .long (lI (y : Int))), (5, .long (lI ((x : Int) % (y : Int)))), (0, .ref o)]) hx hb dX4_lowers_25 rfl hl (by decide) rfl (fun ls hl => ?_)
    refine lv_goto (tgt := 10) hx hb dX4_lowers_26 (by decide) ?_
    exact ih10 (y) (x % y) ls (show ((y) < 9223372036854775808) ∧ ((x % y) < 9223372036854775808) ∧ (Nat.gcd (y) (x % y) = Nat.gcd na nb) from ⟨(hy1), (Nat.lt_trans (Nat.mod_lt x h0y) hy1), ((gcd_st h0y).trans hg)⟩) (show (x % y) < y from (Nat.mod_lt x h0y)) (lv_cons (x_atL (lv_at hl 0 rfl) (by rw [Int.natCast_emod])) (lv_cons (lv_at hl 1 rfl) (lv_cons (lv_at hl 3 rfl) (lv_nil hl))))
set_option maxHeartbeats 4000000 in
set_option maxRecDepth 100000 in
theorem c_X4_hits (l : Launch) (G : XG) (o : Nat) (b : XB) (th ov un : Int) (zs : Int) (hzs : -2147483648 ≤ zs ∧ zs < 2147483648) (zq : Int) (hzq : -2147483648 ≤ zq ∧ zq < 2147483648) (zr : Int) (hzr : -2147483648 ≤ zr ∧ zr < 2147483648) : MetQI l yX4_hits wsX4_hits (rmF 3 67) G o b th ov un [.ref o, .int (zI zs), .int (zI zq), .int (zI zr)] (kR ((0 ≤ zs ∧ zs < 4) ∧ (0 ≤ zq ∧ zq < 8) ∧ (1 ≤ zr ∧ zr ≤ 20)) 0) (relN b zq.toNat zs.toNat 0 zr.toNat : Int) b := by
  refine Met.ofW (cc := cX4_hits) (maxL := 4) (ret := (some .int)) (by decide) rfl ?_
  intro p e s m args below meth c s₁ B hml hv
  obtain ⟨rfl, hW, hi, hK⟩ := hv
  have hx := B.exec
  have hb := B.bytes
  have hr := B.returns
  have hts := atoms_spec (ws := wsX4_hits) B.pre
  have hown : s.vm.findClass RX4 = some m.cls := findClass_of_methodNamed B.named
  have hlocks := B.notSynchronized
  have hl := lv_entry ([.ref o, .int (zI zs), .int (zI zq), .int (zI zr)]) (n := 4) (Nat.le_of_ble_eq_true rfl)
  rw [lg_entry_eq]
  generalize (lg_sl ([.ref o, .int (zI zs), .int (zI zq), .int (zI zr)]) ++ List.replicate (4 - (lg_sl ([.ref o, .int (zI zs), .int (zI zq), .int (zI zr)])).length) Slot.unset).toArray = ls at hl ⊢
  have hl : lv_has ls 4 [(0, .ref o), (1, .int (zI zs)), (2, .int (zI zq)), (3, .int (zI zr))] := hl
  have hS : va_S (mA o) s.heap s.heap [] := va_S.rf
  refine lv_aload_n hx hb dX4_hits_0 rfl (lv_at hl 0 rfl) ?_
  refine lv_iload_n hx hb dX4_hits_1 rfl (lv_at hl 1 rfl) ?_
  refine lv_iload_n hx hb dX4_hits_2 rfl (lv_at hl 2 rfl) ?_
  refine lv_iload_n hx hb dX4_hits_3 rfl (lv_at hl 3 rfl) ?_
  refine x_wI (va_runV (As := [.int (zI zs), .int (zI zq), .int (zI zr)]) (rest := []) ⟨hx, hb, hml, hown, hts⟩ (c_X4_isDeep l G o b th ov un zs (by omega) zq (by omega) zr (by omega)) (cwV 3 hts gX4_hits_X4_isDeep rfl rfl rfl (by decide +kernel) ⟨Nat.le_of_ble_eq_true rfl, Nat.le_of_ble_eq_true rfl⟩) (x_preM hW hi hK) rfl rfl hl.1 rfl (lv_room (Nat.le_of_ble_eq_true rfl)) dX4_hits_4 ⟨Nat.le_of_ble_eq_true rfl, Nat.le_of_ble_eq_true rfl⟩) hS (fun q _ h => h) (fun q h => h) (fun H1 locs1 hW1 hz1 hk1 hS => ?_)
  have hW := hW1
  refine x_ifB_eq (tgt := 25) hx hb dX4_hits_7 (by decide) (fun h1 => ?_) (fun h2 => ?_)
  · replace hW := hW.th (kR_f h1)
    refine x_iconst hx hb dX4_hits_25 ?_
    exact x_qI hx hb hr (kR_f (by omega)) (no1) hW (if0_1) hS dX4_hits_26 hlocks
  · replace hW := hW.th (kR_t h2 rfl)
    obtain ⟨y, rfl⟩ : ∃ y : Nat, zs = (y : Int) := ⟨zs.toNat, by omega⟩
    obtain ⟨q, rfl⟩ : ∃ q : Nat, zq = (q : Int) := ⟨zq.toNat, by omega⟩
    obtain ⟨d, rfl⟩ : ∃ d : Nat, zr = (d : Int) := ⟨zr.toNat, by omega⟩
    refine lv_aload_n hx hb dX4_hits_10 rfl (lv_at hl 0 rfl) ?_
    refine lv_bipush (v := zI 8) hx hb dX4_hits_11 (by decide +kernel) ?_
    refine lv_iload_n hx hb dX4_hits_13 rfl (lv_at hl 1 rfl) ?_
    refine x_imul hx hb dX4_hits_14 ?_
    refine lv_iload_n hx hb dX4_hits_15 rfl (lv_at hl 2 rfl) ?_
    refine x_iadd hx hb dX4_hits_16 ?_
    refine x_iconst hx hb dX4_hits_17 ?_
    refine lv_iload_n hx hb dX4_hits_18 rfl (lv_at hl 3 rfl) ?_
    refine x_cI (va_runV (As := [.int (zI ((8 * (y : Int)) + (q : Int))), .int (zI 0), .int (zI (d : Int))]) (rest := []) ⟨hx, hb, hml, hown, hts⟩ (c_X4_relevantAmong l G o b 0 ov un q y (by omega) (by omega) ((8 * (y : Int)) + (q : Int)) (by omega) 0 (d : Int) (0) (d) (by omega) (by omega) (by omega) (by omega)) (cwV 3 hts gX4_hits_X4_relevantAmong rfl rfl rfl (by decide +kernel) ⟨Nat.le_of_ble_eq_true rfl, Nat.le_of_ble_eq_true rfl⟩) (x_preM hW hi hK) rfl rfl hl.1 rfl (lv_room (Nat.le_of_ble_eq_true rfl)) dX4_hits_19 ⟨Nat.le_of_ble_eq_true rfl, Nat.le_of_ble_eq_true rfl⟩) ?_
    refine lv_goto (tgt := 26) hx hb dX4_hits_22 (by decide) ?_
    exact x_qI hx hb hr (kR_t (by omega) rfl) (fun _ => rfl) hW (if0_t) hS dX4_hits_26 hlocks
set_option maxHeartbeats 4000000 in
set_option maxRecDepth 100000 in
theorem c_X4_isPrecision (l : Launch) (G : XG) (o : Nat) (b : XB) (th ov un : Int) (zs : Int) (hzs : -2147483648 ≤ zs ∧ zs < 2147483648) (zq : Int) (hzq : -2147483648 ≤ zq ∧ zq < 2147483648) (zr : Int) (hzr : -2147483648 ≤ zr ∧ zr < 2147483648) : MetWI l yX4_isPrecision wsX4_isPrecision (rmF 3 67) (MPc G o b th ov un [.ref o, .int (zI zs), .int (zI zq), .int (zI zr)]) (bI ((0 ≤ zs ∧ zs < 4) ∧ (0 ≤ zq ∧ zq < 8) ∧ (1 ≤ zr ∧ zr ≤ 20))) (fun H => ∃ ov2 un2, MW G o b (kR ((0 ≤ zs ∧ zs < 4) ∧ (0 ≤ zq ∧ zq < 8) ∧ (1 ≤ zr ∧ zr ≤ 20)) 0) ov2 un2 H ∧ (((0 ≤ zs ∧ zs < 4) ∧ (0 ≤ zq ∧ zq < 8) ∧ (1 ≤ zr ∧ zr ≤ 20)) → ov2 = (redN ((mhZ b zq.toNat zs.toNat zr).toNat) ((232792560 * zr).toNat) : Int) ∧ un2 = (redN ((232792560 * zr).toNat) ((mhZ b zq.toNat zs.toNat zr).toNat) : Int))) (mA o) := by
  refine Met.ofW (cc := cX4_isPrecision) (maxL := 4) (ret := (some .boolean)) (by decide) rfl ?_
  intro p e s m args below meth c s₁ B hml hv
  obtain ⟨rfl, hW, hi, hK⟩ := hv
  have hx := B.exec
  have hb := B.bytes
  have hr := B.returns
  have hts := atoms_spec (ws := wsX4_isPrecision) B.pre
  have hown : s.vm.findClass RX4 = some m.cls := findClass_of_methodNamed B.named
  have hlocks := B.notSynchronized
  have hl := lv_entry ([.ref o, .int (zI zs), .int (zI zq), .int (zI zr)]) (n := 4) (Nat.le_of_ble_eq_true rfl)
  rw [lg_entry_eq]
  generalize (lg_sl ([.ref o, .int (zI zs), .int (zI zq), .int (zI zr)]) ++ List.replicate (4 - (lg_sl ([.ref o, .int (zI zs), .int (zI zq), .int (zI zr)])).length) Slot.unset).toArray = ls at hl ⊢
  have hl : lv_has ls 4 [(0, .ref o), (1, .int (zI zs)), (2, .int (zI zq)), (3, .int (zI zr))] := hl
  have hS : va_S (mA o) s.heap s.heap [] := va_S.rf
  refine lv_aload_n hx hb dX4_isPrecision_0 rfl (lv_at hl 0 rfl) ?_
  refine lv_iload_n hx hb dX4_isPrecision_1 rfl (lv_at hl 1 rfl) ?_
  refine lv_iload_n hx hb dX4_isPrecision_2 rfl (lv_at hl 2 rfl) ?_
  refine lv_iload_n hx hb dX4_isPrecision_3 rfl (lv_at hl 3 rfl) ?_
  refine x_wI (va_runV (As := [.int (zI zs), .int (zI zq), .int (zI zr)]) (rest := []) ⟨hx, hb, hml, hown, hts⟩ (c_X4_isDeep l G o b th ov un zs (by omega) zq (by omega) zr (by omega)) (cwV 3 hts gX4_isPrecision_X4_isDeep rfl rfl rfl (by decide +kernel) ⟨Nat.le_of_ble_eq_true rfl, Nat.le_of_ble_eq_true rfl⟩) (x_preM hW hi hK) rfl rfl hl.1 rfl (lv_room (Nat.le_of_ble_eq_true rfl)) dX4_isPrecision_4 ⟨Nat.le_of_ble_eq_true rfl, Nat.le_of_ble_eq_true rfl⟩) hS (fun q _ h => h) (fun q h => h) (fun H1 locs1 hW1 hz1 hk1 hS => ?_)
  have hW := hW1
  refine x_ifB_ne (tgt := 12) hx hb dX4_isPrecision_7 (by decide) (fun h1 => ?_) (fun h2 => ?_)
  · replace hW := hW.th (kR_t h1 rfl)
    obtain ⟨y, rfl⟩ : ∃ y : Nat, zs = (y : Int) := ⟨zs.toNat, by omega⟩
    obtain ⟨q, rfl⟩ : ∃ q : Nat, zq = (q : Int) := ⟨zq.toNat, by omega⟩
    refine lv_aload_n hx hb dX4_isPrecision_12 rfl (lv_at hl 0 rfl) ?_
    refine lv_aload_n hx hb dX4_isPrecision_13 rfl (lv_at hl 0 rfl) ?_
    refine lv_bipush (v := zI 8) hx hb dX4_isPrecision_14 (by decide +kernel) ?_
    refine lv_iload_n hx hb dX4_isPrecision_16 rfl (lv_at hl 1 rfl) ?_
    refine x_imul hx hb dX4_isPrecision_17 ?_
    refine lv_iload_n hx hb dX4_isPrecision_18 rfl (lv_at hl 2 rfl) ?_
    refine x_iadd hx hb dX4_isPrecision_19 ?_
    refine lv_iload_n hx hb dX4_isPrecision_20 rfl (lv_at hl 3 rfl) ?_
    refine x_cL (va_runV (As := [.int (zI ((8 * (y : Int)) + (q : Int))), .int (zI zr)]) (rest := [.ref o]) ⟨hx, hb, hml, hown, hts⟩ (c_X4_meanHits l G o b 0 ov un q y (by omega) (by omega) ((8 * (y : Int)) + (q : Int)) (by omega) zr (by omega)) (cwV 2 hts gX4_isPrecision_X4_meanHits rfl rfl rfl (by decide +kernel) ⟨Nat.le_of_ble_eq_true rfl, Nat.le_of_ble_eq_true rfl⟩) (x_preM hW hi hK) rfl rfl hl.1 rfl (lv_room (Nat.le_of_ble_eq_true rfl)) dX4_isPrecision_21 ⟨Nat.le_of_ble_eq_true rfl, Nat.le_of_ble_eq_true rfl⟩) ?_
    refine x_put (ci := 4) (C := RX4) (T := TX4) (N := 10) (own := RX4) (index := 66) hx hb hts (by decide +kernel) tyX4 tyX4_ok nmX4 hown hK hW.ob hS ⟨by omega, by omega⟩ rfl 7 (by decide) (by decide +kernel) rfl rfl rfl rfl (Nat.le_of_ble_eq_true rfl) dX4_isPrecision_24 (fun H1 locs1 h1 hz1 hn1 hS => ?_)
    have hW := hW.putO h1 hn1
    refine lv_aload_n hx hb dX4_isPrecision_27 rfl (lv_at hl 0 rfl) ?_
    refine lv_ldc2 (v := lI 232792560) hx hb hown (by rw [show lI 232792560 = (232792560 : Int64) from by decide +kernel]; exact hts (.constantLong RX4 64 232792560) (by decide +kernel)) dX4_isPrecision_28 ?_
    refine lv_iload_n hx hb dX4_isPrecision_31 rfl (lv_at hl 3 rfl) ?_
    refine x_i2l hx hb (by omega) dX4_isPrecision_32 ?_
    refine x_lmul hx hb dX4_isPrecision_33 ?_
    refine x_put (ci := 4) (C := RX4) (T := TX4) (N := 10) (own := RX4) (index := 70) hx hb hts (by decide +kernel) tyX4 tyX4_ok nmX4 hown hK hW.ob hS ⟨by omega, by omega⟩ rfl 8 (by decide) (by decide +kernel) rfl rfl rfl rfl (Nat.le_of_ble_eq_true rfl) dX4_isPrecision_34 (fun H1 locs1 h1 hz1 hn1 hS => ?_)
    have hW := hW.putO h1 hn1
    have hmb := mhZ_bd hi q y zr
    refine lv_aload_n hx hb dX4_isPrecision_37 rfl (lv_at hl 0 rfl) ?_
    refine x_wV (va_runV (As := []) (rest := []) ⟨hx, hb, hml, hown, hts⟩ (c_X4_lowers l G o b 0 (mhZ b q y zr) (232792560 * zr) ((mhZ b q y zr).toNat) ((232792560 * zr).toNat) (by omega) (by omega) (by omega) (by omega) (by omega)) (cwV 0 hts gX4_isPrecision_X4_lowers rfl rfl rfl (by decide +kernel) ⟨Nat.le_of_ble_eq_true rfl, Nat.le_of_ble_eq_true rfl⟩) (x_preM hW hi hK) rfl rfl hl.1 rfl (lv_room (Nat.le_of_ble_eq_true rfl)) dX4_isPrecision_38 ⟨Nat.le_of_ble_eq_true rfl, Nat.le_of_ble_eq_true rfl⟩) hS (fun q _ h => h) (fun q h => h) (fun H1 locs1 hW1 hz1 hk1 hS => ?_)
    have hW := hW1
    refine x_iconst hx hb dX4_isPrecision_41 ?_
    have hW : ∃ ov2 un2, MW G o b (kR ((0 ≤ (y : Int) ∧ (y : Int) < 4) ∧ (0 ≤ (q : Int) ∧ (q : Int) < 8) ∧ (1 ≤ zr ∧ zr ≤ 20)) 0) ov2 un2 _ ∧ (((0 ≤ (y : Int) ∧ (y : Int) < 4) ∧ (0 ≤ (q : Int) ∧ (q : Int) < 8) ∧ (1 ≤ zr ∧ zr ≤ 20)) → ov2 = (redN ((mhZ b q y zr).toNat) ((232792560 * zr).toNat) : Int) ∧ un2 = (redN ((232792560 * zr).toNat) ((mhZ b q y zr).toNat) : Int)) := ⟨_, _, hW.th (kR_t (by omega) rfl).symm, fun _ => ⟨rfl, rfl⟩⟩
    exact W.zret hx hb hr (x_nar (by omega)) (fun t ht _ => ⟨⟨_, (), rfl, congrArg zI ((bI_t (by omega)).symm), _, ht, hW⟩, hS.F ht⟩) hS.2.2 dX4_isPrecision_42
  · replace hW := hW.th (kR_f h2)
    refine x_iconst hx hb dX4_isPrecision_10 ?_
    have hW : ∃ ov2 un2, MW G o b (kR ((0 ≤ zs ∧ zs < 4) ∧ (0 ≤ zq ∧ zq < 8) ∧ (1 ≤ zr ∧ zr ≤ 20)) 0) ov2 un2 _ ∧ (((0 ≤ zs ∧ zs < 4) ∧ (0 ≤ zq ∧ zq < 8) ∧ (1 ≤ zr ∧ zr ≤ 20)) → ov2 = (redN ((mhZ b zq.toNat zs.toNat zr).toNat) ((232792560 * zr).toNat) : Int) ∧ un2 = (redN ((232792560 * zr).toNat) ((mhZ b zq.toNat zs.toNat zr).toNat) : Int)) := ⟨_, _, hW.th (kR_f (by omega)).symm, fun h9 => absurd h9 (by omega)⟩
    exact W.zret hx hb hr (x_nar (by omega)) (fun t ht _ => ⟨⟨_, (), rfl, congrArg zI ((bI_f (by omega)).symm), _, ht, hW⟩, hS.F ht⟩) hS.2.2 dX4_isPrecision_11
set_option maxHeartbeats 4000000 in
set_option maxRecDepth 100000 in
theorem c_X4_precisionNumerator (l : Launch) (G : XG) (o : Nat) (b : XB) (th ov un : Int) (zs : Int) (hzs : -2147483648 ≤ zs ∧ zs < 2147483648) (zq : Int) (hzq : -2147483648 ≤ zq ∧ zq < 2147483648) (zr : Int) (hzr : -2147483648 ≤ zr ∧ zr < 2147483648) : MetQL l yX4_precisionNumerator wsX4_precisionNumerator (rmF 4 90) G o b th ov un [.ref o, .int (zI zs), .int (zI zq), .int (zI zr)] (kR ((0 ≤ zs ∧ zs < 4) ∧ (0 ≤ zq ∧ zq < 8) ∧ (1 ≤ zr ∧ zr ≤ 20)) 0) (redN ((mhZ b zq.toNat zs.toNat zr).toNat) ((232792560 * zr).toNat) : Int) b := by
  refine Met.ofW (cc := cX4_precisionNumerator) (maxL := 4) (ret := (some .long)) (by decide) rfl ?_
  intro p e s m args below meth c s₁ B hml hv
  obtain ⟨rfl, hW, hi, hK⟩ := hv
  have hx := B.exec
  have hb := B.bytes
  have hr := B.returns
  have hts := atoms_spec (ws := wsX4_precisionNumerator) B.pre
  have hown : s.vm.findClass RX4 = some m.cls := findClass_of_methodNamed B.named
  have hlocks := B.notSynchronized
  have hl := lv_entry ([.ref o, .int (zI zs), .int (zI zq), .int (zI zr)]) (n := 4) (Nat.le_of_ble_eq_true rfl)
  rw [lg_entry_eq]
  generalize (lg_sl ([.ref o, .int (zI zs), .int (zI zq), .int (zI zr)]) ++ List.replicate (4 - (lg_sl ([.ref o, .int (zI zs), .int (zI zq), .int (zI zr)])).length) Slot.unset).toArray = ls at hl ⊢
  have hl : lv_has ls 4 [(0, .ref o), (1, .int (zI zs)), (2, .int (zI zq)), (3, .int (zI zr))] := hl
  have hS : va_S (mA o) s.heap s.heap [] := va_S.rf
  refine lv_aload_n hx hb dX4_precisionNumerator_0 rfl (lv_at hl 0 rfl) ?_
  refine lv_iload_n hx hb dX4_precisionNumerator_1 rfl (lv_at hl 1 rfl) ?_
  refine lv_iload_n hx hb dX4_precisionNumerator_2 rfl (lv_at hl 2 rfl) ?_
  refine lv_iload_n hx hb dX4_precisionNumerator_3 rfl (lv_at hl 3 rfl) ?_
  refine x_wI (va_runV (As := [.int (zI zs), .int (zI zq), .int (zI zr)]) (rest := []) ⟨hx, hb, hml, hown, hts⟩ (c_X4_isPrecision l G o b th ov un zs (by omega) zq (by omega) zr (by omega)) (cwV 3 hts gX4_precisionNumerator_X4_isPrecision rfl rfl rfl (by decide +kernel) ⟨Nat.le_of_ble_eq_true rfl, Nat.le_of_ble_eq_true rfl⟩) (x_preM hW hi hK) rfl rfl hl.1 rfl (lv_room (Nat.le_of_ble_eq_true rfl)) dX4_precisionNumerator_4 ⟨Nat.le_of_ble_eq_true rfl, Nat.le_of_ble_eq_true rfl⟩) hS (fun q _ h => h) (fun q h => h) (fun H1 locs1 hW1 hz1 hk1 hS => ?_)
  obtain ⟨ov9, un9, hW, hou9⟩ := hW1
  refine x_ifB_eq (tgt := 17) hx hb dX4_precisionNumerator_7 (by decide) (fun h1 => ?_) (fun h2 => ?_)
  · replace hW := hW.th (kR_f h1)
    refine lv_lconst (v := lI 0) hx hb dX4_precisionNumerator_17 (by decide +kernel) ?_
    exact x_qL hx hb hr (kR_f (by omega)) (no1) hW (if0_1) hS dX4_precisionNumerator_18 hlocks
  · replace hW := hW.th (kR_t h2 rfl)
    refine lv_aload_n hx hb dX4_precisionNumerator_10 rfl (lv_at hl 0 rfl) ?_
    refine x_get (ci := 4) (C := RX4) (T := TX4) (N := 10) (own := RX4) (index := 66) (v := .long (lI ov9)) hx hb hts (by decide +kernel) hown hK hW.ob rfl 7 (by decide) (by decide +kernel) rfl rfl dX4_precisionNumerator_11 ?_
    refine lv_goto (tgt := 18) hx hb dX4_precisionNumerator_14 (by decide) ?_
    exact x_qL hx hb hr (kR_t (by omega) rfl) (fun _ => (hou9 (by omega)).1) hW (if0_t) hS dX4_precisionNumerator_18 hlocks
set_option maxHeartbeats 4000000 in
set_option maxRecDepth 100000 in
theorem c_X4_precisionDenominator (l : Launch) (G : XG) (o : Nat) (b : XB) (th ov un : Int) (zs : Int) (hzs : -2147483648 ≤ zs ∧ zs < 2147483648) (zq : Int) (hzq : -2147483648 ≤ zq ∧ zq < 2147483648) (zr : Int) (hzr : -2147483648 ≤ zr ∧ zr < 2147483648) : MetQL l yX4_precisionDenominator wsX4_precisionDenominator (rmF 4 90) G o b th ov un [.ref o, .int (zI zs), .int (zI zq), .int (zI zr)] (kR ((0 ≤ zs ∧ zs < 4) ∧ (0 ≤ zq ∧ zq < 8) ∧ (1 ≤ zr ∧ zr ≤ 20)) 0) (redN ((232792560 * zr).toNat) ((mhZ b zq.toNat zs.toNat zr).toNat) : Int) b := by
  refine Met.ofW (cc := cX4_precisionDenominator) (maxL := 4) (ret := (some .long)) (by decide) rfl ?_
  intro p e s m args below meth c s₁ B hml hv
  obtain ⟨rfl, hW, hi, hK⟩ := hv
  have hx := B.exec
  have hb := B.bytes
  have hr := B.returns
  have hts := atoms_spec (ws := wsX4_precisionDenominator) B.pre
  have hown : s.vm.findClass RX4 = some m.cls := findClass_of_methodNamed B.named
  have hlocks := B.notSynchronized
  have hl := lv_entry ([.ref o, .int (zI zs), .int (zI zq), .int (zI zr)]) (n := 4) (Nat.le_of_ble_eq_true rfl)
  rw [lg_entry_eq]
  generalize (lg_sl ([.ref o, .int (zI zs), .int (zI zq), .int (zI zr)]) ++ List.replicate (4 - (lg_sl ([.ref o, .int (zI zs), .int (zI zq), .int (zI zr)])).length) Slot.unset).toArray = ls at hl ⊢
  have hl : lv_has ls 4 [(0, .ref o), (1, .int (zI zs)), (2, .int (zI zq)), (3, .int (zI zr))] := hl
  have hS : va_S (mA o) s.heap s.heap [] := va_S.rf
  refine lv_aload_n hx hb dX4_precisionDenominator_0 rfl (lv_at hl 0 rfl) ?_
  refine lv_iload_n hx hb dX4_precisionDenominator_1 rfl (lv_at hl 1 rfl) ?_
  refine lv_iload_n hx hb dX4_precisionDenominator_2 rfl (lv_at hl 2 rfl) ?_
  refine lv_iload_n hx hb dX4_precisionDenominator_3 rfl (lv_at hl 3 rfl) ?_
  refine x_wI (va_runV (As := [.int (zI zs), .int (zI zq), .int (zI zr)]) (rest := []) ⟨hx, hb, hml, hown, hts⟩ (c_X4_isPrecision l G o b th ov un zs (by omega) zq (by omega) zr (by omega)) (cwV 3 hts gX4_precisionDenominator_X4_isPrecision rfl rfl rfl (by decide +kernel) ⟨Nat.le_of_ble_eq_true rfl, Nat.le_of_ble_eq_true rfl⟩) (x_preM hW hi hK) rfl rfl hl.1 rfl (lv_room (Nat.le_of_ble_eq_true rfl)) dX4_precisionDenominator_4 ⟨Nat.le_of_ble_eq_true rfl, Nat.le_of_ble_eq_true rfl⟩) hS (fun q _ h => h) (fun q h => h) (fun H1 locs1 hW1 hz1 hk1 hS => ?_)
  obtain ⟨ov9, un9, hW, hou9⟩ := hW1
  refine x_ifB_eq (tgt := 17) hx hb dX4_precisionDenominator_7 (by decide) (fun h1 => ?_) (fun h2 => ?_)
  · replace hW := hW.th (kR_f h1)
    refine lv_lconst (v := lI 0) hx hb dX4_precisionDenominator_17 (by decide +kernel) ?_
    exact x_qL hx hb hr (kR_f (by omega)) (no1) hW (if0_1) hS dX4_precisionDenominator_18 hlocks
  · replace hW := hW.th (kR_t h2 rfl)
    refine lv_aload_n hx hb dX4_precisionDenominator_10 rfl (lv_at hl 0 rfl) ?_
    refine x_get (ci := 4) (C := RX4) (T := TX4) (N := 10) (own := RX4) (index := 70) (v := .long (lI un9)) hx hb hts (by decide +kernel) hown hK hW.ob rfl 8 (by decide) (by decide +kernel) rfl rfl dX4_precisionDenominator_11 ?_
    refine lv_goto (tgt := 18) hx hb dX4_precisionDenominator_14 (by decide) ?_
    exact x_qL hx hb hr (kR_t (by omega) rfl) (fun _ => (hou9 (by omega)).2) hW (if0_t) hS dX4_precisionDenominator_18 hlocks
set_option maxHeartbeats 4000000 in
set_option maxRecDepth 100000 in
theorem c_X4_isMean (l : Launch) (G : XG) (o : Nat) (b : XB) (th ov un : Int) (zs : Int) (hzs : -2147483648 ≤ zs ∧ zs < 2147483648) (zr : Int) (hzr : -2147483648 ≤ zr ∧ zr < 2147483648) : MetWI l yX4_isMean wsX4_isMean (rmF 3 77) (MPc G o b th ov un [.ref o, .int (zI zs), .int (zI zr)]) (bI ((0 ≤ zs ∧ zs < 4) ∧ (1 ≤ zr ∧ zr ≤ 20))) (fun H => ∃ ov2 un2, MW G o b (kR ((0 ≤ zs ∧ zs < 4) ∧ (1 ≤ zr ∧ zr ≤ 20)) 0) ov2 un2 H ∧ (((0 ≤ zs ∧ zs < 4) ∧ (1 ≤ zr ∧ zr ≤ 20)) → ov2 = (redN ((shP b zs.toNat zr).toNat) ((swZ b zs.toNat zr).toNat) : Int) ∧ un2 = (redN ((swZ b zs.toNat zr).toNat) ((shP b zs.toNat zr).toNat) : Int))) (mA o) := by
  refine Met.ofW (cc := cX4_isMean) (maxL := 4) (ret := (some .boolean)) (by decide) rfl ?_
  intro p e s m args below meth c s₁ B hml hv
  obtain ⟨rfl, hW, hi, hK⟩ := hv
  have hx := B.exec
  have hb := B.bytes
  have hr := B.returns
  have hts := atoms_spec (ws := wsX4_isMean) B.pre
  have hown : s.vm.findClass RX4 = some m.cls := findClass_of_methodNamed B.named
  have hlocks := B.notSynchronized
  have hl := lv_entry ([.ref o, .int (zI zs), .int (zI zr)]) (n := 4) (Nat.le_of_ble_eq_true rfl)
  rw [lg_entry_eq]
  generalize (lg_sl ([.ref o, .int (zI zs), .int (zI zr)]) ++ List.replicate (4 - (lg_sl ([.ref o, .int (zI zs), .int (zI zr)])).length) Slot.unset).toArray = ls at hl ⊢
  have hl : lv_has ls 4 [(0, .ref o), (1, .int (zI zs)), (2, .int (zI zr))] := hl
  have hS : va_S (mA o) s.heap s.heap [] := va_S.rf
  refine lv_aload_n hx hb dX4_isMean_0 rfl (lv_at hl 0 rfl) ?_
  refine lv_iload_n hx hb dX4_isMean_1 rfl (lv_at hl 1 rfl) ?_
  refine x_iconst hx hb dX4_isMean_2 ?_
  refine lv_iload_n hx hb dX4_isMean_3 rfl (lv_at hl 2 rfl) ?_
  refine x_wI (va_runV (As := [.int (zI zs), .int (zI 0), .int (zI zr)]) (rest := []) ⟨hx, hb, hml, hown, hts⟩ (c_X4_isDeep l G o b th ov un zs (by omega) 0 (by omega) zr (by omega)) (cwV 3 hts gX4_isMean_X4_isDeep rfl rfl rfl (by decide +kernel) ⟨Nat.le_of_ble_eq_true rfl, Nat.le_of_ble_eq_true rfl⟩) (x_preM hW hi hK) rfl rfl hl.1 rfl (lv_room (Nat.le_of_ble_eq_true rfl)) dX4_isMean_4 ⟨Nat.le_of_ble_eq_true rfl, Nat.le_of_ble_eq_true rfl⟩) hS (fun q _ h => h) (fun q h => h) (fun H1 locs1 hW1 hz1 hk1 hS => ?_)
  have hW := hW1
  refine x_ifB_ne (tgt := 12) hx hb dX4_isMean_7 (by decide) (fun h1 => ?_) (fun h2 => ?_)
  · replace hW := hW.th (kR_t h1 rfl)
    obtain ⟨y, rfl⟩ : ∃ y : Nat, zs = (y : Int) := ⟨zs.toNat, by omega⟩
    refine lv_aload_n hx hb dX4_isMean_12 rfl (lv_at hl 0 rfl) ?_
    refine lv_iload_n hx hb dX4_isMean_13 rfl (lv_at hl 1 rfl) ?_
    refine x_cI (va_runV (As := [.int (zI (y : Int))]) (rest := []) ⟨hx, hb, hml, hown, hts⟩ (c_X4_runsOf l G o b 0 ov un (y) (by omega) (y : Int) (by omega)) (cwV 1 hts gX4_isMean_X4_runsOf rfl rfl rfl (by decide +kernel) ⟨Nat.le_of_ble_eq_true rfl, Nat.le_of_ble_eq_true rfl⟩) (x_preM hW hi hK) rfl rfl hl.1 rfl (lv_room (Nat.le_of_ble_eq_true rfl)) dX4_isMean_14 ⟨Nat.le_of_ble_eq_true rfl, Nat.le_of_ble_eq_true rfl⟩) ?_
    have hfr9 := frN_le b y
    refine lv_istore_n (lv' := [(3, .int (zI (frN b (y) : Int))), (0, .ref o), (1, .int (zI (y : Int))), (2, .int (zI zr))]) hx hb dX4_isMean_17 rfl hl (by decide) rfl (fun ls hl => ?_)
    refine lv_aload_n hx hb dX4_isMean_18 rfl (lv_at hl 1 rfl) ?_
    refine lv_aload_n hx hb dX4_isMean_19 rfl (lv_at hl 1 rfl) ?_
    refine lv_iload_n hx hb dX4_isMean_20 rfl (lv_at hl 2 rfl) ?_
    refine lv_iload_n hx hb dX4_isMean_21 rfl (lv_at hl 3 rfl) ?_
    refine x_cL (va_runV (As := [.int (zI (y : Int)), .int (zI zr)]) (rest := [.ref o]) ⟨hx, hb, hml, hown, hts⟩ (c_X4_allHits l G o b 0 ov un (y) (by omega) (y : Int) zr (by omega) (by omega)) (cwV 2 hts gX4_isMean_X4_allHits rfl rfl rfl (by decide +kernel) ⟨Nat.le_of_ble_eq_true rfl, Nat.le_of_ble_eq_true rfl⟩) (x_preM hW hi hK) rfl rfl hl.1 rfl (lv_room (Nat.le_of_ble_eq_true rfl)) dX4_isMean_22 ⟨Nat.le_of_ble_eq_true rfl, Nat.le_of_ble_eq_true rfl⟩) ?_
    refine x_put (ci := 4) (C := RX4) (T := TX4) (N := 10) (own := RX4) (index := 66) hx hb hts (by decide +kernel) tyX4 tyX4_ok nmX4 hown hK hW.ob hS ⟨by omega, by omega⟩ rfl 7 (by decide) (by decide +kernel) rfl rfl rfl rfl (Nat.le_of_ble_eq_true rfl) dX4_isMean_25 (fun H1 locs1 h1 hz1 hn1 hS => ?_)
    have hW := hW.putO h1 hn1
    refine lv_aload_n hx hb dX4_isMean_28 rfl (lv_at hl 1 rfl) ?_
    refine lv_iload_n hx hb dX4_isMean_29 rfl (lv_at hl 0 rfl) ?_
    refine x_if_ne (tgt := 37) hx hb dX4_isMean_30 (by decide) (by omega) (fun h3 => ?_) (fun h4 => ?_)
    · have hsw9 : swZ b y zr = 232792560 * zr * (frN b (y) : Int) := by rw [swZ, if_neg (by omega)]
      refine lv_ldc2 (v := lI 232792560) hx hb hown (by rw [show lI 232792560 = (232792560 : Int64) from by decide +kernel]; exact hts (.constantLong RX4 64 232792560) (by decide +kernel)) dX4_isMean_37 ?_
      refine lv_iload_n hx hb dX4_isMean_40 rfl (lv_at hl 3 rfl) ?_
      refine x_i2l hx hb (by omega) dX4_isMean_41 ?_
      refine x_lmul hx hb dX4_isMean_42 ?_
      refine lv_iload_n hx hb dX4_isMean_43 rfl (lv_at hl 0 rfl) ?_
      refine x_i2l hx hb (by omega) dX4_isMean_44 ?_
      refine x_lmul hx hb dX4_isMean_45 ?_
      refine x_put (ci := 4) (C := RX4) (T := TX4) (N := 10) (own := RX4) (index := 70) hx hb hts (by decide +kernel) tyX4 tyX4_ok nmX4 hown hK hW.ob hS ⟨by omega, by omega⟩ rfl 8 (by decide) (by decide +kernel) rfl rfl rfl rfl (Nat.le_of_ble_eq_true rfl) dX4_isMean_46 (fun H1 locs1 h1 hz1 hn1 hS => ?_)
      have hW := hW.putO h1 hn1
      have hsb := shP_bd hi y zr
      have hwb := swZ_bd (b := b) (y := y) (de := zr) (by omega)
      refine lv_aload_n hx hb dX4_isMean_49 rfl (lv_at hl 1 rfl) ?_
      refine x_wV (va_runV (As := []) (rest := []) ⟨hx, hb, hml, hown, hts⟩ (c_X4_lowers l G o b 0 (shP b (y) zr) ((232792560 * zr) * (frN b (y) : Int)) ((shP b y zr).toNat) ((swZ b y zr).toNat) (by omega) (by omega) (by omega) (by omega) (by omega)) (cwV 0 hts gX4_isMean_X4_lowers rfl rfl rfl (by decide +kernel) ⟨Nat.le_of_ble_eq_true rfl, Nat.le_of_ble_eq_true rfl⟩) (x_preM hW hi hK) rfl rfl hl.1 rfl (lv_room (Nat.le_of_ble_eq_true rfl)) dX4_isMean_50 ⟨Nat.le_of_ble_eq_true rfl, Nat.le_of_ble_eq_true rfl⟩) hS (fun q _ h => h) (fun q h => h) (fun H1 locs1 hW1 hz1 hk1 hS => ?_)
      have hW := hW1
      refine x_iconst hx hb dX4_isMean_53 ?_
      have hW : ∃ ov2 un2, MW G o b (kR ((0 ≤ (y : Int) ∧ (y : Int) < 4) ∧ (1 ≤ zr ∧ zr ≤ 20)) 0) ov2 un2 _ ∧ (((0 ≤ (y : Int) ∧ (y : Int) < 4) ∧ (1 ≤ zr ∧ zr ≤ 20)) → ov2 = (redN ((shP b y zr).toNat) ((swZ b y zr).toNat) : Int) ∧ un2 = (redN ((swZ b y zr).toNat) ((shP b y zr).toNat) : Int)) := ⟨_, _, hW.th (kR_t (by omega) rfl).symm, fun _ => ⟨rfl, rfl⟩⟩
      exact W.zret hx hb hr (x_nar (by omega)) (fun t ht _ => ⟨⟨_, (), rfl, congrArg zI ((bI_t (by omega)).symm), _, ht, hW⟩, hS.F ht⟩) hS.2.2 dX4_isMean_54
    · have hsw9 : swZ b y zr = 1 := by rw [swZ, if_pos (by omega)]
      refine lv_lconst (v := lI 1) hx hb dX4_isMean_33 (by decide +kernel) ?_
      refine lv_goto (tgt := 46) hx hb dX4_isMean_34 (by decide) ?_
      refine x_put (ci := 4) (C := RX4) (T := TX4) (N := 10) (own := RX4) (index := 70) hx hb hts (by decide +kernel) tyX4 tyX4_ok nmX4 hown hK hW.ob hS ⟨by omega, by omega⟩ rfl 8 (by decide) (by decide +kernel) rfl rfl rfl rfl (Nat.le_of_ble_eq_true rfl) dX4_isMean_46 (fun H1 locs1 h1 hz1 hn1 hS => ?_)
      have hW := hW.putO h1 hn1
      have hsb := shP_bd hi y zr
      have hwb := swZ_bd (b := b) (y := y) (de := zr) (by omega)
      refine lv_aload_n hx hb dX4_isMean_49 rfl (lv_at hl 1 rfl) ?_
      refine x_wV (va_runV (As := []) (rest := []) ⟨hx, hb, hml, hown, hts⟩ (c_X4_lowers l G o b 0 (shP b (y) zr) 1 ((shP b y zr).toNat) ((swZ b y zr).toNat) (by omega) (by omega) (by omega) (by omega) (by omega)) (cwV 0 hts gX4_isMean_X4_lowers rfl rfl rfl (by decide +kernel) ⟨Nat.le_of_ble_eq_true rfl, Nat.le_of_ble_eq_true rfl⟩) (x_preM hW hi hK) rfl rfl hl.1 rfl (lv_room (Nat.le_of_ble_eq_true rfl)) dX4_isMean_50 ⟨Nat.le_of_ble_eq_true rfl, Nat.le_of_ble_eq_true rfl⟩) hS (fun q _ h => h) (fun q h => h) (fun H1 locs1 hW1 hz1 hk1 hS => ?_)
      have hW := hW1
      refine x_iconst hx hb dX4_isMean_53 ?_
      have hW : ∃ ov2 un2, MW G o b (kR ((0 ≤ (y : Int) ∧ (y : Int) < 4) ∧ (1 ≤ zr ∧ zr ≤ 20)) 0) ov2 un2 _ ∧ (((0 ≤ (y : Int) ∧ (y : Int) < 4) ∧ (1 ≤ zr ∧ zr ≤ 20)) → ov2 = (redN ((shP b y zr).toNat) ((swZ b y zr).toNat) : Int) ∧ un2 = (redN ((swZ b y zr).toNat) ((shP b y zr).toNat) : Int)) := ⟨_, _, hW.th (kR_t (by omega) rfl).symm, fun _ => ⟨rfl, rfl⟩⟩
      exact W.zret hx hb hr (x_nar (by omega)) (fun t ht _ => ⟨⟨_, (), rfl, congrArg zI ((bI_t (by omega)).symm), _, ht, hW⟩, hS.F ht⟩) hS.2.2 dX4_isMean_54
  · replace hW := hW.th (kR_f h2)
    refine x_iconst hx hb dX4_isMean_10 ?_
    have hW : ∃ ov2 un2, MW G o b (kR ((0 ≤ zs ∧ zs < 4) ∧ (1 ≤ zr ∧ zr ≤ 20)) 0) ov2 un2 _ ∧ (((0 ≤ zs ∧ zs < 4) ∧ (1 ≤ zr ∧ zr ≤ 20)) → ov2 = (redN ((shP b zs.toNat zr).toNat) ((swZ b zs.toNat zr).toNat) : Int) ∧ un2 = (redN ((swZ b zs.toNat zr).toNat) ((shP b zs.toNat zr).toNat) : Int)) := ⟨_, _, hW.th (kR_f (by omega)).symm, fun h9 => absurd h9 (by omega)⟩
    exact W.zret hx hb hr (x_nar (by omega)) (fun t ht _ => ⟨⟨_, (), rfl, congrArg zI ((bI_f (by omega)).symm), _, ht, hW⟩, hS.F ht⟩) hS.2.2 dX4_isMean_11
set_option maxHeartbeats 4000000 in
set_option maxRecDepth 100000 in
theorem c_X4_meanNumerator (l : Launch) (G : XG) (o : Nat) (b : XB) (th ov un : Int) (zs : Int) (hzs : -2147483648 ≤ zs ∧ zs < 2147483648) (zr : Int) (hzr : -2147483648 ≤ zr ∧ zr < 2147483648) : MetQL l yX4_meanNumerator wsX4_meanNumerator (rmF 4 100) G o b th ov un [.ref o, .int (zI zs), .int (zI zr)] (kR ((0 ≤ zs ∧ zs < 4) ∧ (1 ≤ zr ∧ zr ≤ 20)) 0) (redN ((shP b zs.toNat zr).toNat) ((swZ b zs.toNat zr).toNat) : Int) b := by
  refine Met.ofW (cc := cX4_meanNumerator) (maxL := 3) (ret := (some .long)) (by decide) rfl ?_
  intro p e s m args below meth c s₁ B hml hv
  obtain ⟨rfl, hW, hi, hK⟩ := hv
  have hx := B.exec
  have hb := B.bytes
  have hr := B.returns
  have hts := atoms_spec (ws := wsX4_meanNumerator) B.pre
  have hown : s.vm.findClass RX4 = some m.cls := findClass_of_methodNamed B.named
  have hlocks := B.notSynchronized
  have hl := lv_entry ([.ref o, .int (zI zs), .int (zI zr)]) (n := 3) (Nat.le_of_ble_eq_true rfl)
  rw [lg_entry_eq]
  generalize (lg_sl ([.ref o, .int (zI zs), .int (zI zr)]) ++ List.replicate (3 - (lg_sl ([.ref o, .int (zI zs), .int (zI zr)])).length) Slot.unset).toArray = ls at hl ⊢
  have hl : lv_has ls 3 [(0, .ref o), (1, .int (zI zs)), (2, .int (zI zr))] := hl
  have hS : va_S (mA o) s.heap s.heap [] := va_S.rf
  refine lv_aload_n hx hb dX4_meanNumerator_0 rfl (lv_at hl 0 rfl) ?_
  refine lv_iload_n hx hb dX4_meanNumerator_1 rfl (lv_at hl 1 rfl) ?_
  refine lv_iload_n hx hb dX4_meanNumerator_2 rfl (lv_at hl 2 rfl) ?_
  refine x_wI (va_runV (As := [.int (zI zs), .int (zI zr)]) (rest := []) ⟨hx, hb, hml, hown, hts⟩ (c_X4_isMean l G o b th ov un zs (by omega) zr (by omega)) (cwV 2 hts gX4_meanNumerator_X4_isMean rfl rfl rfl (by decide +kernel) ⟨Nat.le_of_ble_eq_true rfl, Nat.le_of_ble_eq_true rfl⟩) (x_preM hW hi hK) rfl rfl hl.1 rfl (lv_room (Nat.le_of_ble_eq_true rfl)) dX4_meanNumerator_3 ⟨Nat.le_of_ble_eq_true rfl, Nat.le_of_ble_eq_true rfl⟩) hS (fun q _ h => h) (fun q h => h) (fun H1 locs1 hW1 hz1 hk1 hS => ?_)
  obtain ⟨ov9, un9, hW, hou9⟩ := hW1
  refine x_ifB_eq (tgt := 16) hx hb dX4_meanNumerator_6 (by decide) (fun h1 => ?_) (fun h2 => ?_)
  · replace hW := hW.th (kR_f h1)
    refine lv_lconst (v := lI 0) hx hb dX4_meanNumerator_16 (by decide +kernel) ?_
    exact x_qL hx hb hr (kR_f (by omega)) (no1) hW (if0_1) hS dX4_meanNumerator_17 hlocks
  · replace hW := hW.th (kR_t h2 rfl)
    refine lv_aload_n hx hb dX4_meanNumerator_9 rfl (lv_at hl 0 rfl) ?_
    refine x_get (ci := 4) (C := RX4) (T := TX4) (N := 10) (own := RX4) (index := 66) (v := .long (lI ov9)) hx hb hts (by decide +kernel) hown hK hW.ob rfl 7 (by decide) (by decide +kernel) rfl rfl dX4_meanNumerator_10 ?_
    refine lv_goto (tgt := 17) hx hb dX4_meanNumerator_13 (by decide) ?_
    exact x_qL hx hb hr (kR_t (by omega) rfl) (fun _ => (hou9 (by omega)).1) hW (if0_t) hS dX4_meanNumerator_17 hlocks
set_option maxHeartbeats 4000000 in
set_option maxRecDepth 100000 in
theorem c_X4_meanDenominator (l : Launch) (G : XG) (o : Nat) (b : XB) (th ov un : Int) (zs : Int) (hzs : -2147483648 ≤ zs ∧ zs < 2147483648) (zr : Int) (hzr : -2147483648 ≤ zr ∧ zr < 2147483648) : MetQL l yX4_meanDenominator wsX4_meanDenominator (rmF 4 100) G o b th ov un [.ref o, .int (zI zs), .int (zI zr)] (kR ((0 ≤ zs ∧ zs < 4) ∧ (1 ≤ zr ∧ zr ≤ 20)) 0) (redN ((swZ b zs.toNat zr).toNat) ((shP b zs.toNat zr).toNat) : Int) b := by
  refine Met.ofW (cc := cX4_meanDenominator) (maxL := 3) (ret := (some .long)) (by decide) rfl ?_
  intro p e s m args below meth c s₁ B hml hv
  obtain ⟨rfl, hW, hi, hK⟩ := hv
  have hx := B.exec
  have hb := B.bytes
  have hr := B.returns
  have hts := atoms_spec (ws := wsX4_meanDenominator) B.pre
  have hown : s.vm.findClass RX4 = some m.cls := findClass_of_methodNamed B.named
  have hlocks := B.notSynchronized
  have hl := lv_entry ([.ref o, .int (zI zs), .int (zI zr)]) (n := 3) (Nat.le_of_ble_eq_true rfl)
  rw [lg_entry_eq]
  generalize (lg_sl ([.ref o, .int (zI zs), .int (zI zr)]) ++ List.replicate (3 - (lg_sl ([.ref o, .int (zI zs), .int (zI zr)])).length) Slot.unset).toArray = ls at hl ⊢
  have hl : lv_has ls 3 [(0, .ref o), (1, .int (zI zs)), (2, .int (zI zr))] := hl
  have hS : va_S (mA o) s.heap s.heap [] := va_S.rf
  refine lv_aload_n hx hb dX4_meanDenominator_0 rfl (lv_at hl 0 rfl) ?_
  refine lv_iload_n hx hb dX4_meanDenominator_1 rfl (lv_at hl 1 rfl) ?_
  refine lv_iload_n hx hb dX4_meanDenominator_2 rfl (lv_at hl 2 rfl) ?_
  refine x_wI (va_runV (As := [.int (zI zs), .int (zI zr)]) (rest := []) ⟨hx, hb, hml, hown, hts⟩ (c_X4_isMean l G o b th ov un zs (by omega) zr (by omega)) (cwV 2 hts gX4_meanDenominator_X4_isMean rfl rfl rfl (by decide +kernel) ⟨Nat.le_of_ble_eq_true rfl, Nat.le_of_ble_eq_true rfl⟩) (x_preM hW hi hK) rfl rfl hl.1 rfl (lv_room (Nat.le_of_ble_eq_true rfl)) dX4_meanDenominator_3 ⟨Nat.le_of_ble_eq_true rfl, Nat.le_of_ble_eq_true rfl⟩) hS (fun q _ h => h) (fun q h => h) (fun H1 locs1 hW1 hz1 hk1 hS => ?_)
  obtain ⟨ov9, un9, hW, hou9⟩ := hW1
  refine x_ifB_eq (tgt := 16) hx hb dX4_meanDenominator_6 (by decide) (fun h1 => ?_) (fun h2 => ?_)
  · replace hW := hW.th (kR_f h1)
    refine lv_lconst (v := lI 0) hx hb dX4_meanDenominator_16 (by decide +kernel) ?_
    exact x_qL hx hb hr (kR_f (by omega)) (no1) hW (if0_1) hS dX4_meanDenominator_17 hlocks
  · replace hW := hW.th (kR_t h2 rfl)
    refine lv_aload_n hx hb dX4_meanDenominator_9 rfl (lv_at hl 0 rfl) ?_
    refine x_get (ci := 4) (C := RX4) (T := TX4) (N := 10) (own := RX4) (index := 70) (v := .long (lI un9)) hx hb hts (by decide +kernel) hown hK hW.ob rfl 8 (by decide) (by decide +kernel) rfl rfl dX4_meanDenominator_10 ?_
    refine lv_goto (tgt := 17) hx hb dX4_meanDenominator_13 (by decide) ?_
    exact x_qL hx hb hr (kR_t (by omega) rfl) (fun _ => (hou9 (by omega)).2) hW (if0_t) hS dX4_meanDenominator_17 hlocks
