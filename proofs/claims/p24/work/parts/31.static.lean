/-- the product that counts: how many sets of k members a set of d + k has -/
def subI (d : Nat) : Nat → Int
  | 0 => 1
  | k + 1 => subI d k * ((d : Int) + ((k : Int) + 1)) / ((k : Int) + 1)
theorem subI_bd {d k : Nat} (h : d + k ≤ 20) : 1 ≤ subI d k ∧ subI d k ≤ 184756 := by
  have key : ∀ d : Fin 21, ∀ k : Fin 21, d.val + k.val ≤ 20 → 1 ≤ subI d.val k.val ∧ subI d.val k.val ≤ 184756 := by decide +kernel
  exact key ⟨d, by omega⟩ ⟨k, by omega⟩ h
theorem subI_mul {d k : Nat} (h : d + (k + 1) ≤ 20) : 0 ≤ subI d k * ((d : Int) + ((k : Int) + 1)) ∧ subI d k * ((d : Int) + ((k : Int) + 1)) ≤ 184756 * 20 := by
  have a := subI_bd (d := d) (k := k) (by omega)
  refine ⟨Int.mul_nonneg (by omega) (by omega), ?_⟩
  exact Int.mul_le_mul a.2 (by omega) (by omega) (by omega)
set_option maxHeartbeats 4000000 in
set_option maxRecDepth 100000 in
theorem c_X3_subsets (l : Launch) (zs zm : Int) (d k0 : Nat) (hzs : zs = (d : Int) + (k0 : Int)) (hzm : zm = (k0 : Int)) (hd : d + k0 ≤ 20) : MetL l yX3_subsets wsX3_subsets (rmF 0 0) (SPc [.int (zI zs), .int (zI zm)]) (subI d k0) := by
  refine Met.ofW (cc := cX3_subsets) (maxL := 5) (ret := (some .long)) (by decide) rfl ?_
  intro p e s m args below meth c s₁ B hml hv
  obtain ⟨rfl, -⟩ := hv
  have hx := B.exec
  have hb := B.bytes
  have hr := B.returns
  have hts := atoms_spec (ws := wsX3_subsets) B.pre
  have hown : s.vm.findClass RX3 = some m.cls := findClass_of_methodNamed B.named
  have hlocks := B.notSynchronized
  have hl := lv_entry ([.int (zI zs), .int (zI zm)]) (n := 5) (Nat.le_of_ble_eq_true rfl)
  rw [lg_entry_eq]
  generalize (lg_sl ([.int (zI zs), .int (zI zm)]) ++ List.replicate (5 - (lg_sl ([.int (zI zs), .int (zI zm)])).length) Slot.unset).toArray = ls at hl ⊢
  have hl : lv_has ls 5 [(0, .int (zI zs)), (1, .int (zI zm))] := hl
  refine lv_lconst (v := lI 1) hx hb dX3_subsets_0 (by decide +kernel) ?_
  refine lv_lstore_n (lv' := [(2, .long (lI 1)), (0, .int (zI zs)), (1, .int (zI zm))]) hx hb dX3_subsets_1 rfl hl (by decide) rfl (fun ls hl => ?_)
  refine x_iconst hx hb dX3_subsets_2 ?_
  refine lv_istore (lv' := [(4, .int (zI 1)), (2, .long (lI 1)), (0, .int (zI zs)), (1, .int (zI zm))]) hx hb dX3_subsets_3 hl (by decide) rfl (fun ls hl => ?_)
  refine x_loop1 (fun (k : Nat) => (k ≤ k0)) (fun (k : Nat) => k0 - k) (fun (k : Nat) => [(4, .int (zI ((k : Int) + 1))), (2, .long (lI (subI d k))), (0, .int (zI zs)), (1, .int (zI zm))]) (0) (show ((0) ≤ k0) from (Nat.zero_le _)) (show lv_has ls 5 [(4, .int (zI (((0) : Int) + 1))), (2, .long (lI (subI d (0)))), (0, .int (zI zs)), (1, .int (zI zm))] from (lv_cons (x_at (lv_at hl 0 rfl) (by omega)) (lv_cons (x_atL (lv_at hl 1 rfl) (rfl)) (lv_cons (lv_at hl 2 rfl) (lv_cons (lv_at hl 3 rfl) (lv_nil hl)))))) (fun k ls hI5 hl ih5 => ?_)
  have hk : k ≤ k0 := hI5
  have hl : lv_has ls 5 [(4, .int (zI ((k : Int) + 1))), (2, .long (lI (subI d k))), (0, .int (zI zs)), (1, .int (zI zm))] := hl
  have hbd := subI_bd (d := d) (k := k) (by omega)
  refine lv_iload hx hb dX3_subsets_5 (lv_at hl 0 rfl) ?_
  refine lv_iload_n hx hb dX3_subsets_7 rfl (lv_at hl 3 rfl) ?_
  refine x_icmp_gt (tgt := 31) hx hb dX3_subsets_8 (by decide) (by omega) (fun h1 => ?_) (fun h2 => ?_)
  · refine lv_lload_n hx hb dX3_subsets_31 rfl (lv_at hl 1 rfl) ?_
    exact x_retL hx hb hr (by rw [show k = k0 from by omega]) dX3_subsets_32 hlocks
  · refine lv_lload_n hx hb dX3_subsets_11 rfl (lv_at hl 1 rfl) ?_
    refine lv_iload_n hx hb dX3_subsets_12 rfl (lv_at hl 2 rfl) ?_
    refine lv_iload_n hx hb dX3_subsets_13 rfl (lv_at hl 3 rfl) ?_
    refine x_isub hx hb dX3_subsets_14 ?_
    refine lv_iload hx hb dX3_subsets_15 (lv_at hl 0 rfl) ?_
    refine x_iadd hx hb dX3_subsets_17 ?_
    refine x_i2l hx hb (by omega) dX3_subsets_18 ?_
    refine x_lmul hx hb dX3_subsets_19 ?_
    refine lv_iload hx hb dX3_subsets_20 (lv_at hl 0 rfl) ?_
    have hm9 : 0 ≤ subI d k * ((zs - zm) + ((k : Int) + 1)) ∧ subI d k * ((zs - zm) + ((k : Int) + 1)) ≤ 184756 * 20 := by rw [show zs - zm = (d : Int) from by omega]; exact subI_mul (by omega)
    refine x_i2l hx hb (by omega) dX3_subsets_22 ?_
    refine x_ldiv hx hb (by omega) (by omega) dX3_subsets_23 ?_
    refine lv_lstore_n (lv' := [(2, .long (lI (((subI d k) * ((zs - zm) + ((k : Int) + 1))) / ((k : Int) + 1)))), (4, .int (zI ((k : Int) + 1))), (0, .int (zI zs)), (1, .int (zI zm))]) hx hb dX3_subsets_24 rfl hl (by decide) rfl (fun ls hl => ?_)
    refine x_iinc (lv' := [(4, .int (zI (((k : Int) + 1) + 1))), (2, .long (lI (((subI d k) * ((zs - zm) + ((k : Int) + 1))) / ((k : Int) + 1)))), (0, .int (zI zs)), (1, .int (zI zm))]) (k := 1) hx hb dX3_subsets_25 hl rfl (by decide) rfl (fun ls hl => ?_)
    refine lv_goto (tgt := 5) hx hb dX3_subsets_28 (by decide) ?_
    exact ih5 (k + 1) ls (show ((k + 1) ≤ k0) from (by omega)) (show k0 - (k + 1) < k0 - k from (by omega)) (lv_cons (x_at (lv_at hl 0 rfl) (by omega)) (lv_cons (x_atL (lv_at hl 1 rfl) (by rw [subI, show zs - zm = (d : Int) from by omega])) (lv_cons (lv_at hl 2 rfl) (lv_cons (lv_at hl 3 rfl) (lv_nil hl)))))
theorem gcd_half {x y : Nat} (h0 : 0 < y) (h : y < x) : 2 * (x % y) ≤ x := by
  have a := Nat.mod_lt x h0
  have c := Nat.div_add_mod x y
  have q : 1 ≤ x / y := (Nat.le_div_iff_mul_le h0).mpr (by omega)
  have e : y * 1 ≤ y * (x / y) := Nat.mul_le_mul_left y q
  omega
theorem gcd_fuel {x y n : Nat} (h0 : 0 < y) (h : y < x) (hb : x * y * 2 ^ n ≤ 2 ^ 126) : y * (x % y) * 2 ^ (n + 1) ≤ 2 ^ 126 := by
  have a := gcd_half h0 h
  have e : y * (x % y) * 2 ^ (n + 1) = (2 * (x % y)) * y * 2 ^ n := by rw [Nat.pow_succ, Nat.mul_comm (y * (x % y)), Nat.mul_comm (2 * (x % y)) y, Nat.mul_comm y (x % y), Nat.mul_assoc (2 ^ n), ← Nat.mul_assoc 2 (x % y) y, Nat.mul_comm (2 ^ n)]; simp only [Nat.mul_comm, Nat.mul_left_comm, Nat.mul_assoc]
  rw [e]
  exact Nat.le_trans (Nat.mul_le_mul_right _ (Nat.mul_le_mul_right _ a)) hb
theorem gcd_fuel0 {x y : Nat} (hx : y < 2 ^ 63) (h0 : 0 < y) : y * (x % y) * 2 ^ 0 ≤ 2 ^ 126 := by
  have a := Nat.mod_lt x h0
  have := Nat.mul_le_mul (Nat.le_of_lt hx) (Nat.le_of_lt (Nat.lt_trans a hx))
  omega
theorem gcd_done {x y : Nat} (h : y < x) (hb : x * y * 2 ^ 199 ≤ 2 ^ 126) : y = 0 := by
  rcases Nat.eq_zero_or_pos y with h0 | h0
  · exact h0
  · exfalso
    have a : 1 * 1 ≤ x * y := Nat.mul_le_mul (by omega) h0
    have c : 1 * 1 * 2 ^ 199 ≤ x * y * 2 ^ 199 := Nat.mul_le_mul_right _ a
    have d : (1 : Nat) * 1 * 2 ^ 199 ≤ 2 ^ 126 := Nat.le_trans c hb
    exact absurd d (by decide +kernel)
def gcdI (k x y : Nat) : Prop := k = 0 ∨ (y < x ∧ x * y * 2 ^ (k - 1) ≤ 2 ^ 126)
theorem gcdI_s {k x y : Nat} (hy : y < 2 ^ 63) (h0 : 0 < y) (h : gcdI k x y) : gcdI (k + 1) y (x % y) := by
  refine Or.inr ⟨Nat.mod_lt x h0, ?_⟩
  rw [Nat.add_sub_cancel]
  rcases h with h | ⟨h1, h2⟩
  · subst h; exact gcd_fuel0 hy h0
  · rcases Nat.eq_zero_or_pos k with hk | hk
    · subst hk; exact gcd_fuel0 hy h0
    · obtain ⟨j, rfl⟩ : ∃ j, k = j + 1 := ⟨k - 1, by omega⟩
      rw [Nat.add_sub_cancel] at h2
      exact gcd_fuel h0 h1 h2
theorem gcdI_done {k x y : Nat} (hk : 200 ≤ k) (hk2 : k ≤ 200) (h : gcdI k x y) : y = 0 := by
  obtain rfl : k = 200 := by omega
  rcases h with h | ⟨h1, h2⟩
  · omega
  · exact gcd_done h1 h2
theorem gcd_st {x y : Nat} (h0 : 0 < y) : Nat.gcd y (x % y) = Nat.gcd x y := by rw [Nat.gcd_comm, ← Nat.gcd_rec, Nat.gcd_comm]
set_option maxHeartbeats 4000000 in
set_option maxRecDepth 100000 in
theorem c_X3_greatestDivisor (l : Launch) (za zb : Int) (a b : Nat) (hza : za = (a : Int)) (hzb : zb = (b : Int)) (ha : a < 9223372036854775808) (hb0 : b < 9223372036854775808) : MetL l yX3_greatestDivisor wsX3_greatestDivisor (rmF 0 0) (SPc [.long (lI za), .long (lI zb)]) (Nat.gcd a b : Int) := by
  refine Met.ofW (cc := cX3_greatestDivisor) (maxL := 11) (ret := (some .long)) (by decide) rfl ?_
  intro p e s m args below meth c s₁ B hml hv
  obtain ⟨rfl, -⟩ := hv
  have hx := B.exec
  have hb := B.bytes
  have hr := B.returns
  have hts := atoms_spec (ws := wsX3_greatestDivisor) B.pre
  have hown : s.vm.findClass RX3 = some m.cls := findClass_of_methodNamed B.named
  have hlocks := B.notSynchronized
  have hl := lv_entry ([.long (lI za), .long (lI zb)]) (n := 11) (Nat.le_of_ble_eq_true rfl)
  rw [lg_entry_eq]
  generalize (lg_sl ([.long (lI za), .long (lI zb)]) ++ List.replicate (11 - (lg_sl ([.long (lI za), .long (lI zb)])).length) Slot.unset).toArray = ls at hl ⊢
  have hl : lv_has ls 11 [(0, .long (lI za)), (2, .long (lI zb))] := hl
  refine lv_lload_n hx hb dX3_greatestDivisor_0 rfl (lv_at hl 0 rfl) ?_
  refine lv_lstore (lv' := [(4, .long (lI za)), (0, .long (lI za)), (2, .long (lI zb))]) hx hb dX3_greatestDivisor_1 hl (by decide) rfl (fun ls hl => ?_)
  refine lv_lload_n hx hb dX3_greatestDivisor_3 rfl (lv_at hl 2 rfl) ?_
  refine lv_lstore (lv' := [(6, .long (lI zb)), (4, .long (lI za)), (0, .long (lI za)), (2, .long (lI zb))]) hx hb dX3_greatestDivisor_4 hl (by decide) rfl (fun ls hl => ?_)
  refine x_iconst hx hb dX3_greatestDivisor_6 ?_
  refine lv_istore (lv' := [(8, .int (zI 0)), (6, .long (lI zb)), (4, .long (lI za)), (0, .long (lI za)), (2, .long (lI zb))]) hx hb dX3_greatestDivisor_7 hl (by decide) rfl (fun ls hl => ?_)
  refine x_loop3 (fun (k : Nat) (x : Nat) (y : Nat) => (k ≤ 200) ∧ (x < 9223372036854775808) ∧ (y < 9223372036854775808) ∧ (Nat.gcd x y = Nat.gcd a b) ∧ (gcdI k x y)) (fun (k : Nat) (x : Nat) (y : Nat) => 200 - k) (fun (k : Nat) (x : Nat) (y : Nat) => [(8, .int (zI (k : Int))), (6, .long (lI (y : Int))), (4, .long (lI (x : Int)))]) (0) (a) (b) (show ((0) ≤ 200) ∧ ((a) < 9223372036854775808) ∧ ((b) < 9223372036854775808) ∧ (Nat.gcd (a) (b) = Nat.gcd a b) ∧ (gcdI (0) (a) (b)) from ⟨(Nat.zero_le _), (ha), (hb0), (rfl), (Or.inl rfl)⟩) (show lv_has ls 11 [(8, .int (zI ((0) : Int))), (6, .long (lI ((b) : Int))), (4, .long (lI ((a) : Int)))] from (lv_cons (x_at (lv_at hl 0 rfl) (by omega)) (lv_cons (x_atL (lv_at hl 1 rfl) (by omega)) (lv_cons (x_atL (lv_at hl 2 rfl) (by omega)) (lv_nil hl))))) (fun k x y ls hI9 hl ih9 => ?_)
  obtain ⟨hk, hx1, hy1, hg, hf⟩ : (k ≤ 200) ∧ (x < 9223372036854775808) ∧ (y < 9223372036854775808) ∧ (Nat.gcd x y = Nat.gcd a b) ∧ (gcdI k x y) := hI9
  have hl : lv_has ls 11 [(8, .int (zI (k : Int))), (6, .long (lI (y : Int))), (4, .long (lI (x : Int)))] := hl
  refine lv_iload hx hb dX3_greatestDivisor_9 (lv_at hl 0 rfl) ?_
  refine lv_sipush (v := zI 200) hx hb dX3_greatestDivisor_11 (by decide +kernel) ?_
  refine x_icmp_ge (tgt := 45) hx hb dX3_greatestDivisor_14 (by decide) (by omega) (fun h1 => ?_) (fun h2 => ?_)
  · have h0y : y = 0 := gcdI_done (by omega) hk hf
    refine lv_lload hx hb dX3_greatestDivisor_45 (lv_at hl 2 rfl) ?_
    exact x_retL hx hb hr (by rw [← hg, h0y, Nat.gcd_zero_right]) dX3_greatestDivisor_47 hlocks
  · refine lv_lload hx hb dX3_greatestDivisor_17 (lv_at hl 1 rfl) ?_
    refine lv_lconst (v := lI 0) hx hb dX3_greatestDivisor_19 (by decide +kernel) ?_
    refine x_lcmp hx hb (by omega) dX3_greatestDivisor_20 ?_
    refine x_if_eq (tgt := 45) hx hb dX3_greatestDivisor_21 (by decide) (x_cw _ _) (fun h3 => ?_) (fun h4 => ?_)
    · have h0y : y = 0 := by have h9 := (cmpZ_eq _ _).mp h3; omega
      refine lv_lload hx hb dX3_greatestDivisor_45 (lv_at hl 2 rfl) ?_
      exact x_retL hx hb hr (by rw [← hg, h0y, Nat.gcd_zero_right]) dX3_greatestDivisor_47 hlocks
    · have h0y : 0 < y := by rcases Nat.eq_zero_or_pos y with h9 | h9; exact absurd ((cmpZ_eq _ _).mpr (by omega)) h4; exact h9
      refine lv_lload hx hb dX3_greatestDivisor_24 (lv_at hl 2 rfl) ?_
      refine lv_lload hx hb dX3_greatestDivisor_26 (lv_at hl 1 rfl) ?_
      refine x_lrem hx hb (by omega) (by omega) dX3_greatestDivisor_28 ?_
      refine lv_lstore (lv' := [(9, .long (lI ((x : Int) % (y : Int)))), (8, .int (zI (k : Int))), (6, .long (lI (y : Int))), (4, .long (lI (x : Int)))]) hx hb dX3_greatestDivisor_29 hl (by decide) rfl (fun ls hl => ?_)
      refine lv_lload hx hb dX3_greatestDivisor_31 (lv_at hl 2 rfl) ?_
      refine lv_lstore (lv' := [(4, .long (lI (y : Int))), (9, .long (lI ((x : Int) % (y : Int)))), (8, .int (zI (k : Int))), (6, .long (lI (y : Int)))]) hx hb dX3_greatestDivisor_33 hl (by decide) rfl (fun ls hl => ?_)
      refine lv_lload hx hb dX3_greatestDivisor_35 (lv_at hl 1 rfl) ?_
      refine lv_lstore (lv' := [(6, .long (lI ((x : Int) % (y : Int)))), (4, .long (lI (y : Int))), (9, .long (lI ((x : Int) % (y : Int)))), (8, .int (zI (k : Int)))]) hx hb dX3_greatestDivisor_37 hl (by decide) rfl (fun ls hl => ?_)
      refine x_iinc (lv' := [(8, .int (zI ((k : Int) + 1))), (6, .long (lI ((x : Int) % (y : Int)))), (4, .long (lI (y : Int))), (9, .long (lI ((x : Int) % (y : Int))))]) (k := 3) hx hb dX3_greatestDivisor_39 hl rfl (by decide) rfl (fun ls hl => ?_)
      refine lv_goto (tgt := 9) hx hb dX3_greatestDivisor_42 (by decide) ?_
      exact ih9 (k + 1) (y) (x % y) ls (show ((k + 1) ≤ 200) ∧ ((y) < 9223372036854775808) ∧ ((x % y) < 9223372036854775808) ∧ (Nat.gcd (y) (x % y) = Nat.gcd a b) ∧ (gcdI (k + 1) (y) (x % y)) from ⟨(by omega), (hy1), (Nat.lt_trans (Nat.mod_lt x h0y) hy1), ((gcd_st h0y).trans hg), (gcdI_s hy1 h0y hf)⟩) (show 200 - (k + 1) < 200 - k from (by omega)) (lv_cons (x_at (lv_at hl 0 rfl) (by omega)) (lv_cons (x_atL (lv_at hl 1 rfl) (by rw [Int.natCast_emod])) (lv_cons (lv_at hl 2 rfl) (lv_nil hl))))
/-- one side of a fraction in lowest terms -/
def redN (a b : Nat) : Nat := a / Nat.gcd a b
set_option maxHeartbeats 4000000 in
set_option maxRecDepth 100000 in
theorem c_X3_reduced (l : Launch) (za zb : Int) (a b : Nat) (hza : za = (a : Int)) (hzb : zb = (b : Int)) (ha : a < 9223372036854775808) (hb0 : b < 9223372036854775808) (hab : 0 < a ∨ 0 < b) : MetL l yX3_reduced wsX3_reduced (rmF 1 30) (SPc [.long (lI za), .long (lI zb)]) (redN a b : Int) := by
  refine Met.ofW (cc := cX3_reduced) (maxL := 6) (ret := (some .long)) (by decide) rfl ?_
  intro p e s m args below meth c s₁ B hml hv
  obtain ⟨rfl, -⟩ := hv
  have hx := B.exec
  have hb := B.bytes
  have hr := B.returns
  have hts := atoms_spec (ws := wsX3_reduced) B.pre
  have hown : s.vm.findClass RX3 = some m.cls := findClass_of_methodNamed B.named
  have hlocks := B.notSynchronized
  have hl := lv_entry ([.long (lI za), .long (lI zb)]) (n := 6) (Nat.le_of_ble_eq_true rfl)
  rw [lg_entry_eq]
  generalize (lg_sl ([.long (lI za), .long (lI zb)]) ++ List.replicate (6 - (lg_sl ([.long (lI za), .long (lI zb)])).length) Slot.unset).toArray = ls at hl ⊢
  have hl : lv_has ls 6 [(0, .long (lI za)), (2, .long (lI zb))] := hl
  refine lv_lload_n hx hb dX3_reduced_0 rfl (lv_at hl 0 rfl) ?_
  refine lv_lload_n hx hb dX3_reduced_1 rfl (lv_at hl 1 rfl) ?_
  refine x_cL (va_runS (As := [.long (lI za), .long (lI zb)]) (rest := []) ⟨hx, hb, hml, hown, hts⟩ (c_X3_greatestDivisor l za zb (a) (b) (by omega) (by omega) (by omega) (by omega)) (va_cwS 2 hts gX3_reduced_X3_greatestDivisor rfl rfl rfl (by decide +kernel) ⟨Nat.le_of_ble_eq_true rfl, Nat.le_of_ble_eq_true rfl⟩) x_preS rfl rfl hl.1 rfl (lv_room (Nat.le_of_ble_eq_true rfl)) dX3_reduced_2 ⟨Nat.le_of_ble_eq_true rfl, Nat.le_of_ble_eq_true rfl⟩) ?_
  have hg0 : 0 < Nat.gcd a b := Nat.gcd_pos_iff.mpr hab
  have hg1 : Nat.gcd a b < 9223372036854775808 := by rcases hab with h | h; exact Nat.lt_of_le_of_lt (Nat.gcd_le_left b h) ha; exact Nat.lt_of_le_of_lt (Nat.gcd_le_right a h) hb0
  refine lv_lstore (lv' := [(4, .long (lI (Nat.gcd (a) (b) : Int))), (0, .long (lI za)), (2, .long (lI zb))]) hx hb dX3_reduced_5 hl (by decide) rfl (fun ls hl => ?_)
  refine lv_lload hx hb dX3_reduced_7 (lv_at hl 0 rfl) ?_
  refine lv_lconst (v := lI 0) hx hb dX3_reduced_9 (by decide +kernel) ?_
  refine x_lcmp hx hb (by omega) dX3_reduced_10 ?_
  refine x_if_ne (tgt := 18) hx hb dX3_reduced_11 (by decide) (x_cw _ _) (fun h1 => ?_) (fun h2 => ?_)
  · refine lv_lload_n hx hb dX3_reduced_18 rfl (lv_at hl 1 rfl) ?_
    refine lv_lload hx hb dX3_reduced_19 (lv_at hl 0 rfl) ?_
    refine x_ldiv hx hb (by omega) (by omega) dX3_reduced_21 ?_
    exact x_retL hx hb hr (by rw [hza, redN, Int.natCast_ediv]) dX3_reduced_22 hlocks
  · exact absurd ((cmpZ_eq _ _).mp h2) (by omega)
def hpZ (f la de : Int) : Int := if la - f + 1 < 1 ∨ min la de - f + 1 < 1 then 0 else 232792560 / (la - f + 1) * (min la de - f + 1)
set_option maxHeartbeats 4000000 in
set_option maxRecDepth 100000 in
theorem c_X1_hitParts (l : Launch) (f la de : Int) (hf : 1 ≤ f ∧ f ≤ 21) (hla : 0 ≤ la ∧ la ≤ 20) (hde : 0 ≤ de ∧ de ≤ 20) : MetL l yX1_hitParts wsX1_hitParts (rmF 1 21) (SPc [.int (zI f), .int (zI la), .int (zI de)]) (hpZ f la de) := by
  refine Met.ofW (cc := cX1_hitParts) (maxL := 5) (ret := (some .long)) (by decide) rfl ?_
  intro p e s m args below meth c s₁ B hml hv
  obtain ⟨rfl, -⟩ := hv
  have hx := B.exec
  have hb := B.bytes
  have hr := B.returns
  have hts := atoms_spec (ws := wsX1_hitParts) B.pre
  have hown : s.vm.findClass RX1 = some m.cls := findClass_of_methodNamed B.named
  have hlocks := B.notSynchronized
  have hl := lv_entry ([.int (zI f), .int (zI la), .int (zI de)]) (n := 5) (Nat.le_of_ble_eq_true rfl)
  rw [lg_entry_eq]
  generalize (lg_sl ([.int (zI f), .int (zI la), .int (zI de)]) ++ List.replicate (5 - (lg_sl ([.int (zI f), .int (zI la), .int (zI de)])).length) Slot.unset).toArray = ls at hl ⊢
  have hl : lv_has ls 5 [(0, .int (zI f)), (1, .int (zI la)), (2, .int (zI de))] := hl
  refine lv_iload_n hx hb dX1_hitParts_0 rfl (lv_at hl 1 rfl) ?_
  refine lv_iload_n hx hb dX1_hitParts_1 rfl (lv_at hl 0 rfl) ?_
  refine x_isub hx hb dX1_hitParts_2 ?_
  refine x_iconst hx hb dX1_hitParts_3 ?_
  refine x_iadd hx hb dX1_hitParts_4 ?_
  refine lv_istore_n (lv' := [(3, .int (zI ((la - f) + 1))), (0, .int (zI f)), (1, .int (zI la)), (2, .int (zI de))]) hx hb dX1_hitParts_5 rfl hl (by decide) rfl (fun ls hl => ?_)
  refine lv_iload_n hx hb dX1_hitParts_6 rfl (lv_at hl 2 rfl) ?_
  refine lv_iload_n hx hb dX1_hitParts_7 rfl (lv_at hl 3 rfl) ?_
  refine x_min (index := 51) (rest := []) hx hb hml hl hown hts (by decide +kernel) (Nat.le_of_ble_eq_true rfl) (by omega) (Nat.le_of_ble_eq_true rfl) ⟨Nat.le_of_ble_eq_true rfl, Nat.le_of_ble_eq_true rfl⟩ dX1_hitParts_8 ?_
  refine lv_iload_n hx hb dX1_hitParts_11 rfl (lv_at hl 1 rfl) ?_
  refine x_isub hx hb dX1_hitParts_12 ?_
  refine x_iconst hx hb dX1_hitParts_13 ?_
  refine x_iadd hx hb dX1_hitParts_14 ?_
  refine lv_istore (lv' := [(4, .int (zI (((min la de) - f) + 1))), (3, .int (zI ((la - f) + 1))), (0, .int (zI f)), (1, .int (zI la)), (2, .int (zI de))]) hx hb dX1_hitParts_15 hl (by decide) rfl (fun ls hl => ?_)
  refine lv_iload_n hx hb dX1_hitParts_17 rfl (lv_at hl 1 rfl) ?_
  refine x_iconst hx hb dX1_hitParts_18 ?_
  refine x_icmp_lt (tgt := 28) hx hb dX1_hitParts_19 (by decide) (by omega) (fun h1 => ?_) (fun h2 => ?_)
  · refine lv_lconst (v := lI 0) hx hb dX1_hitParts_28 (by decide +kernel) ?_
    refine lv_goto (tgt := 42) hx hb dX1_hitParts_29 (by decide) ?_
    exact x_retL hx hb hr (by rw [hpZ, if_pos (by omega)]) dX1_hitParts_42 hlocks
  · refine lv_iload hx hb dX1_hitParts_22 (lv_at hl 0 rfl) ?_
    refine x_iconst hx hb dX1_hitParts_24 ?_
    refine x_icmp_ge (tgt := 32) hx hb dX1_hitParts_25 (by decide) (by omega) (fun h3 => ?_) (fun h4 => ?_)
    · refine lv_ldc2 (v := lI 232792560) hx hb hown (by rw [show lI 232792560 = (232792560 : Int64) from by decide +kernel]; exact hts (.constantLong RX1 57 232792560) (by decide +kernel)) dX1_hitParts_32 ?_
      refine lv_iload_n hx hb dX1_hitParts_35 rfl (lv_at hl 1 rfl) ?_
      refine x_i2l hx hb (by omega) dX1_hitParts_36 ?_
      refine x_ldiv hx hb (by omega) (by omega) dX1_hitParts_37 ?_
      refine lv_iload hx hb dX1_hitParts_38 (lv_at hl 0 rfl) ?_
      refine x_i2l hx hb (by omega) dX1_hitParts_40 ?_
      refine x_lmul hx hb dX1_hitParts_41 ?_
      exact x_retL hx hb hr (by rw [hpZ, if_neg (by omega)]) dX1_hitParts_42 hlocks
    · refine lv_lconst (v := lI 0) hx hb dX1_hitParts_28 (by decide +kernel) ?_
      refine lv_goto (tgt := 42) hx hb dX1_hitParts_29 (by decide) ?_
      exact x_retL hx hb hr (by rw [hpZ, if_pos (by omega)]) dX1_hitParts_42 hlocks
