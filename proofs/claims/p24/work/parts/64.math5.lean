/-! ===== the pool ===== -/
/-- f's first m values have d -/
def hasN (f : Nat → Nat) : Nat → Nat → Bool
  | 0, _ => false
  | m + 1, d => hasN f m d || decide (f m = d)
theorem hasN_t {f : Nat → Nat} {d : Nat} : ∀ {m k : Nat}, k < m → f k = d → hasN f m d = true
  | m + 1, k, hk, h => by
    unfold hasN
    by_cases e : k = m
    · subst e; rw [decide_eq_true h, Bool.or_true]
    · rw [hasN_t (m := m) (k := k) (by omega) h, Bool.true_or]
theorem hasN_le (f : Nat → Nat) (lo n : Nat) : ∀ m, cnt9 (hasN f m) lo n ≤ m
  | 0 => by rw [cnt9_zero (fun k _ h => by cases h)]; exact Nat.le_refl _
  | m + 1 => by
    have a := hasN_le f lo n m
    have c := cnt9_one (P := fun d => decide (f m = d)) (lo := lo) (fun i j h1 h2 => (of_decide_eq_true h1).symm.trans (of_decide_eq_true h2)) n
    have u := cnt9_or (P := hasN f (m + 1)) (Q := hasN f m) (R := fun d => decide (f m = d)) (lo := lo) (n := n) (fun k _ h => by
      unfold hasN at h
      exact (Bool.or_eq_true _ _).mp h)
    omega
def plY (b : XB) (q : Nat) (de : Int) (y k : Nat) : Bool := decide (¬ rk b q y (k : Int) = -1 ∧ rk b q y (k : Int) ≤ de)
theorem rk_in {b : XB} {q y k : Nat} {de : Int} (h : ¬ rk b q y (k : Int) = -1) (h2 : rk b q y (k : Int) ≤ de) : ∃ j, j < min (bN b q y) de.toNat ∧ bD b q y j = k := by
  unfold rk at h h2
  split at h
  · rename_i hf
    rw [if_pos hf] at h2
    have hat := fst9_at (fun i => decide ((bD b q y i : Int) = (k : Int))) (bN b q y) 0 (by omega)
    have hat := of_decide_eq_true hat
    exact ⟨fst9 (fun i => decide ((bD b q y i : Int) = (k : Int))) 0 (bN b q y), by omega, by omega⟩
  · exact absurd rfl h
theorem plY_le (b : XB) (q y : Nat) (de : Int) : cnt9 (plY b q de y) 0 40 ≤ min (bN b q y) de.toNat := by
  refine Nat.le_trans (cnt9_mono (P' := hasN (bD b q y) (min (bN b q y) de.toNat)) (fun k _ h => ?_)) (hasN_le (bD b q y) 0 40 _)
  have h := of_decide_eq_true h
  obtain ⟨j, h1, h2⟩ := rk_in h.1 h.2
  exact hasN_t h1 h2
/-- the sum of the runs' first places, over the first n systems -/
def plS (b : XB) (q d : Nat) : Nat → Nat
  | 0 => 0
  | n + 1 => plS b q d n + min (bN b q n) d
theorem plS_4 (b : XB) (q d : Nat) : plS b q d 4 = min (bN b q 0) d + min (bN b q 1) d + min (bN b q 2) d + min (bN b q 3) d := by
  show 0 + min (bN b q 0) d + min (bN b q 1) d + min (bN b q 2) d + min (bN b q 3) d = _
  omega
theorem plS_le (b : XB) (q : Nat) {d : Nat} (hd : d ≤ 20) : ∀ n, plS b q d n ≤ 20 * n
  | 0 => Nat.le_refl _
  | n + 1 => by
    have := plS_le b q hd n
    unfold plS
    omega
theorem pool_or {b : XB} {q k : Nat} {de : Int} (h : pldB b q (k : Int) de = true) : plY b q de 0 k = true ∨ plY b q de 1 k = true ∨ plY b q de 2 k = true ∨ plY b q de 3 k = true := by
  unfold pldB at h
  obtain ⟨y, hy, h⟩ := List.any_eq_true.mp h
  have hy := List.mem_range.mp hy
  have h : plY b q de y k = true := h
  match y, hy with
  | 0, _ => exact Or.inl h
  | 1, _ => exact Or.inr (Or.inl h)
  | 2, _ => exact Or.inr (Or.inr (Or.inl h))
  | 3, _ => exact Or.inr (Or.inr (Or.inr h))
theorem pool_le (b : XB) (q d : Nat) : poolN b q (d : Int) ≤ plS b q d 4 ∧ poolN b q (d : Int) ≤ 40 := by
  refine ⟨?_, cnt9_le _ _ _⟩
  have a0 := plY_le b q 0 (d : Int)
  have a1 := plY_le b q 1 (d : Int)
  have a2 := plY_le b q 2 (d : Int)
  have a3 := plY_le b q 3 (d : Int)
  rw [Int.toNat_natCast] at a0 a1 a2 a3
  have u3 := cnt9_or (P := fun k => plY b q (d : Int) 2 k || plY b q (d : Int) 3 k) (Q := plY b q (d : Int) 2) (R := plY b q (d : Int) 3) (lo := 0) (n := 40) (fun k _ h => (Bool.or_eq_true _ _).mp h)
  have u2 := cnt9_or (P := fun k => plY b q (d : Int) 1 k || (plY b q (d : Int) 2 k || plY b q (d : Int) 3 k)) (Q := plY b q (d : Int) 1) (R := fun k => plY b q (d : Int) 2 k || plY b q (d : Int) 3 k) (lo := 0) (n := 40) (fun k _ h => (Bool.or_eq_true _ _).mp h)
  have u1 := cnt9_or (P := fun k => pldB b q (k : Int) (d : Int)) (Q := plY b q (d : Int) 0) (R := fun k => plY b q (d : Int) 1 k || (plY b q (d : Int) 2 k || plY b q (d : Int) 3 k)) (lo := 0) (n := 40) (fun k _ h => by
    rcases pool_or h with h | h | h | h
    · exact Or.inl h
    · exact Or.inr (by rw [h]; rfl)
    · exact Or.inr (by rw [h, Bool.true_or, Bool.or_true])
    · exact Or.inr (by rw [h, Bool.or_true, Bool.or_true]))
  rw [plS_4]
  show cnt9 (fun k => pldB b q (k : Int) (d : Int)) 0 40 ≤ _
  omega
theorem pool_pos {b : XB} (hi : bInv b) {q y d : Nat} (hy : y < 4) (hd : 1 ≤ d) (h : 0 < bN b q y) : 0 < poolN b q (d : Int) := by
  have e : rk b q y (bD b q y 0 : Int) = ((0 : Nat) : Int) + 1 := rk_at h (fun j hj => absurd hj (Nat.not_lt_zero _)) rfl
  refine cnt9_pos (k := bD b q y 0) (hi.d q y 0) ?_
  rw [Nat.zero_add]
  exact pld_t hy (by omega) (by omega)
theorem pool_iff {b : XB} (hi : bInv b) {q d : Nat} (hd : 1 ≤ d) : plS b q d 4 = 0 ↔ poolN b q (d : Int) = 0 := by
  refine ⟨fun h => by have := (pool_le b q d).1; omega, fun h => ?_⟩
  have key : ∀ y, y < 4 → bN b q y = 0 := fun y hy => by
    rcases Nat.eq_zero_or_pos (bN b q y) with g | g
    · exact g
    · have := pool_pos hi (q := q) hy hd g; omega
  have k0 := key 0 (by omega)
  have k1 := key 1 (by omega)
  have k2 := key 2 (by omega)
  have k3 := key 3 (by omega)
  rw [plS_4]
  omega
theorem fu_rng (b : XB) (q : Nat) (de : Int) : -1 ≤ fuZ b q de ∧ fuZ b q de < 40 := by
  unfold fuZ
  split <;> omega
theorem fu_pos {b : XB} {q : Nat} {de : Int} (h : ¬ fuZ b q de = -1) : 0 < poolN b q de := by
  unfold fuZ at h
  split at h
  · rename_i hf
    have hat := fst9_at (fuP b q de) 40 0 (by omega)
    unfold fuP at hat
    have hat := ((Bool.and_eq_true _ _).mp hat).2
    exact cnt9_pos (k := fst9 (fuP b q de) 0 40) hf (by rw [Nat.zero_add]; exact hat)
  · exact absurd rfl h
/-! ===== the best system ===== -/
theorem sh_le {b : XB} (hi : bInv b) (y : Nat) {de : Int} (hd : 0 ≤ de) : 0 ≤ shP b y de ∧ shP b y de ≤ 232792560 * de * (frN b y : Int) := by
  refine ⟨(shP_bd hi y de).1, ?_⟩
  unfold shP frN
  rw [← sum9_cnt (g := fun q => if decide (0 < bN b q y) = true then 232792560 * de else 0) (P := fun q => decide (0 < bN b q y)) (B := 232792560 * de) (lo := 0) (n := 8) (fun k _ => rfl)]
  refine sum9_le (fun k _ => ?_)
  have a := mh_le hi (0 + k) y hd
  show mhZ b (0 + k) y de ≤ if decide (0 < bN b (0 + k) y) = true then 232792560 * de else 0
  by_cases h : 0 < bN b (0 + k) y
  · rw [if_pos (decide_eq_true h)]; omega
  · rw [if_neg (by simp only [decide_eq_true_eq]; exact h)]; omega
theorem sh_sw {b : XB} (hi : bInv b) (y : Nat) {de : Int} (hd : 1 ≤ de) : 0 ≤ shP b y de ∧ shP b y de ≤ swZ b y de := by
  have a := sh_le hi y (de := de) (by omega)
  refine ⟨a.1, ?_⟩
  unfold swZ
  split
  · rename_i h
    rw [h] at a
    rw [show ((0 : Nat) : Int) = 0 from rfl, Int.mul_zero] at a
    omega
  · exact a.2
/-- so far no system has more than the best one -/
theorem bst_inv {b : XB} (hi : bInv b) {de : Int} (hd : 1 ≤ de) : ∀ k, 1 ≤ (bstAt b de k).2.2 ∧ 0 ≤ (bstAt b de k).2.1 ∧ ((bstAt b de k).2.1 = 0 ∨ ((bstAt b de k).2.1 = shP b (bstAt b de k).1 de ∧ (bstAt b de k).2.2 = (frN b (bstAt b de k).1 : Int))) ∧ ∀ j, j < k → shP b j de * (bstAt b de k).2.2 ≤ (bstAt b de k).2.1 * (frN b j : Int)
  | 0 => ⟨Int.le_refl _, Int.le_refl _, Or.inl rfl, fun j hj => absurd hj (Nat.not_lt_zero _)⟩
  | k + 1 => by
    have ih := bst_inv hi hd k
    have hs := sh_le hi k (de := de) (by omega)
    unfold bstAt
    generalize bstAt b de k = t at *
    obtain ⟨s, P, R⟩ := t
    simp only [] at ih ⊢
    split
    · rename_i h
      simp only [] at h ⊢
      have hP : 0 ≤ P * (frN b k : Int) := Int.mul_nonneg ih.2.1 (by omega)
      have h0 : 0 < shP b k de := by
        rcases Int.lt_or_le 0 (shP b k de) with g | g
        · exact g
        · have : shP b k de = 0 := by omega
          rw [this, Int.zero_mul] at h
          omega
      have hf : 1 ≤ (frN b k : Int) := by
        rcases Nat.eq_zero_or_pos (frN b k) with g | g
        · rw [g, show ((0 : Nat) : Int) = 0 from rfl, Int.mul_zero] at hs; omega
        · omega
      refine ⟨hf, hs.1, Or.inr (by simp), fun j hj => ?_⟩
      by_cases e : j = k
      · subst e; exact Int.le_refl _
      · have h1 := ih.2.2.2 j (by omega)
        refine Int.le_of_mul_le_mul_right (a := R) ?_ (by omega)
        have a1 : shP b j de * R * (frN b k : Int) ≤ P * (frN b j : Int) * (frN b k : Int) := Int.mul_le_mul_of_nonneg_right h1 (by omega)
        have a2 : P * (frN b k : Int) * (frN b j : Int) ≤ shP b k de * R * (frN b j : Int) := Int.mul_le_mul_of_nonneg_right (Int.le_of_lt h) (by omega)
        rw [Int.mul_right_comm] at a1
        rw [Int.mul_right_comm P] at a1
        rw [Int.mul_right_comm (shP b k de)] at a2
        exact Int.le_trans a1 a2
    · rename_i h
      refine ⟨ih.1, ih.2.1, ih.2.2.1, fun j hj => ?_⟩
      by_cases e : j = k
      · subst e; exact Int.not_lt.mp h
      · exact ih.2.2.2 j (by omega)
theorem best_lt {b : XB} (hi : bInv b) (de : Int) : bestN b de < 4 := by
  have key : ∀ k, 1 ≤ k → (bstAt b de k).1 < k := fun k => by
    induction k with
    | zero => intro h; omega
    | succ k ih =>
      intro _
      unfold bstAt
      split
      · exact Nat.lt_succ_self _
      · rcases Nat.eq_zero_or_pos k with h | h
        · subst h; exact Nat.zero_lt_one
        · have := ih h; omega
  exact key 4 (by omega)
theorem best_x {b : XB} (hi : bInv b) {de : Int} (hd : 1 ≤ de) {y : Nat} (hy : y < 4) : shP b y de * swZ b (bestN b de) de ≤ shP b (bestN b de) de * swZ b y de := by
  obtain ⟨h1, h2, h3, h4⟩ := bst_inv hi hd 4
  have h4 := h4 y hy
  have hs := sh_le hi y (de := de) (by omega)
  have hw := (sh_le hi (bestN b de) (de := de) (by omega)).1
  have hz : shP b y de = 0 → shP b y de * swZ b (bestN b de) de ≤ shP b (bestN b de) de * swZ b y de := fun e => by
    rw [e, Int.zero_mul]
    refine Int.mul_nonneg hw ?_
    unfold swZ
    split
    · omega
    · exact Int.mul_nonneg (Int.mul_nonneg (by omega) (by omega)) (by omega)
  rcases h3 with h3 | ⟨h3, h5⟩
  · rw [h3, Int.zero_mul] at h4
    apply hz
    rcases Int.lt_or_le 0 (shP b y de) with g | g
    · have := Int.mul_pos g (show 0 < (bstAt b de 4).2.2 by omega)
      omega
    · omega
  · rcases Nat.eq_zero_or_pos (frN b y) with g | g
    · apply hz
      rw [g, show ((0 : Nat) : Int) = 0 from rfl, Int.mul_zero] at hs
      omega
    · rw [h3, h5] at h4
      have h4 : shP b y de * (frN b (bestN b de) : Int) ≤ shP b (bestN b de) de * (frN b y : Int) := h4
      have h5 : (1 : Int) ≤ (frN b (bestN b de) : Int) := by
        have e : (bstAt b de 4).2.2 = (frN b (bestN b de) : Int) := h5
        omega
      unfold swZ
      rw [if_neg (by omega), if_neg (by omega)]
      have a := Int.mul_le_mul_of_nonneg_left h4 (show (0 : Int) ≤ 232792560 * de by omega)
      generalize 232792560 * de = M at *
      rw [Int.mul_left_comm, Int.mul_left_comm (shP b (bestN b de) de)]
      exact a
theorem div_x {x y u v : Nat} (hy : 0 < y) (hv : 0 < v) (h : x * v ≤ u * y) (K : Nat) : K * x / y ≤ K * u / v := by
  rw [Nat.le_div_iff_mul_le hv]
  have h1 : K * x / y * y ≤ K * x := Nat.div_mul_le_self _ _
  have h2 : K * x / y * y * v ≤ K * x * v := Nat.mul_le_mul_right _ h1
  have h3 : K * (x * v) ≤ K * (u * y) := Nat.mul_le_mul_left _ h
  refine Nat.le_of_mul_le_mul_right (c := y) ?_ hy
  rw [Nat.mul_right_comm]
  refine Nat.le_trans h2 ?_
  rw [Nat.mul_assoc, Nat.mul_assoc]
  exact h3
/-- fractions in lowest terms compare as what they come from -/
theorem red_cmp {a c A C : Nat} (hc : 0 < c) (hC : 0 < C) (h : a * C ≤ A * c) : redN a c * redN C A ≤ redN A C * redN c a := by
  have e1 := red_x (a := a) hc
  have e2 := red_x (a := A) hC
  refine Nat.le_of_mul_le_mul_right (c := c * C) ?_ (Nat.mul_pos hc hC)
  have l : redN a c * redN C A * (c * C) = (redN a c * c) * (redN C A * C) := by
    rw [Nat.mul_assoc, Nat.mul_assoc, Nat.mul_left_comm (redN C A)]
  have r : redN A C * redN c a * (c * C) = (redN A C * C) * (redN c a * c) := by
    rw [Nat.mul_assoc, Nat.mul_assoc, Nat.mul_comm c C, Nat.mul_left_comm (redN c a)]
  rw [l, r, e1, e2]
  have h9 : (a * C) * (redN c a * redN C A) ≤ (A * c) * (redN c a * redN C A) := Nat.mul_le_mul_right _ h
  have l2 : a * redN c a * (redN C A * C) = (a * C) * (redN c a * redN C A) := by
    rw [Nat.mul_assoc, Nat.mul_assoc, Nat.mul_comm (redN C A) C, Nat.mul_left_comm (redN c a)]
  have r2 : A * redN C A * (redN c a * c) = (A * c) * (redN c a * redN C A) := by
    rw [Nat.mul_assoc, Nat.mul_assoc, Nat.mul_comm (redN c a) c, Nat.mul_left_comm (redN C A), Nat.mul_comm (redN C A)]
  rw [l2, r2]
  exact h9
