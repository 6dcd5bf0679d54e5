/-! ===== counting, the test's symmetry ===== -/
theorem cnt9_s (P : Nat → Bool) (lo n : Nat) : cnt9 P lo (n + 1) = cnt9 P lo n + (if P (lo + n) = true then 1 else 0) := rfl
theorem cnt9_app (P : Nat → Bool) (lo n : Nat) : ∀ k, cnt9 P lo (n + k) = cnt9 P lo n + cnt9 P (lo + n) k
  | 0 => rfl
  | k + 1 => by
    rw [← Nat.add_assoc, cnt9_s, cnt9_app P lo n k, cnt9_s, Nat.add_assoc lo n k]; omega
theorem cnt9_front (P : Nat → Bool) (lo n : Nat) : cnt9 P lo (n + 1) = (if P lo = true then 1 else 0) + cnt9 P (lo + 1) n := by
  rw [Nat.add_comm n 1, cnt9_app, cnt9_s]
  show 0 + _ + _ = _
  rw [Nat.add_zero, Nat.zero_add]
theorem cnt9_rev (P : Nat → Bool) : ∀ n lo : Nat, cnt9 (fun k => P (lo + n - 1 - k)) 0 n = cnt9 P lo n
  | 0, _ => rfl
  | n + 1, lo => by
    rw [cnt9_front P lo n, cnt9_s, ← cnt9_rev P n (lo + 1), Nat.add_comm]
    congr 1
    · rw [show lo + (n + 1) - 1 - (0 + n) = lo from by omega]
    · exact cnt9_congr (fun k hk => by rw [show lo + (n + 1) - 1 - (0 + k) = lo + 1 + n - 1 - (0 + k) from by omega])
theorem cnt9_full {P : Nat → Bool} {lo : Nat} : ∀ {n : Nat}, (∀ k, k < n → P (lo + k) = true) → cnt9 P lo n = n
  | 0, _ => rfl
  | n + 1, h => by rw [cnt9_t (h n (by omega)), cnt9_full (n := n) (fun k hk => h k (by omega))]
theorem cnt9_mono {P P' : Nat → Bool} {lo : Nat} : ∀ {n : Nat}, (∀ k, k < n → P (lo + k) = true → P' (lo + k) = true) → cnt9 P lo n ≤ cnt9 P' lo n
  | 0, _ => Nat.le_refl _
  | n + 1, h => by
    have a := cnt9_mono (P := P) (P' := P') (lo := lo) (n := n) (fun k hk => h k (by omega))
    have c := h n (by omega)
    rw [cnt9_s, cnt9_s]
    by_cases hp : P (lo + n) = true
    · rw [if_pos hp, if_pos (c hp)]; omega
    · rw [if_neg hp]; omega
theorem cnt9_more {P P' : Nat → Bool} {lo : Nat} : ∀ {n j : Nat}, (∀ k, k < n → P (lo + k) = true → P' (lo + k) = true) → j < n → ¬ P (lo + j) = true → P' (lo + j) = true → cnt9 P lo n + 1 ≤ cnt9 P' lo n
  | 0, _, _, hj, _, _ => absurd hj (Nat.not_lt_zero _)
  | n + 1, j, h, hj, h1, h2 => by
    rw [cnt9_s, cnt9_s]
    by_cases e : j = n
    · subst e
      have a := cnt9_mono (P := P) (P' := P') (lo := lo) (n := j) (fun k hk => h k (by omega))
      rw [if_neg h1, if_pos h2]; omega
    · have a := cnt9_more (P := P) (P' := P') (lo := lo) (n := n) (j := j) (fun k hk => h k (by omega)) (by omega) h1 h2
      have c := h n (by omega)
      by_cases hp : P (lo + n) = true
      · rw [if_pos hp, if_pos (c hp)]; omega
      · rw [if_neg hp]; omega
theorem cnt9_or {P Q R : Nat → Bool} {lo : Nat} : ∀ {n : Nat}, (∀ k, k < n → P (lo + k) = true → Q (lo + k) = true ∨ R (lo + k) = true) → cnt9 P lo n ≤ cnt9 Q lo n + cnt9 R lo n
  | 0, _ => Nat.zero_le _
  | n + 1, h => by
    have a := cnt9_or (P := P) (Q := Q) (R := R) (lo := lo) (n := n) (fun k hk => h k (by omega))
    have c := h n (by omega)
    rw [cnt9_s, cnt9_s, cnt9_s]
    by_cases hp : P (lo + n) = true
    · rw [if_pos hp]
      rcases c hp with c | c
      · rw [if_pos c]; split <;> omega
      · rw [if_pos c]; split <;> omega
    · rw [if_neg hp]; omega
theorem cnt9_one {P : Nat → Bool} {lo : Nat} (hu : ∀ i j, P i = true → P j = true → i = j) : ∀ n : Nat, cnt9 P lo n ≤ 1
  | 0 => Nat.zero_le _
  | n + 1 => by
    by_cases hp : P (lo + n) = true
    · rw [cnt9_t hp, cnt9_zero (n := n) (fun k hk h => by have := hu _ _ h hp; omega)]
      exact Nat.le_refl _
    · rw [cnt9_f hp]; exact cnt9_one hu n
theorem sum9_neg (g : Nat → Int) (lo : Nat) : ∀ n, sum9 (fun k => -(g k)) lo n = -(sum9 g lo n)
  | 0 => rfl
  | n + 1 => by rw [sum9_s, sum9_s, sum9_neg g lo n]; omega
theorem sum9_le {g h : Nat → Int} {lo : Nat} : ∀ {n : Nat}, (∀ k, k < n → g (lo + k) ≤ h (lo + k)) → sum9 g lo n ≤ sum9 h lo n
  | 0, _ => Int.le_refl _
  | n + 1, hh => by
    have a := sum9_le (g := g) (h := h) (lo := lo) (n := n) (fun k hk => hh k (by omega))
    have c := hh n (by omega)
    rw [sum9_s, sum9_s]; omega
theorem sx_bit : ∀ e : Fin 256, ∀ q : Fin 8, ((255 - e.val) / 2 ^ q.val % 2 = 1 ↔ ¬ e.val / 2 ^ q.val % 2 = 1) := by decide +kernel
theorem sxZ_rev (df : Nat → Int) {e : Nat} (he : e < 256) : sxZ df (255 - e) = -(sxZ df e) := by
  unfold sxZ
  rw [← sum9_neg]
  refine sum9_congr (fun k hk => ?_)
  rw [Nat.zero_add]
  have h := sx_bit ⟨e, he⟩ ⟨k, hk⟩
  simp only [] at h
  unfold sxT
  by_cases h1 : e / 2 ^ k % 2 = 1
  · rw [if_pos h1, if_neg (fun x => (h.mp x) h1)]; omega
  · rw [if_neg h1, if_pos (h.mpr h1)]
theorem sxZ_ng {df g : Nat → Int} (h : ∀ j, j < 8 → g j = -(df j)) (e : Nat) : sxZ g e = -(sxZ df e) := by
  unfold sxZ
  rw [← sum9_neg]
  refine sum9_congr (fun k hk => ?_)
  rw [Nat.zero_add]
  unfold sxT
  rw [h k hk]
  split <;> omega
theorem max_ng (x : Int) : max (-x) (-(-x)) = max x (-x) := by omega
theorem tsP_rev (df : Nat → Int) {e : Nat} (he : e < 256) : tsP df (255 - e) = tsP df e := by
  unfold tsP
  rw [sxZ_rev df he, max_ng]
theorem tsN_ng {df g : Nat → Int} (h : ∀ j, j < 8 → g j = -(df j)) : tsN g = tsN df := cnt9_congr (fun k _ => by
  unfold tsP
  rw [sxZ_ng h, sxZ_ng h, max_ng, max_ng])
theorem tsN_two (df : Nat → Int) : tsN df = 2 * cnt9 (tsP df) 0 128 := by
  have h1 : tsN df = cnt9 (tsP df) 0 128 + cnt9 (tsP df) (0 + 128) 128 := cnt9_app (tsP df) 0 128 128
  have h2 := cnt9_rev (tsP df) 128 128
  have h3 : cnt9 (fun k => tsP df (128 + 128 - 1 - k)) 0 128 = cnt9 (tsP df) 0 128 := cnt9_congr (fun k hk => by
    rw [Nat.zero_add]
    exact tsP_rev df (e := k) (by omega))
  rw [Nat.zero_add] at h1
  omega
theorem tsP_0 (df : Nat → Int) : tsP df 0 = true := by
  unfold tsP
  exact decide_eq_true (Int.le_refl _)
theorem tsN_rng (df : Nat → Int) : 2 ≤ tsN df ∧ tsN df ≤ 256 ∧ tsN df % 2 = 0 := by
  have h1 := tsN_two df
  have h2 : 0 < cnt9 (tsP df) 0 128 := cnt9_pos (k := 0) (by omega) (tsP_0 df)
  have h3 := cnt9_le (tsP df) 0 128
  omega
theorem tsN_0 {df : Nat → Int} (h : sxZ df 0 = 0) : tsN df = 256 := cnt9_full (fun k _ => by
  unfold tsP
  rw [h]
  exact decide_eq_true (by omega))
theorem dfZ_ng (b : XB) (y1 y2 d : Nat) : ∀ j, j < 8 → dfZ b y2 y1 d j = -(dfZ b y1 y2 d j) := fun j _ => by unfold dfZ; omega
theorem tt_sum (b : XB) (y1 y2 d : Nat) : sxZ (dfZ b y2 y1 d) 0 = -(sxZ (dfZ b y1 y2 d) 0) := sxZ_ng (dfZ_ng b y1 y2 d) 0
theorem tt_test (b : XB) (y1 y2 d : Nat) : tsN (dfZ b y2 y1 d) = tsN (dfZ b y1 y2 d) := tsN_ng (dfZ_ng b y1 y2 d)
theorem tt_same (b : XB) (y d : Nat) : tsN (dfZ b y y d) = 256 := tsN_0 (by
  have := tt_sum b y y d
  omega)
/-! ===== fractions in lowest terms ===== -/
theorem red_0 {a b : Nat} (hb : 0 < b) : 0 < Nat.gcd a b := Nat.gcd_pos_of_pos_right _ hb
theorem red_x {a b : Nat} (hb : 0 < b) : redN a b * b = a * redN b a := by
  unfold redN
  rw [Nat.gcd_comm b a]
  have ha := Nat.div_mul_cancel (Nat.gcd_dvd_left a b)
  have hc := Nat.div_mul_cancel (Nat.gcd_dvd_right a b)
  generalize hg : Nat.gcd a b = g at *
  generalize a / g = x at *
  generalize b / g = y at *
  subst ha
  subst hc
  rw [Nat.mul_assoc, Nat.mul_comm y g]
theorem red_g {a b : Nat} (hb : 0 < b) : Nat.gcd (redN a b) (redN b a) = 1 := by
  unfold redN
  rw [Nat.gcd_comm b a]
  exact Nat.gcd_div_gcd_div_gcd_of_pos_right hb
theorem red_le {a b : Nat} (h : a ≤ b) : redN a b ≤ redN b a := by
  unfold redN
  rw [Nat.gcd_comm b a]
  exact Nat.div_le_div_right h
theorem red_pos {a b : Nat} (hb : 0 < b) : 0 < redN b a := by
  unfold redN
  exact Nat.div_pos (Nat.le_of_dvd hb (Nat.gcd_dvd_left b a)) (Nat.gcd_pos_of_pos_left _ hb)
theorem red_b (a b : Nat) : redN a b ≤ a := Nat.div_le_self _ _
theorem red_z {b : Nat} : redN 0 b = 0 := Nat.zero_div _
