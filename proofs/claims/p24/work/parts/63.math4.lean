/-! ===== the mean of the hits: over all places it is the depth's, at depth 20 it is the hits ===== -/
theorem pd_x {m : Int} (h1 : 1 ≤ m) (h2 : m ≤ 20) : (232792560 : Int) / m * m = 232792560 := by
  obtain ⟨k, rfl⟩ : ∃ k : Nat, m = (k : Int) := ⟨m.toNat, by omega⟩
  have key : ∀ i : Fin 21, 1 ≤ i.val → (232792560 : Int) / (i.val : Int) * (i.val : Int) = 232792560 := by decide +kernel
  exact key ⟨k, by omega⟩ (show 1 ≤ k from by omega)
theorem tE_same {sc : Nat → Nat} {n k : Nat} (h : k + 1 < n) (he : sc (k + 1) = sc k) : tE sc n k = tE sc n (k + 1) := by
  unfold tE
  rw [show n - (k + 1) = (n - (k + 1 + 1)) + 1 from by omega]
  rw [fst9, if_neg (by simp [he])]
theorem tE_next {sc : Nat → Nat} {n k : Nat} (h : k + 1 < n) (he : ¬ sc (k + 1) = sc k) : tE sc n k = k + 1 := tE_at (by omega) (by omega) (fun j a c => absurd a (by omega)) (Or.inr he)
def hpK (sc : Nat → Nat) (n : Nat) (de : Int) (k : Nat) : Int := hpZ ((tS sc k : Int) + 1) (tE sc n k : Int) de
def hpX (S E : Nat) (de : Int) : Int := 232792560 / ((E : Int) - (S : Int)) * max 0 (min (E : Int) de - (S : Int))
theorem hp_form {S E : Nat} (de : Int) (h : S < E) : hpZ ((S : Int) + 1) (E : Int) de = hpX S E de := by
  unfold hpZ hpX
  rw [show (E : Int) - ((S : Int) + 1) + 1 = (E : Int) - (S : Int) from by omega, show min (E : Int) de - ((S : Int) + 1) + 1 = min (E : Int) de - (S : Int) from by omega]
  split
  · rw [show max 0 (min (E : Int) de - (S : Int)) = 0 from by omega, Int.mul_zero]
  · rw [show max 0 (min (E : Int) de - (S : Int)) = min (E : Int) de - (S : Int) from by omega]
theorem hpX_m {S E : Nat} {de : Int} (h : S < E) (h2 : E ≤ 20) : hpX S E de * ((E : Int) - (S : Int)) = 232792560 * max 0 (min (E : Int) de - (S : Int)) := by
  unfold hpX
  rw [Int.mul_right_comm, pd_x (by omega) (by omega)]
theorem hp_sum (sc : Nat → Nat) {n : Nat} (hn : n ≤ 20) {de : Int} (hd : 0 ≤ de) : ∀ k, k < n → sum9 (hpK sc n de) 0 k = 232792560 * min (tS sc k : Int) de + hpX (tS sc k) (tE sc n k) de * ((k : Int) - (tS sc k : Int))
  | 0, _ => by
    rw [show tS sc 0 = 0 from rfl, show sum9 (hpK sc n de) 0 0 = 0 from rfl, show min ((0 : Nat) : Int) de = 0 from by omega, show ((0 : Nat) : Int) - ((0 : Nat) : Int) = 0 from by omega, Int.mul_zero, Int.mul_zero]
    rfl
  | k + 1, hk => by
    have ih := hp_sum sc hn hd k (by omega)
    have hs := tS_le sc k
    have hE := tE_rng sc (n := n) (i := k) (by omega)
    rw [sum9_s, ih, Nat.zero_add, show hpK sc n de k = hpX (tS sc k) (tE sc n k) de from hp_form de (by omega)]
    by_cases he : sc (k + 1) = sc k
    · rw [← tE_same hk he, show tS sc (k + 1) = tS sc k from by rw [tS, if_pos he.symm]]
      generalize hpX (tS sc k) (tE sc n k) de = X
      rw [show ((k + 1 : Nat) : Int) - (tS sc k : Int) = ((k : Int) - (tS sc k : Int)) + 1 from by omega, Int.mul_add, Int.mul_one, Int.add_assoc]
    · have e1 := tE_next hk he
      have e2 : tS sc (k + 1) = k + 1 := by rw [tS, if_neg (fun x => he x.symm)]
      have hm := hpX_m (S := tS sc k) (E := tE sc n k) (de := de) (by omega) (by omega)
      rw [e2, show ((k + 1 : Nat) : Int) - ((k + 1 : Nat) : Int) = 0 from by omega, Int.mul_zero, Int.add_zero]
      rw [e1] at hm ⊢
      rw [show ((k + 1 : Nat) : Int) - (tS sc k : Int) = ((k : Int) - (tS sc k : Int)) + 1 from by omega, Int.mul_add, Int.mul_one] at hm
      generalize hpX (tS sc k) (k + 1) de * ((k : Int) - (tS sc k : Int)) = Y at *
      omega
theorem hp_total (sc : Nat → Nat) {n : Nat} (hn : n ≤ 20) {de : Int} (hd : 0 ≤ de) : sum9 (hpK sc n de) 0 n = 232792560 * min (n : Int) de := by
  rcases Nat.eq_zero_or_pos n with h0 | h0
  · subst h0
    rw [show min ((0 : Nat) : Int) de = 0 from by omega]
    rfl
  · obtain ⟨k, rfl⟩ : ∃ k, n = k + 1 := ⟨n - 1, by omega⟩
    have hs := tS_le sc k
    have hE := tE_rng sc (n := k + 1) (i := k) (by omega)
    have hm := hpX_m (S := tS sc k) (E := tE sc (k + 1) k) (de := de) (by omega) (by omega)
    rw [sum9_s, hp_sum sc hn hd k (by omega), Nat.zero_add, show hpK sc (k + 1) de k = hpX (tS sc k) (tE sc (k + 1) k) de from hp_form de (by omega)]
    rw [show tE sc (k + 1) k = k + 1 from by omega] at hm ⊢
    rw [show ((k + 1 : Nat) : Int) - (tS sc k : Int) = ((k : Int) - (tS sc k : Int)) + 1 from by omega, Int.mul_add, Int.mul_one] at hm
    generalize hpX (tS sc k) (k + 1) de * ((k : Int) - (tS sc k : Int)) = Y at *
    omega
theorem mh_le {b : XB} (hi : bInv b) (q y : Nat) {de : Int} (hd : 0 ≤ de) : 0 ≤ mhZ b q y de ∧ mhZ b q y de ≤ 232792560 * min (bN b q y : Int) de := by
  refine ⟨(mhZ_bd hi q y de).1, ?_⟩
  rw [← hp_total (bS b q y) (hi.n q y) hd]
  refine sum9_le (fun k _ => ?_)
  unfold mhT hpK
  split
  · exact Int.le_refl _
  · exact (hpZ_bd _ _ _).1
theorem sum9_cnt {g : Nat → Int} {P : Nat → Bool} {B : Int} {lo : Nat} : ∀ {n : Nat}, (∀ k, k < n → g (lo + k) = if P (lo + k) = true then B else 0) → sum9 g lo n = B * (cnt9 P lo n : Int)
  | 0, _ => by rw [show sum9 g lo 0 = 0 from rfl, show cnt9 P lo 0 = 0 from rfl]; simp
  | n + 1, h => by
    rw [sum9_s, sum9_cnt (n := n) (fun k hk => h k (by omega)), h n (by omega), cnt9_s]
    split
    · rw [show ((cnt9 P lo n + 1 : Nat) : Int) = (cnt9 P lo n : Int) + 1 from by omega, Int.mul_add, Int.mul_one]
    · rw [Int.add_zero, Nat.add_zero]
theorem mh_20 {b : XB} (hi : bInv b) (q y : Nat) : mhZ b q y 20 = 232792560 * (relN b q y 0 20 : Int) := by
  have hn := hi.n q y
  unfold relN
  rw [Nat.min_eq_right hn, Nat.sub_zero]
  refine sum9_cnt (fun k hk => ?_)
  rw [Nat.zero_add]
  have hs := tS_le (bS b q y) k
  have hE := tE_rng (bS b q y) (n := bN b q y) (i := k) hk
  unfold mhT
  split
  · rw [hp_form 20 (by omega)]
    unfold hpX
    rw [show max 0 (min (tE (bS b q y) (bN b q y) k : Int) 20 - (tS (bS b q y) k : Int)) = (tE (bS b q y) (bN b q y) k : Int) - (tS (bS b q y) k : Int) from by omega]
    exact pd_x (by omega) (by omega)
  · rfl
/-! ===== hits ===== -/
theorem rel_app (b : XB) (q y : Nat) {d d' : Nat} (h : d ≤ d') : relN b q y 0 d ≤ relN b q y 0 d' := by
  unfold relN
  rw [Nat.sub_zero, Nat.sub_zero, show min d' (bN b q y) = min d (bN b q y) + (min d' (bN b q y) - min d (bN b q y)) from by omega, cnt9_app]
  omega
theorem rel_n (b : XB) (q y d : Nat) : relN b q y 0 d ≤ bN b q y ∧ relN b q y 0 d ≤ d := by
  have := cnt9_le (relP b q y) 0 (min d (bN b q y) - 0)
  unfold relN
  omega
/-! ===== the reciprocal ===== -/
theorem sub_pas {d r : Nat} (h : d + 1 + (r + 1) ≤ 20) : subI (d + 1) (r + 1) = subI d (r + 1) + subI (d + 1) r := by
  have key : ∀ d : Fin 21, ∀ r : Fin 21, d.val + 1 + (r.val + 1) ≤ 20 → subI (d.val + 1) (r.val + 1) = subI d.val (r.val + 1) + subI (d.val + 1) r.val := by decide +kernel
  exact key ⟨d, by omega⟩ ⟨r, by omega⟩ h
theorem sub_0 {r : Nat} (h : r ≤ 20) : subI 0 r = 1 := by
  have key : ∀ r : Fin 21, subI 0 r.val = 1 := by decide +kernel
  exact key ⟨r, by omega⟩
/-- over all places that the first relevant one can have, the others' sets are all the sets -/
theorem sub_sum {e r : Nat} (he : e ≤ 20) (hr : 1 ≤ r) : ∀ n a : Nat, a + n + r = e + 1 → 1 ≤ n → sum9 (fun k => subI (e - (k + 1) - (r - 1)) (r - 1)) a n = subI (e - a - r) r
  | 0, _, _, h => absurd h (by omega)
  | 1, a, h, _ => by
    rw [sum9_s, show sum9 (fun k => subI (e - (k + 1) - (r - 1)) (r - 1)) a 0 = 0 from rfl, Int.zero_add, show e - (a + 0 + 1) - (r - 1) = 0 from by omega, show e - a - r = 0 from by omega, sub_0 (by omega), sub_0 (by omega)]
  | n + 2, a, h, _ => by
    have ih := sub_sum he hr (n + 1) (a + 1) (by omega) (by omega)
    rw [show n + 2 = 1 + (n + 1) from by omega, sum9_app, ih, sum9_s, show sum9 (fun k => subI (e - (k + 1) - (r - 1)) (r - 1)) a 0 = 0 from rfl, Int.zero_add]
    obtain ⟨j, rfl⟩ : ∃ j, r = j + 1 := ⟨r - 1, by omega⟩
    have hp := sub_pas (d := e - (a + 1) - (j + 1)) (r := j) (by omega)
    rw [show e - (a + 0 + 1) - (j + 1 - 1) = e - (a + 1) - (j + 1) + 1 from by omega, show j + 1 - 1 = j from rfl, show e - a - (j + 1) = e - (a + 1) - (j + 1) + 1 from by omega, hp]
    omega
theorem sum9_mul (B : Int) (g : Nat → Int) (lo : Nat) : ∀ n, sum9 (fun k => B * g k) lo n = B * sum9 g lo n
  | 0 => by rw [show sum9 g lo 0 = 0 from rfl, Int.mul_zero]; rfl
  | n + 1 => by rw [sum9_s, sum9_s, sum9_mul B g lo n, Int.mul_add]
theorem rp_le {b : XB} (hi : bInv b) (q y : Nat) : 0 ≤ rpZ b q y ∧ rpZ b q y ≤ rwZ b q y := by
  refine ⟨(rpZ_bd hi q y).1, ?_⟩
  have hn := hi.n q y
  unfold rpZ rwZ
  split
  · rename_i h
    have g := g_rng h
    rw [← sub_sum (e := gE b q y) (r := gR b q y) (by omega) g.2.2.2.1 (gE b q y + 1 - gR b q y - gA b q y) (gA b q y) (by omega) (by omega), ← sum9_mul]
    refine sum9_le (fun k hk => ?_)
    have a := subI_bd (d := gE b q y - (gA b q y + k + 1) - (gR b q y - 1)) (k := gR b q y - 1) (by omega)
    exact Int.mul_le_mul_of_nonneg_right (Int.ediv_le_self _ (by omega)) (by omega)
  · omega
theorem rp_pos {b : XB} (hi : bInv b) {q y : Nat} (h : r0N b q y < bN b q y) : 0 < rpZ b q y := by
  have hn := hi.n q y
  have g := g_rng h
  unfold rpZ
  rw [if_pos h]
  unfold rpS
  rw [show gE b q y + 1 - gR b q y - gA b q y = 1 + (gE b q y - gR b q y - gA b q y) from by omega, sum9_app, sum9_s, show sum9 (rpT (gE b q y) (gR b q y)) (gA b q y) 0 = 0 from rfl, Int.zero_add, Nat.add_zero]
  have h1 := (rp_bd (a := gA b q y + 1) (e := gE b q y) (r := gR b q y) (n := gE b q y - gR b q y - gA b q y) (by omega) (by omega) (by omega)).1
  have a := subI_bd (d := gE b q y - (gA b q y + 1) - (gR b q y - 1)) (k := gR b q y - 1) (by omega)
  have c : 1 ≤ (232792560 : Int) / ((gA b q y : Int) + 1) := Int.le_ediv_of_mul_le (by omega) (by omega)
  have m : 0 < rpT (gE b q y) (gR b q y) (gA b q y) := Int.mul_pos (by omega) (by omega)
  omega
theorem rp_rel {b : XB} (hi : bInv b) (q y : Nat) : 0 < rpZ b q y ↔ 0 < relN b q y 0 20 := by
  have hn := hi.n q y
  have e : relN b q y 0 20 = cnt9 (relP b q y) 0 (bN b q y) := by
    unfold relN
    rw [Nat.min_eq_right hn, Nat.sub_zero]
  rw [e]
  by_cases h : r0N b q y < bN b q y
  · exact ⟨fun _ => cnt9_pos h (by rw [Nat.zero_add]; exact r0_rel h), fun _ => rp_pos hi h⟩
  · have h0 : cnt9 (relP b q y) 0 (bN b q y) = 0 := cnt9_zero (fun k hk => by
      have := fst9_all (relP b q y) (bN b q y) 0 (0 + k) (by omega) (by unfold r0N at h; omega)
      rw [this]
      decide)
    rw [h0]
    unfold rpZ
    rw [if_neg h]
    exact ⟨fun x => absurd x (by decide), fun x => absurd x (by decide)⟩
