theorem bne9 {x : Bool} (h : ¬ x = true) : x = false := by cases x; rfl; exact absurd rfl h
/-! ===== first place, count, sum ===== -/
/-- the first place from i on, among f, where P holds; i + f if none -/
def fst9 (P : Nat → Bool) : Nat → Nat → Nat
  | i, 0 => i
  | i, f + 1 => if P i = true then i else fst9 P (i + 1) f
theorem fst9_rng (P : Nat → Bool) : ∀ (f i : Nat), i ≤ fst9 P i f ∧ fst9 P i f ≤ i + f
  | 0, i => ⟨Nat.le_refl _, Nat.le_refl _⟩
  | f + 1, i => by
    have := fst9_rng P f (i + 1)
    unfold fst9
    split <;> omega
theorem fst9_all (P : Nat → Bool) : ∀ (f i k : Nat), i ≤ k → k < fst9 P i f → P k = false
  | 0, i, k, h, h2 => by
    have h3 : k < i := h2
    omega
  | f + 1, i, k, h, h2 => by
    unfold fst9 at h2
    split at h2
    · omega
    · by_cases e : k = i
      · subst e; simpa using ‹¬ P k = true›
      · exact fst9_all P f (i + 1) k (by omega) h2
theorem fst9_at (P : Nat → Bool) : ∀ (f i : Nat), fst9 P i f < i + f → P (fst9 P i f) = true
  | 0, i, h => by
    have h3 : i < i + 0 := h
    omega
  | f + 1, i, h => by
    unfold fst9 at h ⊢
    split at h
    · rw [if_pos ‹_›]; assumption
    · rw [if_neg ‹_›]; exact fst9_at P f (i + 1) (by omega)
theorem fst9_uniq {P : Nat → Bool} {i f k : Nat} (hik : i ≤ k) (h : ∀ j, i ≤ j → j < k → P j = false) (he : k = i + f ∨ (k < i + f ∧ P k = true)) : fst9 P i f = k := by
  have r := fst9_rng P f i
  rcases Nat.lt_trichotomy (fst9 P i f) k with hl | hl | hl
  · have a := fst9_at P f i (by omega)
    rw [h _ r.1 hl] at a
    cases a
  · exact hl
  · have a := fst9_all P f i k hik hl
    rcases he with he | ⟨_, he⟩
    · omega
    · rw [a] at he; cases he
theorem fst9_congr {P P' : Nat → Bool} : ∀ {f i : Nat}, (∀ k, i ≤ k → k < i + f → P k = P' k) → fst9 P i f = fst9 P' i f
  | 0, i, _ => rfl
  | f + 1, i, h => by
    unfold fst9
    rw [h i (Nat.le_refl _) (by omega), fst9_congr (f := f) (i := i + 1) (fun k h1 h2 => h k (by omega) (by omega))]
/-- how many of the n places from lo on have P -/
def cnt9 (P : Nat → Bool) (lo : Nat) : Nat → Nat
  | 0 => 0
  | n + 1 => cnt9 P lo n + (if P (lo + n) = true then 1 else 0)
theorem cnt9_le (P : Nat → Bool) (lo : Nat) : ∀ n, cnt9 P lo n ≤ n
  | 0 => Nat.le_refl _
  | n + 1 => by
    have := cnt9_le P lo n
    unfold cnt9
    split <;> omega
theorem cnt9_t {P : Nat → Bool} {lo n : Nat} (h : P (lo + n) = true) : cnt9 P lo (n + 1) = cnt9 P lo n + 1 := by
  rw [cnt9, if_pos h]
theorem cnt9_f {P : Nat → Bool} {lo n : Nat} (h : ¬ P (lo + n) = true) : cnt9 P lo (n + 1) = cnt9 P lo n := by
  rw [cnt9, if_neg h]; rfl
theorem cnt9_congr {P P' : Nat → Bool} {lo lo' : Nat} : ∀ {n : Nat}, (∀ k, k < n → P (lo + k) = P' (lo' + k)) → cnt9 P lo n = cnt9 P' lo' n
  | 0, _ => rfl
  | n + 1, h => by
    rw [cnt9, cnt9, cnt9_congr (n := n) (fun k hk => h k (by omega)), h n (by omega)]
theorem cnt9_zero {P : Nat → Bool} {lo : Nat} : ∀ {n : Nat}, (∀ k, k < n → ¬ P (lo + k) = true) → cnt9 P lo n = 0
  | 0, _ => rfl
  | n + 1, h => by rw [cnt9_f (h n (by omega)), cnt9_zero (n := n) (fun k hk => h k (by omega))]
theorem cnt9_pos {P : Nat → Bool} {lo : Nat} : ∀ {n k : Nat}, k < n → P (lo + k) = true → 0 < cnt9 P lo n
  | n + 1, k, hk, h => by
    by_cases e : k = n
    · subst e; rw [cnt9_t h]; omega
    · have := cnt9_pos (n := n) (k := k) (by omega) h
      unfold cnt9
      omega
/-- the sum of g over the n places from lo on -/
def sum9 (g : Nat → Int) (lo : Nat) : Nat → Int
  | 0 => 0
  | n + 1 => sum9 g lo n + g (lo + n)
theorem sum9_s (g : Nat → Int) (lo n : Nat) : sum9 g lo (n + 1) = sum9 g lo n + g (lo + n) := rfl
theorem sum9_congr {g g' : Nat → Int} {lo lo' : Nat} : ∀ {n : Nat}, (∀ k, k < n → g (lo + k) = g' (lo' + k)) → sum9 g lo n = sum9 g' lo' n
  | 0, _ => rfl
  | n + 1, h => by
    rw [sum9, sum9, sum9_congr (n := n) (fun k hk => h k (by omega)), h n (by omega)]
theorem sum9_app (g : Nat → Int) (lo n : Nat) : ∀ k, sum9 g lo (n + k) = sum9 g lo n + sum9 g (lo + n) k
  | 0 => by rw [show sum9 g (lo + n) 0 = 0 from rfl]; simp
  | k + 1 => by
    rw [← Nat.add_assoc, sum9_s, sum9_app g lo n k, sum9_s, Nat.add_assoc]; omega
theorem sum9_bd {g : Nat → Int} {B : Int} {lo : Nat} : ∀ {n : Nat}, (∀ k, k < n → 0 ≤ g (lo + k) ∧ g (lo + k) ≤ B) → 0 ≤ sum9 g lo n ∧ sum9 g lo n ≤ n * B
  | 0, _ => by rw [show sum9 g lo 0 = 0 from rfl]; simp
  | n + 1, h => by
    have a := sum9_bd (n := n) (fun k hk => h k (by omega))
    have c := h n (by omega)
    have e : ((n + 1 : Nat) : Int) * B = n * B + B := by rw [Int.natCast_add, Int.add_mul]; simp
    rw [sum9_s, e]
    omega
