/-! ===== crossed lists ===== -/
theorem tk_n (b : XB) (lim : Int) (q y g : Nat) : (∀ q' y', bN (tkB b lim q y g) q' y' = bN b q' y') ∧ (∀ q' y' k, bD (tkB b lim q y g) q' y' k = bD b q' y' k) := by
  unfold tkB
  split
  · exact ⟨fun _ _ => rfl, fun _ _ _ => rfl⟩
  · exact ⟨fun _ _ => rfl, fun _ _ _ => rfl⟩
theorem tk_l (b : XB) (lim : Int) (q y g : Nat) : bL b ≤ bL (tkB b lim q y g) ∧ ((bL b : Int) ≤ lim → (bL (tkB b lim q y g) : Int) ≤ lim) := by
  unfold tkB
  split
  · rename_i h
    have e : bL (bAdd b (bD b q y (tkF b q y)) g) = bL b + 1 := rfl
    rw [e]
    omega
  · exact ⟨Nat.le_refl _, fun h => h⟩
theorem add_lc {b : XB} {d g : Nat} (h : ∀ k, k < bL b → bLC b k = 0) : ∀ k, k < bL (bAdd b d g) → bLC (bAdd b d g) k = 0 := fun k hk => by
  have e : bL (bAdd b d g) = bL b + 1 := rfl
  have e2 : bLC (bAdd b d g) k = if k = bL b then 0 else bLC b k := rfl
  rw [e2]
  split
  · rfl
  · exact h k (by omega)
theorem tk_lc {b : XB} {lim : Int} {q y g : Nat} (h : ∀ k, k < bL b → bLC b k = 0) : ∀ k, k < bL (tkB b lim q y g) → bLC (tkB b lim q y g) k = 0 := by
  unfold tkB
  split
  · exact add_lc h
  · exact h
theorem hld_iff {b : XB} {d : Int} : hldB b d = true ↔ ∃ k, k < bL b ∧ (bLD b k : Int) = d := by
  refine ⟨fun h => ?_, fun ⟨k, h1, h2⟩ => hld_t h1 h2⟩
  obtain ⟨k, h1, h2⟩ := List.any_eq_true.mp h
  exact ⟨k, List.mem_range.mp h1, of_decide_eq_true h2⟩
theorem add_hld {b : XB} {d g : Nat} {z : Int} (h : hldB b z = true) : hldB (bAdd b d g) z = true := by
  obtain ⟨k, h1, h2⟩ := hld_iff.mp h
  have e : bL (bAdd b d g) = bL b + 1 := rfl
  have e2 : bLD (bAdd b d g) k = if k = bL b then d else bLD b k := rfl
  exact hld_t (k := k) (by omega) (by rw [e2, if_neg (by omega)]; exact h2)
theorem add_hld2 (b : XB) (d g : Nat) : hldB (bAdd b d g) (d : Int) = true := by
  have e : bL (bAdd b d g) = bL b + 1 := rfl
  have e2 : bLD (bAdd b d g) (bL b) = if bL b = bL b then d else bLD b (bL b) := rfl
  exact hld_t (k := bL b) (by omega) (by rw [e2, if_pos rfl])
/-- how many places of a run hold documents of the list -/
def hlN (b : XB) (q y : Nat) : Nat := cnt9 (fun j => hldB b (bD b q y j : Int)) 0 (bN b q y)
theorem hlN_le (b : XB) (q y : Nat) : hlN b q y ≤ bN b q y := cnt9_le _ _ _
theorem tk_hl (b : XB) (lim : Int) (q y g y' : Nat) : hlN b q y' ≤ hlN (tkB b lim q y g) q y' ∧ (y' = y → hlN b q y' + (bL (tkB b lim q y g) - bL b) ≤ hlN (tkB b lim q y g) q y') := by
  have hn := tk_n b lim q y g
  unfold hlN
  rw [hn.1 q y']
  unfold tkB at hn ⊢
  split
  · rename_i h
    rw [if_pos h] at hn
    have e : bL (bAdd b (bD b q y (tkF b q y)) g) = bL b + 1 := rfl
    have hm : ∀ k, k < bN b q y' → hldB b (bD b q y' (0 + k) : Int) = true → hldB (bAdd b (bD b q y (tkF b q y)) g) (bD (bAdd b (bD b q y (tkF b q y)) g) q y' (0 + k) : Int) = true := fun k _ hk => by
      rw [hn.2 q y' (0 + k)]
      exact add_hld hk
    refine ⟨cnt9_mono hm, fun e2 => ?_⟩
    subst e2
    rw [e, Nat.add_sub_cancel_left]
    refine cnt9_more (j := tkF b q y') hm h.2 ?_ ?_
    · have hat := fst9_at (tkP b q y') (bN b q y') 0 (by have := h.2; unfold tkF at this; omega)
      rw [Nat.zero_add]
      show ¬ hldB b (bD b q y' (tkF b q y') : Int) = true
      have hat : tkP b q y' (tkF b q y') = true := hat
      unfold tkP at hat
      intro x
      rw [x] at hat
      cases hat
    · rw [Nat.zero_add]
      show hldB (bAdd b (bD b q y' (tkF b q y')) g) (bD (bAdd b (bD b q y' (tkF b q y')) g) q y' (tkF b q y') : Int) = true
      rw [hn.2 q y' (tkF b q y')]
      exact add_hld2 _ _ _
  · exact ⟨Nat.le_refl _, fun _ => by rw [Nat.sub_self]; exact Nat.le_refl _⟩
theorem tk_pos {b : XB} {lim : Int} {q y g : Nat} (hl : 1 ≤ lim) (hn : 0 < bN b q y) : 1 ≤ bL (tkB b lim q y g) := by
  rcases Nat.eq_zero_or_pos (bL b) with h0 | h0
  · have hp : tkP b q y 0 = true := by
      unfold tkP
      have : hldB b (bD b q y 0 : Int) = false := by
        unfold hldB
        rw [h0]
        rfl
      rw [this]
      rfl
    rw [tk_at (k := 0) (by omega) hn (fun j hj => absurd hj (Nat.not_lt_zero _)) hp]
    exact Nat.succ_le_succ (Nat.zero_le _)
  · have := (tk_l b lim q y g).1
    omega
theorem cr_all (b : XB) {q y1 y2 : Nat} {lim : Int} (hl : 1 ≤ lim) : ∀ k, (∀ q' y', bN (crI b q y1 y2 lim k) q' y' = bN b q' y') ∧ (bL (crI b q y1 y2 lim k) : Int) ≤ lim ∧ (∀ j, j < bL (crI b q y1 y2 lim k) → bLC (crI b q y1 y2 lim k) j = 0) ∧ (¬ y1 = y2 → bL (crI b q y1 y2 lim k) ≤ hlN (crI b q y1 y2 lim k) q y1 + hlN (crI b q y1 y2 lim k) q y2) ∧ (1 ≤ k → 0 < bN b q y1 + bN b q y2 → 1 ≤ bL (crI b q y1 y2 lim k))
  | 0 => ⟨fun _ _ => rfl, by show ((0 : Nat) : Int) ≤ lim; omega, fun j hj => absurd hj (Nat.not_lt_zero _), fun _ => Nat.zero_le _, fun h => absurd h (by decide)⟩
  | k + 1 => by
    obtain ⟨i1, i2, i3, i4, i5⟩ := cr_all b (q := q) (y1 := y1) (y2 := y2) hl k
    unfold crI
    generalize crI b q y1 y2 lim k = c at *
    have n1 := (tk_n c lim q y1 y1).1
    have n2 := (tk_n (tkB c lim q y1 y1) lim q y2 y2).1
    have l1 := tk_l c lim q y1 y1
    have l2 := tk_l (tkB c lim q y1 y1) lim q y2 y2
    refine ⟨fun q' y' => ?_, l2.2 (l1.2 i2), tk_lc (tk_lc i3), fun hy => ?_, fun _ hp => ?_⟩
    · rw [n2, n1]; exact i1 q' y'
    · have a1 := tk_hl c lim q y1 y1 y1
      have a2 := tk_hl c lim q y1 y1 y2
      have b1 := tk_hl (tkB c lim q y1 y1) lim q y2 y2 y1
      have b2 := tk_hl (tkB c lim q y1 y1) lim q y2 y2 y2
      have i4 := i4 hy
      have a1' := a1.2 rfl
      have b2' := b2.2 rfl
      omega
    · rcases Nat.eq_zero_or_pos (bN b q y1) with h0 | h0
      · exact tk_pos hl (by rw [n1, i1]; omega)
      · have := tk_pos (g := y1) hl (show 0 < bN c q y1 by rw [i1]; exact h0)
        omega
theorem cr_x {b : XB} {q y1 y2 : Nat} {lim : Int} (hl : 1 ≤ lim) (hy : ¬ y1 = y2) : (∀ q' y', bN (crB b q y1 y2 lim) q' y' = bN b q' y') ∧ (bL (crB b q y1 y2 lim) : Int) ≤ lim ∧ bL (crB b q y1 y2 lim) ≤ bN b q y1 + bN b q y2 ∧ (0 < bN b q y1 + bN b q y2 → 1 ≤ bL (crB b q y1 y2 lim)) ∧ ∀ z, cfN (crB b q y1 y2 lim) z = 0 := by
  obtain ⟨i1, i2, i3, i4, i5⟩ := cr_all b (q := q) (y1 := y1) (y2 := y2) hl lim.toNat
  have h1 := hlN_le (crI b q y1 y2 lim lim.toNat) q y1
  have h2 := hlN_le (crI b q y1 y2 lim lim.toNat) q y2
  rw [i1] at h1 h2
  have i4 := i4 hy
  refine ⟨i1, i2, Nat.le_trans i4 (by omega), i5 (by omega), fun z => cnt9_zero (fun k hk h => ?_)⟩
  unfold cfP at h
  have h := of_decide_eq_true ((Bool.and_eq_true _ _).mp h).1
  rw [Nat.zero_add] at h
  exact h (i3 k hk)
theorem cr_inv {b : XB} (hi : bInv b) {q y1 y2 : Nat} {lim : Int} (hl : lim ≤ 20) (h1 : y1 < 4) (h2 : y2 < 4) : bInv (crB b q y1 y2 lim) := crI_inv hi hl h1 h2 _
/-! ===== clicks ===== -/
theorem ck_pos {b : XB} {k : Nat} (hk : k < bL b) : 0 < cfN (uLC b k 1) (bLG b k : Int) := by
  refine cnt9_pos (k := k) hk ?_
  rw [Nat.zero_add]
  have e : bLC (uLC b k 1) k = if k = k then 1 else bLC b k := rfl
  have e2 : bLG (uLC b k 1) k = bLG b k := rfl
  unfold cfP
  rw [e, e2, if_pos rfl, decide_eq_true (by decide), decide_eq_true rfl]
  rfl
theorem ck_again (b : XB) (k : Nat) : ¬ bLC (uLC b k 1) k = 0 := by
  have e : bLC (uLC b k 1) k = if k = k then 1 else bLC b k := rfl
  rw [e, if_pos rfl]
  decide
theorem ck_inv {b : XB} (hi : bInv b) (k : Nat) : bInv (uLC b k 1) := uLC_inv hi (by omega)
/-! ===== appending ===== -/
theorem ap_at (b : XB) (q y d c : Nat) : dAt (bApp b q y d c) q y ((bN b q y : Int) + 1) = (d : Int) := by
  rw [dAt_k _ _ _ _ (by rw [bApp_n]; omega)]
  have e : bD (bApp b q y d c) q y (bN b q y) = if q = q ∧ y = y ∧ bN b q y = bN b q y then d else bD b q y (bN b q y) := rfl
  rw [e, if_pos ⟨rfl, rfl, rfl⟩]
theorem ap_no {b : XB} {q y : Nat} {zd zc : Int} (h : kAppN b q y zd zc = 0) : bN b q y < 20 := by
  unfold kAppN at h
  split at h
  · omega
  · rename_i h9
    exact Nat.not_le.mp (fun x => h9 (Or.inl x))
theorem at_iff {b : XB} (q y : Nat) {r : Int} (h : 1 ≤ r) : dAt b q y r = -1 ↔ (bN b q y : Int) < r := by
  unfold dAt
  split
  · omega
  · omega
theorem em_n (b : XB) (q y : Nat) : bN (uN b q y 0) q y = 0 := by
  show (if _ then _ else _) = _
  simp
theorem ju_j (b : XB) (q d j : Nat) : bJ (uJ b q d j) q d = j := by
  show (if _ then _ else _) = _
  simp
theorem nn_0 (y d : Nat) : tsN (dfZ b00 y y d) = 256 := tt_same b00 y d
theorem b00_sx (y1 y2 d : Nat) : sxZ (dfZ b00 y1 y2 d) 0 = 0 := by
  have e : ∀ q, dfZ b00 y1 y2 d q = 0 := fun q => by
    have h1 := (rel_n b00 q y1 d).1
    have h2 := (rel_n b00 q y2 d).1
    have n1 : bN b00 q y1 = 0 := rfl
    have n2 : bN b00 q y2 = 0 := rfl
    unfold dfZ
    omega
  have h : sxZ (dfZ b00 y1 y2 d) 0 = -(sxZ (dfZ b00 y1 y2 d) 0) := sxZ_ng (df := dfZ b00 y1 y2 d) (g := dfZ b00 y1 y2 d) (fun j _ => by rw [e j]; rfl) 0
  omega
theorem b00_best (de : Int) (hd : 1 ≤ de) : bestN b00 de = 0 := by
  have hs : ∀ y, shP b00 y de = 0 := fun y => by
    have a := sh_le b00_inv y (de := de) (by omega)
    have e : frN b00 y = 0 := cnt9_zero (fun k _ h => by
      have h := of_decide_eq_true h
      exact absurd h (by show ¬ 0 < (0 : Nat); decide))
    rw [e, show ((0 : Nat) : Int) = 0 from rfl, Int.mul_zero] at a
    omega
  have key : ∀ k, bstAt b00 de k = (0, 0, 1) := fun k => by
    induction k with
    | zero => rfl
    | succ k ih =>
      unfold bstAt
      rw [ih, hs k, if_neg (by simp only []; omega)]
  unfold bestN
  rw [key]
