/-! ===== updates of the state ===== -/
def uN (b : XB) (q y v : Nat) : XB := (fun q' y' => if q' = q ∧ y' = y then v else b.1 q' y', b.2)
def uD (b : XB) (q y k v : Nat) : XB := (b.1, fun q' y' k' => if q' = q ∧ y' = y ∧ k' = k then v else b.2.1 q' y' k', b.2.2)
def uS (b : XB) (q y k v : Nat) : XB := (b.1, b.2.1, fun q' y' k' => if q' = q ∧ y' = y ∧ k' = k then v else b.2.2.1 q' y' k', b.2.2.2)
def uJ (b : XB) (q d v : Nat) : XB := (b.1, b.2.1, b.2.2.1, fun q' d' => if q' = q ∧ d' = d then v else b.2.2.2.1 q' d', b.2.2.2.2)
def uL (b : XB) (v : Nat) : XB := (b.1, b.2.1, b.2.2.1, b.2.2.2.1, v, b.2.2.2.2.2)
def uLD (b : XB) (k v : Nat) : XB := (b.1, b.2.1, b.2.2.1, b.2.2.2.1, b.2.2.2.2.1, (fun k' => if k' = k then v else b.2.2.2.2.2.1 k'), b.2.2.2.2.2.2)
def uLG (b : XB) (k v : Nat) : XB := (b.1, b.2.1, b.2.2.1, b.2.2.2.1, b.2.2.2.2.1, b.2.2.2.2.2.1, (fun k' => if k' = k then v else b.2.2.2.2.2.2.1 k'), b.2.2.2.2.2.2.2)
def uLC (b : XB) (k v : Nat) : XB := (b.1, b.2.1, b.2.2.1, b.2.2.2.1, b.2.2.2.2.1, b.2.2.2.2.2.1, b.2.2.2.2.2.2.1, fun k' => if k' = k then v else b.2.2.2.2.2.2.2 k')
theorem uN_inv {b : XB} {q y v : Nat} (hi : bInv b) (hv : v ≤ 20) : bInv (uN b q y v) :=
  ⟨fun x0 x1 => by
    have := hi.n x0 x1
    show (if _ then _ else bN b x0 x1) ≤ _
    split <;> omega,
  fun x0 x1 x2 => hi.d x0 x1 x2,
  fun x0 x1 x2 => hi.s x0 x1 x2,
  fun x0 x1 => hi.j x0 x1,
  hi.l,
  fun x0 => hi.ld x0,
  fun x0 => hi.lg x0,
  fun x0 => hi.lc x0⟩
theorem uD_inv {b : XB} {q y k v : Nat} (hi : bInv b) (hv : v < 40) : bInv (uD b q y k v) :=
  ⟨fun x0 x1 => hi.n x0 x1,
  fun x0 x1 x2 => by
    have := hi.d x0 x1 x2
    show (if _ then _ else bD b x0 x1 x2) < _
    split <;> omega,
  fun x0 x1 x2 => hi.s x0 x1 x2,
  fun x0 x1 => hi.j x0 x1,
  hi.l,
  fun x0 => hi.ld x0,
  fun x0 => hi.lg x0,
  fun x0 => hi.lc x0⟩
theorem uS_inv {b : XB} {q y k v : Nat} (hi : bInv b) (hv : v ≤ 1000) : bInv (uS b q y k v) :=
  ⟨fun x0 x1 => hi.n x0 x1,
  fun x0 x1 x2 => hi.d x0 x1 x2,
  fun x0 x1 x2 => by
    have := hi.s x0 x1 x2
    show (if _ then _ else bS b x0 x1 x2) ≤ _
    split <;> omega,
  fun x0 x1 => hi.j x0 x1,
  hi.l,
  fun x0 => hi.ld x0,
  fun x0 => hi.lg x0,
  fun x0 => hi.lc x0⟩
theorem uJ_inv {b : XB} {q d v : Nat} (hi : bInv b) (hv : v ≤ 2) : bInv (uJ b q d v) :=
  ⟨fun x0 x1 => hi.n x0 x1,
  fun x0 x1 x2 => hi.d x0 x1 x2,
  fun x0 x1 x2 => hi.s x0 x1 x2,
  fun x0 x1 => by
    have := hi.j x0 x1
    show (if _ then _ else bJ b x0 x1) ≤ _
    split <;> omega,
  hi.l,
  fun x0 => hi.ld x0,
  fun x0 => hi.lg x0,
  fun x0 => hi.lc x0⟩
theorem uL_inv {b : XB} {v : Nat} (hi : bInv b) (hv : v ≤ 20) : bInv (uL b v) :=
  ⟨fun x0 x1 => hi.n x0 x1,
  fun x0 x1 x2 => hi.d x0 x1 x2,
  fun x0 x1 x2 => hi.s x0 x1 x2,
  fun x0 x1 => hi.j x0 x1,
  hv,
  fun x0 => hi.ld x0,
  fun x0 => hi.lg x0,
  fun x0 => hi.lc x0⟩
theorem uLD_inv {b : XB} {k v : Nat} (hi : bInv b) (hv : v < 40) : bInv (uLD b k v) :=
  ⟨fun x0 x1 => hi.n x0 x1,
  fun x0 x1 x2 => hi.d x0 x1 x2,
  fun x0 x1 x2 => hi.s x0 x1 x2,
  fun x0 x1 => hi.j x0 x1,
  hi.l,
  fun x0 => by
    have := hi.ld x0
    show (if _ then _ else bLD b x0) < _
    split <;> omega,
  fun x0 => hi.lg x0,
  fun x0 => hi.lc x0⟩
theorem uLG_inv {b : XB} {k v : Nat} (hi : bInv b) (hv : v < 4) : bInv (uLG b k v) :=
  ⟨fun x0 x1 => hi.n x0 x1,
  fun x0 x1 x2 => hi.d x0 x1 x2,
  fun x0 x1 x2 => hi.s x0 x1 x2,
  fun x0 x1 => hi.j x0 x1,
  hi.l,
  fun x0 => hi.ld x0,
  fun x0 => by
    have := hi.lg x0
    show (if _ then _ else bLG b x0) < _
    split <;> omega,
  fun x0 => hi.lc x0⟩
theorem uLC_inv {b : XB} {k v : Nat} (hi : bInv b) (hv : v ≤ 1) : bInv (uLC b k v) :=
  ⟨fun x0 x1 => hi.n x0 x1,
  fun x0 x1 x2 => hi.d x0 x1 x2,
  fun x0 x1 x2 => hi.s x0 x1 x2,
  fun x0 x1 => hi.j x0 x1,
  hi.l,
  fun x0 => hi.ld x0,
  fun x0 => hi.lg x0,
  fun x0 => by
    have := hi.lc x0
    show (if _ then _ else bLC b x0) ≤ _
    split <;> omega⟩
section
variable {G : XG} {o : Nat} {b : XB} {lim : Int} {dif : Nat → Int} {H H1 : Heap}
theorem BW.putRN (h : BW G o b lim dif H) {q y : Nat} (hq : q < 8) (hy : y < 4) {x : Int} {v : Nat} (hv : x = (v : Int)) (h1 : va1 G (o + 2 + 15 * q + 2 + 3 * y) (.inr (2, [.ref (o + 2 + 15 * q + 2 + 3 * y + 1), .ref (o + 2 + 15 * q + 2 + 3 * y + 2), .int (zI x)])) H1) (hn : ∀ a, a ≠ o + 2 + 15 * q + 2 + 3 * y → H1[a]? = H[a]?) : BW G o (uN b q y v) lim dif H1 := by
  subst hv
  have e1 : va1 G (o + 2 + 15 * q + 2 + 3 * y) (.inr (2, [.ref (o + 2 + 15 * q + 2 + 3 * y + 1), .ref (o + 2 + 15 * q + 2 + 3 * y + 2), .int (zI (bN (uN b q y v) q y))])) H1 := by
    have e : bN (uN b q y v) q y = v := by show (if _ then _ else _) = _; simp
    rw [e]; exact h1
  have e2 : ∀ q' y', q' < 8 → y' < 4 → ¬ (q' = q ∧ y' = y) → va1 G (o + 2 + 15 * q' + 2 + 3 * y') (.inr (2, [.ref (o + 2 + 15 * q' + 2 + 3 * y' + 1), .ref (o + 2 + 15 * q' + 2 + 3 * y' + 2), .int (zI (bN (uN b q y v) q' y'))])) H1 := fun q' y' h8 h4 hc => by
    have e : bN (uN b q y v) q' y' = bN b q' y' := if_neg hc
    rw [e]; exact (h.r h8 h4).kept (hn _ (by simp only []; omega))
  exact ⟨(h.jr.kept (hn _ (by simp only []; omega))), (h.qs.kept (hn _ (by simp only []; omega))), fun q' h8 => ⟨(h.q h8).kept (hn _ (by simp only []; omega)), (h.rs h8).kept (hn _ (by simp only []; omega)), (h.ju h8).kept (hn _ (by simp only []; omega))⟩, fun q' y' h8 h4 => ⟨(Classical.byCases (p := q' = q ∧ y' = y) (fun hc => by obtain ⟨rfl, rfl⟩ := hc; exact e1) (fun hc => e2 q' y' h8 h4 hc)), (h.rd h8 h4).kept (hn _ (by simp only []; omega)), (h.rc h8 h4).kept (hn _ (by simp only []; omega))⟩, (h.cl.kept (hn _ (by simp only []; omega))), (h.ld.kept (hn _ (by simp only []; omega))), (h.lg.kept (hn _ (by simp only []; omega))), (h.lc.kept (hn _ (by simp only []; omega))), (h.df.kept (hn _ (by simp only []; omega)))⟩
theorem BW.putRD (h : BW G o b lim dif H) {q y k : Nat} (hq : q < 8) (hy : y < 4) {x : Int} {v : Nat} (hv : x = (v : Int)) (h1 : va1 G (o + 2 + 15 * q + 2 + 3 * y + 1) (eI G 20 (fun j => if j = k then x else (bD b q y j : Int))) H1) (hn : ∀ a, a ≠ o + 2 + 15 * q + 2 + 3 * y + 1 → H1[a]? = H[a]?) : BW G o (uD b q y k v) lim dif H1 := by
  subst hv
  have e1 : va1 G (o + 2 + 15 * q + 2 + 3 * y + 1) (eI G 20 (fun j => (bD (uD b q y k v) q y j : Int))) H1 := by
    have e : (fun j => (bD (uD b q y k v) q y j : Int)) = (fun j => if j = k then (v : Int) else (bD b q y j : Int)) := by
      funext j
      show (((if _ then _ else bD b q y j) : Nat) : Int) = _
      by_cases hj : j = k
      · rw [if_pos ⟨rfl, rfl, hj⟩, if_pos hj]
      · rw [if_neg (fun z => hj z.2.2), if_neg hj]
    rw [e]; exact h1
  have e2 : ∀ q' y', q' < 8 → y' < 4 → ¬ (q' = q ∧ y' = y) → va1 G (o + 2 + 15 * q' + 2 + 3 * y' + 1) (eI G 20 (fun j => (bD (uD b q y k v) q' y' j : Int))) H1 := fun q' y' h8 h4 hc => by
    have e : (fun j => (bD (uD b q y k v) q' y' j : Int)) = (fun j => (bD b q' y' j : Int)) := by
      funext j
      show (((if _ then _ else bD b q' y' j) : Nat) : Int) = _
      rw [if_neg (fun z => hc ⟨z.1, z.2.1⟩)]
    rw [e]; exact (h.rd h8 h4).kept (hn _ (by simp only []; omega))
  exact ⟨(h.jr.kept (hn _ (by simp only []; omega))), (h.qs.kept (hn _ (by simp only []; omega))), fun q' h8 => ⟨(h.q h8).kept (hn _ (by simp only []; omega)), (h.rs h8).kept (hn _ (by simp only []; omega)), (h.ju h8).kept (hn _ (by simp only []; omega))⟩, fun q' y' h8 h4 => ⟨(h.r h8 h4).kept (hn _ (by simp only []; omega)), (Classical.byCases (p := q' = q ∧ y' = y) (fun hc => by obtain ⟨rfl, rfl⟩ := hc; exact e1) (fun hc => e2 q' y' h8 h4 hc)), (h.rc h8 h4).kept (hn _ (by simp only []; omega))⟩, (h.cl.kept (hn _ (by simp only []; omega))), (h.ld.kept (hn _ (by simp only []; omega))), (h.lg.kept (hn _ (by simp only []; omega))), (h.lc.kept (hn _ (by simp only []; omega))), (h.df.kept (hn _ (by simp only []; omega)))⟩
theorem BW.putRC (h : BW G o b lim dif H) {q y k : Nat} (hq : q < 8) (hy : y < 4) {x : Int} {v : Nat} (hv : x = (v : Int)) (h1 : va1 G (o + 2 + 15 * q + 2 + 3 * y + 2) (eI G 20 (fun j => if j = k then x else (bS b q y j : Int))) H1) (hn : ∀ a, a ≠ o + 2 + 15 * q + 2 + 3 * y + 2 → H1[a]? = H[a]?) : BW G o (uS b q y k v) lim dif H1 := by
  subst hv
  have e1 : va1 G (o + 2 + 15 * q + 2 + 3 * y + 2) (eI G 20 (fun j => (bS (uS b q y k v) q y j : Int))) H1 := by
    have e : (fun j => (bS (uS b q y k v) q y j : Int)) = (fun j => if j = k then (v : Int) else (bS b q y j : Int)) := by
      funext j
      show (((if _ then _ else bS b q y j) : Nat) : Int) = _
      by_cases hj : j = k
      · rw [if_pos ⟨rfl, rfl, hj⟩, if_pos hj]
      · rw [if_neg (fun z => hj z.2.2), if_neg hj]
    rw [e]; exact h1
  have e2 : ∀ q' y', q' < 8 → y' < 4 → ¬ (q' = q ∧ y' = y) → va1 G (o + 2 + 15 * q' + 2 + 3 * y' + 2) (eI G 20 (fun j => (bS (uS b q y k v) q' y' j : Int))) H1 := fun q' y' h8 h4 hc => by
    have e : (fun j => (bS (uS b q y k v) q' y' j : Int)) = (fun j => (bS b q' y' j : Int)) := by
      funext j
      show (((if _ then _ else bS b q' y' j) : Nat) : Int) = _
      rw [if_neg (fun z => hc ⟨z.1, z.2.1⟩)]
    rw [e]; exact (h.rc h8 h4).kept (hn _ (by simp only []; omega))
  exact ⟨(h.jr.kept (hn _ (by simp only []; omega))), (h.qs.kept (hn _ (by simp only []; omega))), fun q' h8 => ⟨(h.q h8).kept (hn _ (by simp only []; omega)), (h.rs h8).kept (hn _ (by simp only []; omega)), (h.ju h8).kept (hn _ (by simp only []; omega))⟩, fun q' y' h8 h4 => ⟨(h.r h8 h4).kept (hn _ (by simp only []; omega)), (h.rd h8 h4).kept (hn _ (by simp only []; omega)), (Classical.byCases (p := q' = q ∧ y' = y) (fun hc => by obtain ⟨rfl, rfl⟩ := hc; exact e1) (fun hc => e2 q' y' h8 h4 hc))⟩, (h.cl.kept (hn _ (by simp only []; omega))), (h.ld.kept (hn _ (by simp only []; omega))), (h.lg.kept (hn _ (by simp only []; omega))), (h.lc.kept (hn _ (by simp only []; omega))), (h.df.kept (hn _ (by simp only []; omega)))⟩
theorem BW.putJU (h : BW G o b lim dif H) {q k : Nat} (hq : q < 8) {x : Int} {v : Nat} (hv : x = (v : Int)) (h1 : va1 G (o + 2 + 15 * q + 14) (eI G 40 (fun j => if j = k then x else (bJ b q j : Int))) H1) (hn : ∀ a, a ≠ o + 2 + 15 * q + 14 → H1[a]? = H[a]?) : BW G o (uJ b q k v) lim dif H1 := by
  subst hv
  have e1 : va1 G (o + 2 + 15 * q + 14) (eI G 40 (fun j => (bJ (uJ b q k v) q j : Int))) H1 := by
    have e : (fun j => (bJ (uJ b q k v) q j : Int)) = (fun j => if j = k then (v : Int) else (bJ b q j : Int)) := by
      funext j
      show (((if _ then _ else bJ b q j) : Nat) : Int) = _
      by_cases hj : j = k
      · rw [if_pos ⟨rfl, hj⟩, if_pos hj]
      · rw [if_neg (fun z => hj z.2), if_neg hj]
    rw [e]; exact h1
  have e2 : ∀ q', q' < 8 → ¬ q' = q → va1 G (o + 2 + 15 * q' + 14) (eI G 40 (fun j => (bJ (uJ b q k v) q' j : Int))) H1 := fun q' h8 hc => by
    have e : (fun j => (bJ (uJ b q k v) q' j : Int)) = (fun j => (bJ b q' j : Int)) := by
      funext j
      show (((if _ then _ else bJ b q' j) : Nat) : Int) = _
      rw [if_neg (fun z => hc z.1)]
    rw [e]; exact (h.ju h8).kept (hn _ (by simp only []; omega))
  exact ⟨(h.jr.kept (hn _ (by simp only []; omega))), (h.qs.kept (hn _ (by simp only []; omega))), fun q' h8 => ⟨(h.q h8).kept (hn _ (by simp only []; omega)), (h.rs h8).kept (hn _ (by simp only []; omega)), (Classical.byCases (p := q' = q) (fun hc => by obtain rfl := hc; exact e1) (fun hc => e2 q' h8 hc))⟩, fun q' y' h8 h4 => ⟨(h.r h8 h4).kept (hn _ (by simp only []; omega)), (h.rd h8 h4).kept (hn _ (by simp only []; omega)), (h.rc h8 h4).kept (hn _ (by simp only []; omega))⟩, (h.cl.kept (hn _ (by simp only []; omega))), (h.ld.kept (hn _ (by simp only []; omega))), (h.lg.kept (hn _ (by simp only []; omega))), (h.lc.kept (hn _ (by simp only []; omega))), (h.df.kept (hn _ (by simp only []; omega)))⟩
theorem BW.putCL (h : BW G o b lim dif H) {x z : Int} {v : Nat} (hv : z = (v : Int)) (h1 : va1 G (o + 122) (.inr (0, [.ref (o + 123), .ref (o + 124), .ref (o + 125), .int (zI x), .int (zI z)])) H1) (hn : ∀ a, a ≠ o + 122 → H1[a]? = H[a]?) : BW G o (uL b v) x dif H1 := by
  exact ⟨(h.jr.kept (hn _ (by simp only []; omega))), (h.qs.kept (hn _ (by simp only []; omega))), fun q' h8 => ⟨(h.q h8).kept (hn _ (by simp only []; omega)), (h.rs h8).kept (hn _ (by simp only []; omega)), (h.ju h8).kept (hn _ (by simp only []; omega))⟩, fun q' y' h8 h4 => ⟨(h.r h8 h4).kept (hn _ (by simp only []; omega)), (h.rd h8 h4).kept (hn _ (by simp only []; omega)), (h.rc h8 h4).kept (hn _ (by simp only []; omega))⟩, (by subst hv; exact h1), (h.ld.kept (hn _ (by simp only []; omega))), (h.lg.kept (hn _ (by simp only []; omega))), (h.lc.kept (hn _ (by simp only []; omega))), (h.df.kept (hn _ (by simp only []; omega)))⟩
theorem BW.putLD (h : BW G o b lim dif H) {k : Nat} {x : Int} {v : Nat} (hv : x = (v : Int)) (h1 : va1 G (o + 123) (eI G 20 (fun j => if j = k then x else (bLD b j : Int))) H1) (hn : ∀ a, a ≠ o + 123 → H1[a]? = H[a]?) : BW G o (uLD b k v) lim dif H1 := by
  subst hv
  have e1 : va1 G (o + 123) (eI G 20 (fun j => (bLD (uLD b k v) j : Int))) H1 := by
    have e : (fun j => (bLD (uLD b k v) j : Int)) = (fun j => if j = k then (v : Int) else (bLD b j : Int)) := by
      funext j
      show (((if _ then _ else bLD b j) : Nat) : Int) = _
      by_cases hj : j = k
      · rw [if_pos hj, if_pos hj]
      · rw [if_neg hj, if_neg hj]
    rw [e]; exact h1
  exact ⟨(h.jr.kept (hn _ (by simp only []; omega))), (h.qs.kept (hn _ (by simp only []; omega))), fun q' h8 => ⟨(h.q h8).kept (hn _ (by simp only []; omega)), (h.rs h8).kept (hn _ (by simp only []; omega)), (h.ju h8).kept (hn _ (by simp only []; omega))⟩, fun q' y' h8 h4 => ⟨(h.r h8 h4).kept (hn _ (by simp only []; omega)), (h.rd h8 h4).kept (hn _ (by simp only []; omega)), (h.rc h8 h4).kept (hn _ (by simp only []; omega))⟩, (h.cl.kept (hn _ (by simp only []; omega))), e1, (h.lg.kept (hn _ (by simp only []; omega))), (h.lc.kept (hn _ (by simp only []; omega))), (h.df.kept (hn _ (by simp only []; omega)))⟩
theorem BW.putLG (h : BW G o b lim dif H) {k : Nat} {x : Int} {v : Nat} (hv : x = (v : Int)) (h1 : va1 G (o + 124) (eI G 20 (fun j => if j = k then x else (bLG b j : Int))) H1) (hn : ∀ a, a ≠ o + 124 → H1[a]? = H[a]?) : BW G o (uLG b k v) lim dif H1 := by
  subst hv
  have e1 : va1 G (o + 124) (eI G 20 (fun j => (bLG (uLG b k v) j : Int))) H1 := by
    have e : (fun j => (bLG (uLG b k v) j : Int)) = (fun j => if j = k then (v : Int) else (bLG b j : Int)) := by
      funext j
      show (((if _ then _ else bLG b j) : Nat) : Int) = _
      by_cases hj : j = k
      · rw [if_pos hj, if_pos hj]
      · rw [if_neg hj, if_neg hj]
    rw [e]; exact h1
  exact ⟨(h.jr.kept (hn _ (by simp only []; omega))), (h.qs.kept (hn _ (by simp only []; omega))), fun q' h8 => ⟨(h.q h8).kept (hn _ (by simp only []; omega)), (h.rs h8).kept (hn _ (by simp only []; omega)), (h.ju h8).kept (hn _ (by simp only []; omega))⟩, fun q' y' h8 h4 => ⟨(h.r h8 h4).kept (hn _ (by simp only []; omega)), (h.rd h8 h4).kept (hn _ (by simp only []; omega)), (h.rc h8 h4).kept (hn _ (by simp only []; omega))⟩, (h.cl.kept (hn _ (by simp only []; omega))), (h.ld.kept (hn _ (by simp only []; omega))), e1, (h.lc.kept (hn _ (by simp only []; omega))), (h.df.kept (hn _ (by simp only []; omega)))⟩
theorem BW.putLC (h : BW G o b lim dif H) {k : Nat} {x : Int} {v : Nat} (hv : x = (v : Int)) (h1 : va1 G (o + 125) (eZ G 20 (fun j => if j = k then x else (bLC b j : Int))) H1) (hn : ∀ a, a ≠ o + 125 → H1[a]? = H[a]?) : BW G o (uLC b k v) lim dif H1 := by
  subst hv
  have e1 : va1 G (o + 125) (eZ G 20 (fun j => (bLC (uLC b k v) j : Int))) H1 := by
    have e : (fun j => (bLC (uLC b k v) j : Int)) = (fun j => if j = k then (v : Int) else (bLC b j : Int)) := by
      funext j
      show (((if _ then _ else bLC b j) : Nat) : Int) = _
      by_cases hj : j = k
      · rw [if_pos hj, if_pos hj]
      · rw [if_neg hj, if_neg hj]
    rw [e]; exact h1
  exact ⟨(h.jr.kept (hn _ (by simp only []; omega))), (h.qs.kept (hn _ (by simp only []; omega))), fun q' h8 => ⟨(h.q h8).kept (hn _ (by simp only []; omega)), (h.rs h8).kept (hn _ (by simp only []; omega)), (h.ju h8).kept (hn _ (by simp only []; omega))⟩, fun q' y' h8 h4 => ⟨(h.r h8 h4).kept (hn _ (by simp only []; omega)), (h.rd h8 h4).kept (hn _ (by simp only []; omega)), (h.rc h8 h4).kept (hn _ (by simp only []; omega))⟩, (h.cl.kept (hn _ (by simp only []; omega))), (h.ld.kept (hn _ (by simp only []; omega))), (h.lg.kept (hn _ (by simp only []; omega))), e1, (h.df.kept (hn _ (by simp only []; omega)))⟩
theorem BW.putDF (h : BW G o b lim dif H) {dif1 : Nat → Int} (h1 : va1 G (o + 126) (eI G 8 dif1) H1) (hn : ∀ a, a ≠ o + 126 → H1[a]? = H[a]?) : BW G o b lim dif1 H1 := by
  exact ⟨(h.jr.kept (hn _ (by simp only []; omega))), (h.qs.kept (hn _ (by simp only []; omega))), fun q' h8 => ⟨(h.q h8).kept (hn _ (by simp only []; omega)), (h.rs h8).kept (hn _ (by simp only []; omega)), (h.ju h8).kept (hn _ (by simp only []; omega))⟩, fun q' y' h8 h4 => ⟨(h.r h8 h4).kept (hn _ (by simp only []; omega)), (h.rd h8 h4).kept (hn _ (by simp only []; omega)), (h.rc h8 h4).kept (hn _ (by simp only []; omega))⟩, (h.cl.kept (hn _ (by simp only []; omega))), (h.ld.kept (hn _ (by simp only []; omega))), (h.lg.kept (hn _ (by simp only []; omega))), (h.lc.kept (hn _ (by simp only []; omega))), h1⟩
end
