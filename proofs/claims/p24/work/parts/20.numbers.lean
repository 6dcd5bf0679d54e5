/-! ===== numbers: an Int32 and an Int64 by their whole numbers ===== -/
def zI (z : Int) : Int32 := Int32.ofInt z
def lI (z : Int) : Int64 := Int64.ofInt z
theorem zI_add (a b : Int) : zI a + zI b = zI (a + b) := (Int32.ofInt_add a b).symm
theorem zI_sub (a b : Int) : zI a - zI b = zI (a - b) := (Int32.ofInt_sub a b).symm
theorem zI_mul (a b : Int) : zI a * zI b = zI (a * b) := (Int32.ofInt_mul a b).symm
theorem zI_neg (a : Int) : -zI a = zI (-a) := Int32.neg_ofInt
theorem zI_of (x : Int32) : x = zI x.toInt := (Int32.ofInt_toInt x).symm
theorem zI_toInt {z : Int} (h : -2147483648 ≤ z ∧ z < 2147483648) : (zI z).toInt = z := Int32.toInt_ofInt_of_le h.1 h.2
theorem zI_lt {a b : Int} (h : -2147483648 ≤ a ∧ a < 2147483648 ∧ -2147483648 ≤ b ∧ b < 2147483648) : zI a < zI b ↔ a < b := by
  rw [Int32.lt_iff_toInt_lt, zI_toInt ⟨h.1, h.2.1⟩, zI_toInt h.2.2]
theorem zI_le {a b : Int} (h : -2147483648 ≤ a ∧ a < 2147483648 ∧ -2147483648 ≤ b ∧ b < 2147483648) : zI a ≤ zI b ↔ a ≤ b := by
  rw [Int32.le_iff_toInt_le, zI_toInt ⟨h.1, h.2.1⟩, zI_toInt h.2.2]
theorem zI_inj {a b : Int} (h : -2147483648 ≤ a ∧ a < 2147483648 ∧ -2147483648 ≤ b ∧ b < 2147483648) : zI a = zI b ↔ a = b := by
  rw [← Int32.toInt_inj, zI_toInt ⟨h.1, h.2.1⟩, zI_toInt h.2.2]
theorem zI_0 : zI 0 = 0 := by decide +kernel
theorem zI_cl {k : Nat} (h : k < 2147483648) : (zI (k : Int)).toNatClampNeg = k := by
  rw [Int32.toNatClampNeg, zI_toInt (by omega)]; rfl
theorem zI_in {k n : Nat} (h : k < n) (hn : n < 2147483648) : vp_in (zI (k : Int)) n := by
  rw [vp_in_iff, zI_toInt (by omega)]; omega
theorem zI_div {a b : Int} (ha : 0 ≤ a ∧ a < 2147483648) (hb : 0 < b ∧ b < 2147483648) : zI a / zI b = zI (a / b) := by
  have hq : 0 ≤ a / b := Int.ediv_nonneg ha.1 (by omega)
  have hq2 : a / b ≤ a := Int.ediv_le_self b ha.1
  rw [← Int32.toInt_inj, zI_toInt (by omega), lg_idiv_nonneg (by rw [zI_toInt (by omega)]; omega) (by rw [zI_toInt (by omega)]; omega), zI_toInt (by omega), zI_toInt (by omega)]
theorem zI_rem {a b : Int} (ha : 0 ≤ a ∧ a < 2147483648) (hb : 0 < b ∧ b < 2147483648) : zI a - zI a / zI b * zI b = zI (a % b) := by
  rw [zI_div ha hb, zI_mul, zI_sub]
  congr 1
  have := Int.mul_ediv_add_emod a b
  rw [Int.mul_comm]; omega
theorem zI_nat (n : Nat) : nI n = zI (n : Int) := Int32.ofInt_eq_ofNat.symm
theorem zI_shr {a q : Nat} (ha : a < 2147483648) (hq : q < 32) : zI (a : Int) >>> (zI (q : Int) &&& 31) = zI ((a / 2 ^ q : Nat) : Int) := by
  rw [← zI_nat, ← zI_nat, ← zI_nat]
  have key : ∀ q : Fin 32, ((nI q.val &&& 31).toBitVec.smod 32).toNat = q.val := by decide +kernel
  exact pk_shrN ha _ q (key ⟨q, hq⟩)
theorem zI_and1 (a : Nat) (ha : a < 2147483648) : zI (a : Int) &&& zI 1 = zI ((a % 2 : Nat) : Int) := by
  rw [← zI_nat, ← zI_nat]
  exact pk_andN (by omega) 1 (by decide +kernel)
theorem lI_add (a b : Int) : lI a + lI b = lI (a + b) := (Int64.ofInt_add a b).symm
theorem lI_sub (a b : Int) : lI a - lI b = lI (a - b) := (Int64.ofInt_sub a b).symm
theorem lI_mul (a b : Int) : lI a * lI b = lI (a * b) := (Int64.ofInt_mul a b).symm
theorem lI_toInt {z : Int} (h : -9223372036854775808 ≤ z ∧ z < 9223372036854775808) : (lI z).toInt = z := Int64.toInt_ofInt_of_le h.1 h.2
theorem lI_of (x : Int64) : x = lI x.toInt := (Int64.ofInt_toInt x).symm
theorem lI_inj {a b : Int} (h : -9223372036854775808 ≤ a ∧ a < 9223372036854775808 ∧ -9223372036854775808 ≤ b ∧ b < 9223372036854775808) : lI a = lI b ↔ a = b := by
  rw [← Int64.toInt_inj, lI_toInt ⟨h.1, h.2.1⟩, lI_toInt h.2.2]
theorem lI_lt {a b : Int} (h : -9223372036854775808 ≤ a ∧ a < 9223372036854775808 ∧ -9223372036854775808 ≤ b ∧ b < 9223372036854775808) : lI a < lI b ↔ a < b := by
  rw [Int64.lt_iff_toInt_lt, lI_toInt ⟨h.1, h.2.1⟩, lI_toInt h.2.2]
theorem lI_z {a : Int} (h : -2147483648 ≤ a ∧ a < 2147483648) : (zI a).toInt64 = lI a := by
  rw [← Int64.toInt_inj, Int32.toInt_toInt64, zI_toInt h, lI_toInt (by omega)]
theorem lI_div {a b : Int} (ha : 0 ≤ a ∧ a < 9223372036854775808) (hb : 0 < b ∧ b < 9223372036854775808) : lI a / lI b = lI (a / b) := by
  have hq : 0 ≤ a / b := Int.ediv_nonneg ha.1 (by omega)
  have hq2 : a / b ≤ a := Int.ediv_le_self b ha.1
  rw [← Int64.toInt_inj, lI_toInt (by omega), lg_ldiv_nonneg (by rw [lI_toInt (by omega)]; omega) (by rw [lI_toInt (by omega)]; omega), lI_toInt (by omega), lI_toInt (by omega)]
theorem lI_rem {a b : Int} (ha : 0 ≤ a ∧ a < 9223372036854775808) (hb : 0 < b ∧ b < 9223372036854775808) : lI a - lI a / lI b * lI b = lI (a % b) := by
  rw [lI_div ha hb, lI_mul, lI_sub]
  congr 1
  have := Int.mul_ediv_add_emod a b
  rw [Int.mul_comm]; omega
/-- -1, 0 or 1, as lcmp leaves it -/
def cmpZ (a b : Int) : Int := if a < b then -1 else if a = b then 0 else 1
theorem cmpZ_rng (a b : Int) : -1 ≤ cmpZ a b ∧ cmpZ a b ≤ 1 := by
  unfold cmpZ; split <;> (try split) <;> omega
theorem cmpZ_le (a b : Int) : cmpZ a b ≤ 0 ↔ a ≤ b := by
  unfold cmpZ; split <;> (try split) <;> omega
theorem cmpZ_eq (a b : Int) : cmpZ a b = 0 ↔ a = b := by
  unfold cmpZ; split <;> (try split) <;> omega
/-- a truth value on the stack -/
def bI (P : Prop) [Decidable P] : Int := if P then 1 else 0
theorem bI_0 {P : Prop} [Decidable P] : bI P = 0 ↔ ¬ P := by unfold bI; split <;> simp_all
theorem bI_t {P : Prop} [Decidable P] (h : P) : bI P = 1 := if_pos h
theorem bI_f {P : Prop} [Decidable P] (h : ¬ P) : bI P = 0 := if_neg h
theorem bI_rng (P : Prop) [Decidable P] : 0 ≤ bI P ∧ bI P ≤ 1 := by unfold bI; split <;> omega
theorem bI_congr {P Q : Prop} [Decidable P] [Decidable Q] (h : P ↔ Q) : bI P = bI Q := by
  unfold bI; by_cases hq : Q
  · rw [if_pos hq, if_pos (h.mpr hq)]
  · rw [if_neg hq, if_neg (fun x => hq (h.mp x))]
theorem x_nz {b : Int} (h : 0 < b ∧ b < 2147483648) : ¬ zI b = 0 := by
  intro q
  have := congrArg Int32.toInt q
  rw [zI_toInt (by omega), Int32.toInt_zero] at this
  omega
theorem x_nzl {b : Int} (h : 0 < b ∧ b < 9223372036854775808) : ¬ lI b = 0 := by
  intro q
  have := congrArg Int64.toInt q
  rw [lI_toInt (by omega), Int64.toInt_zero] at this
  omega
theorem x_cmp {a b : Int} (hr : -9223372036854775808 ≤ a ∧ a < 9223372036854775808 ∧ -9223372036854775808 ≤ b ∧ b < 9223372036854775808) : lg_cmp (lI a) (lI b) = zI (cmpZ a b) := by
  unfold lg_cmp cmpZ
  have h1 : (lI a > lI b) ↔ b < a := lI_lt ⟨hr.2.2.1, hr.2.2.2, hr.1, hr.2.1⟩
  have h2 := lI_inj hr
  by_cases hba : b < a
  · rw [if_pos (h1.mpr hba), if_neg (by omega), if_neg (by omega)]; decide +kernel
  · rw [if_neg (fun q => hba (h1.mp q))]
    by_cases he : a = b
    · rw [if_pos (h2.mpr he), if_neg (by omega), if_pos he]; decide +kernel
    · rw [if_neg (fun q => he (h2.mp q)), if_pos (by omega)]; decide +kernel
theorem x_sw {a b : Int} (h : -2147483648 ≤ a ∧ a < 2147483648 ∧ -2147483648 ≤ b ∧ b < 2147483648) : -2147483648 ≤ b ∧ b < 2147483648 ∧ -2147483648 ≤ a ∧ a < 2147483648 := ⟨h.2.2.1, h.2.2.2, h.1, h.2.1⟩
theorem x_w0 {a : Int} (h : -2147483648 ≤ a ∧ a < 2147483648) : -2147483648 ≤ a ∧ a < 2147483648 ∧ -2147483648 ≤ (0 : Int) ∧ (0 : Int) < 2147483648 := by omega
theorem x_bw (P : Prop) [Decidable P] : -2147483648 ≤ bI P ∧ bI P < 2147483648 := by have := bI_rng P; omega
