/-- what the heap holds behind a method -/
abbrev hpw (Pw : Heap → Prop) : Unit → State → Prop := fun _ t => ∃ Hx : Heap, t.heap = Hx ∧ Pw Hx
section XR4
variable {p : Program} {l : Launch} {e : Env} {R : Room} {s : State} {m : MethodId} {args : Array Value} {below : List Frame} {meth : Method} {c : Code} {H : Heap} {locs : List Loc} {cells slots : Nat} {Q : State → Prop} {cc : ByteArray} {pc : Nat} {ls : Array Slot} {rest : List Value}
theorem x_loopH1 {A1 : Type} {nL : Nat} (I : A1 → Heap → List Loc → Prop) (μ : A1 → Nat) (loc : A1 → List (Nat × Value)) (a1 : A1) (h0 : I a1 H locs) (hl : lv_has ls nL (loc a1)) (step : ∀ (b1 : A1) (H1 : Heap) (locs1 : List Loc) (ls' : Array Slot), I b1 H1 locs1 → lv_has ls' nL (loc b1) → (∀ (c1 : A1) (H2 : Heap) (locs2 : List Loc) (ls'' : Array Slot), I c1 H2 locs2 → μ c1 < μ b1 → lv_has ls'' nL (loc c1) → W p l e R s m args below meth c H2 locs2 cells slots Q (F0 m pc ls'' rest)) → W p l e R s m args below meth c H1 locs1 cells slots Q (F0 m pc ls' rest)) : W p l e R s m args below meth c H locs cells slots Q (F0 m pc ls rest) := by
  have key : ∀ (n : Nat) (b1 : A1) (H1 : Heap) (locs1 : List Loc) (ls' : Array Slot), μ b1 < n → I b1 H1 locs1 → lv_has ls' nL (loc b1) → W p l e R s m args below meth c H1 locs1 cells slots Q (F0 m pc ls' rest) := by
    intro n
    induction n with
    | zero => intro b1 H1 locs1 ls' h; exact absurd h (Nat.not_lt_zero _)
    | succ n ih =>
      intro b1 H1 locs1 ls' h hI hl
      exact step b1 H1 locs1 ls' hI hl (fun c1 H2 locs2 ls'' hI' hm hl' => ih c1 H2 locs2 ls'' (by omega) hI' hl')
  exact key (μ a1 + 1) a1 H locs ls (Nat.lt_succ_self _) h0 hl
theorem x_loopH2 {A1 A2 : Type} {nL : Nat} (I : A1 → A2 → Heap → List Loc → Prop) (μ : A1 → A2 → Nat) (loc : A1 → A2 → List (Nat × Value)) (a1 : A1) (a2 : A2) (h0 : I a1 a2 H locs) (hl : lv_has ls nL (loc a1 a2)) (step : ∀ (b1 : A1) (b2 : A2) (H1 : Heap) (locs1 : List Loc) (ls' : Array Slot), I b1 b2 H1 locs1 → lv_has ls' nL (loc b1 b2) → (∀ (c1 : A1) (c2 : A2) (H2 : Heap) (locs2 : List Loc) (ls'' : Array Slot), I c1 c2 H2 locs2 → μ c1 c2 < μ b1 b2 → lv_has ls'' nL (loc c1 c2) → W p l e R s m args below meth c H2 locs2 cells slots Q (F0 m pc ls'' rest)) → W p l e R s m args below meth c H1 locs1 cells slots Q (F0 m pc ls' rest)) : W p l e R s m args below meth c H locs cells slots Q (F0 m pc ls rest) := by
  have key : ∀ (n : Nat) (b1 : A1) (b2 : A2) (H1 : Heap) (locs1 : List Loc) (ls' : Array Slot), μ b1 b2 < n → I b1 b2 H1 locs1 → lv_has ls' nL (loc b1 b2) → W p l e R s m args below meth c H1 locs1 cells slots Q (F0 m pc ls' rest) := by
    intro n
    induction n with
    | zero => intro b1 b2 H1 locs1 ls' h; exact absurd h (Nat.not_lt_zero _)
    | succ n ih =>
      intro b1 b2 H1 locs1 ls' h hI hl
      exact step b1 b2 H1 locs1 ls' hI hl (fun c1 c2 H2 locs2 ls'' hI' hm hl' => ih c1 c2 H2 locs2 ls'' (by omega) hI' hl')
  exact key (μ a1 a2 + 1) a1 a2 H locs ls (Nat.lt_succ_self _) h0 hl
theorem x_loopH3 {A1 A2 A3 : Type} {nL : Nat} (I : A1 → A2 → A3 → Heap → List Loc → Prop) (μ : A1 → A2 → A3 → Nat) (loc : A1 → A2 → A3 → List (Nat × Value)) (a1 : A1) (a2 : A2) (a3 : A3) (h0 : I a1 a2 a3 H locs) (hl : lv_has ls nL (loc a1 a2 a3)) (step : ∀ (b1 : A1) (b2 : A2) (b3 : A3) (H1 : Heap) (locs1 : List Loc) (ls' : Array Slot), I b1 b2 b3 H1 locs1 → lv_has ls' nL (loc b1 b2 b3) → (∀ (c1 : A1) (c2 : A2) (c3 : A3) (H2 : Heap) (locs2 : List Loc) (ls'' : Array Slot), I c1 c2 c3 H2 locs2 → μ c1 c2 c3 < μ b1 b2 b3 → lv_has ls'' nL (loc c1 c2 c3) → W p l e R s m args below meth c H2 locs2 cells slots Q (F0 m pc ls'' rest)) → W p l e R s m args below meth c H1 locs1 cells slots Q (F0 m pc ls' rest)) : W p l e R s m args below meth c H locs cells slots Q (F0 m pc ls rest) := by
  have key : ∀ (n : Nat) (b1 : A1) (b2 : A2) (b3 : A3) (H1 : Heap) (locs1 : List Loc) (ls' : Array Slot), μ b1 b2 b3 < n → I b1 b2 b3 H1 locs1 → lv_has ls' nL (loc b1 b2 b3) → W p l e R s m args below meth c H1 locs1 cells slots Q (F0 m pc ls' rest) := by
    intro n
    induction n with
    | zero => intro b1 b2 b3 H1 locs1 ls' h; exact absurd h (Nat.not_lt_zero _)
    | succ n ih =>
      intro b1 b2 b3 H1 locs1 ls' h hI hl
      exact step b1 b2 b3 H1 locs1 ls' hI hl (fun c1 c2 c3 H2 locs2 ls'' hI' hm hl' => ih c1 c2 c3 H2 locs2 ls'' (by omega) hI' hl')
  exact key (μ a1 a2 a3 + 1) a1 a2 a3 H locs ls (Nat.lt_succ_self _) h0 hl
theorem x_loopH4 {A1 A2 A3 A4 : Type} {nL : Nat} (I : A1 → A2 → A3 → A4 → Heap → List Loc → Prop) (μ : A1 → A2 → A3 → A4 → Nat) (loc : A1 → A2 → A3 → A4 → List (Nat × Value)) (a1 : A1) (a2 : A2) (a3 : A3) (a4 : A4) (h0 : I a1 a2 a3 a4 H locs) (hl : lv_has ls nL (loc a1 a2 a3 a4)) (step : ∀ (b1 : A1) (b2 : A2) (b3 : A3) (b4 : A4) (H1 : Heap) (locs1 : List Loc) (ls' : Array Slot), I b1 b2 b3 b4 H1 locs1 → lv_has ls' nL (loc b1 b2 b3 b4) → (∀ (c1 : A1) (c2 : A2) (c3 : A3) (c4 : A4) (H2 : Heap) (locs2 : List Loc) (ls'' : Array Slot), I c1 c2 c3 c4 H2 locs2 → μ c1 c2 c3 c4 < μ b1 b2 b3 b4 → lv_has ls'' nL (loc c1 c2 c3 c4) → W p l e R s m args below meth c H2 locs2 cells slots Q (F0 m pc ls'' rest)) → W p l e R s m args below meth c H1 locs1 cells slots Q (F0 m pc ls' rest)) : W p l e R s m args below meth c H locs cells slots Q (F0 m pc ls rest) := by
  have key : ∀ (n : Nat) (b1 : A1) (b2 : A2) (b3 : A3) (b4 : A4) (H1 : Heap) (locs1 : List Loc) (ls' : Array Slot), μ b1 b2 b3 b4 < n → I b1 b2 b3 b4 H1 locs1 → lv_has ls' nL (loc b1 b2 b3 b4) → W p l e R s m args below meth c H1 locs1 cells slots Q (F0 m pc ls' rest) := by
    intro n
    induction n with
    | zero => intro b1 b2 b3 b4 H1 locs1 ls' h; exact absurd h (Nat.not_lt_zero _)
    | succ n ih =>
      intro b1 b2 b3 b4 H1 locs1 ls' h hI hl
      exact step b1 b2 b3 b4 H1 locs1 ls' hI hl (fun c1 c2 c3 c4 H2 locs2 ls'' hI' hm hl' => ih c1 c2 c3 c4 H2 locs2 ls'' (by omega) hI' hl')
  exact key (μ a1 a2 a3 a4 + 1) a1 a2 a3 a4 H locs ls (Nat.lt_succ_self _) h0 hl
theorem x_loopH5 {A1 A2 A3 A4 A5 : Type} {nL : Nat} (I : A1 → A2 → A3 → A4 → A5 → Heap → List Loc → Prop) (μ : A1 → A2 → A3 → A4 → A5 → Nat) (loc : A1 → A2 → A3 → A4 → A5 → List (Nat × Value)) (a1 : A1) (a2 : A2) (a3 : A3) (a4 : A4) (a5 : A5) (h0 : I a1 a2 a3 a4 a5 H locs) (hl : lv_has ls nL (loc a1 a2 a3 a4 a5)) (step : ∀ (b1 : A1) (b2 : A2) (b3 : A3) (b4 : A4) (b5 : A5) (H1 : Heap) (locs1 : List Loc) (ls' : Array Slot), I b1 b2 b3 b4 b5 H1 locs1 → lv_has ls' nL (loc b1 b2 b3 b4 b5) → (∀ (c1 : A1) (c2 : A2) (c3 : A3) (c4 : A4) (c5 : A5) (H2 : Heap) (locs2 : List Loc) (ls'' : Array Slot), I c1 c2 c3 c4 c5 H2 locs2 → μ c1 c2 c3 c4 c5 < μ b1 b2 b3 b4 b5 → lv_has ls'' nL (loc c1 c2 c3 c4 c5) → W p l e R s m args below meth c H2 locs2 cells slots Q (F0 m pc ls'' rest)) → W p l e R s m args below meth c H1 locs1 cells slots Q (F0 m pc ls' rest)) : W p l e R s m args below meth c H locs cells slots Q (F0 m pc ls rest) := by
  have key : ∀ (n : Nat) (b1 : A1) (b2 : A2) (b3 : A3) (b4 : A4) (b5 : A5) (H1 : Heap) (locs1 : List Loc) (ls' : Array Slot), μ b1 b2 b3 b4 b5 < n → I b1 b2 b3 b4 b5 H1 locs1 → lv_has ls' nL (loc b1 b2 b3 b4 b5) → W p l e R s m args below meth c H1 locs1 cells slots Q (F0 m pc ls' rest) := by
    intro n
    induction n with
    | zero => intro b1 b2 b3 b4 b5 H1 locs1 ls' h; exact absurd h (Nat.not_lt_zero _)
    | succ n ih =>
      intro b1 b2 b3 b4 b5 H1 locs1 ls' h hI hl
      exact step b1 b2 b3 b4 b5 H1 locs1 ls' hI hl (fun c1 c2 c3 c4 c5 H2 locs2 ls'' hI' hm hl' => ih c1 c2 c3 c4 c5 H2 locs2 ls'' (by omega) hI' hl')
  exact key (μ a1 a2 a3 a4 a5 + 1) a1 a2 a3 a4 a5 H locs ls (Nat.lt_succ_self _) h0 hl
theorem x_wI {z : Int} {Pw : Heap → Prop} {A0 A1 : Nat → Prop} {H0 : Heap} {free : Addr → Prop} {mc ms : Nat} {a : Array Value} {st0 : List Value} (hr : va_Run p l e R s m args below meth c H locs cells slots mc ms (F0 m pc ls st0) rest (va_Qi (fun r (_ : Unit) => r = zI z) (hpw Pw) A1 a) free) (hS : va_S A0 H0 H locs) (hA : ∀ q, q < H.size → A1 q → A0 q) (hf : ∀ q, free q → A0 q)
    (kk : ∀ (H1 : Heap) (locs1 : List Loc), Pw H1 → H.size ≤ H1.size → (∀ q : Nat, q < H.size → ¬ A1 q → H1[q]? = H[q]?) → va_S A0 H0 H1 locs1 → W p l e R s m args below meth c H1 locs1 (cells + mc) (slots + ms) Q (F0 m (pc + 3) ls (.int (zI z) :: rest))) : W p l e R s m args below meth c H locs cells slots Q (F0 m pc ls st0) :=
  va_calli hr hS hA hf (fun r u t H1 locs1 ht hvm hp hB hz hk hS1 => by subst hp; obtain ⟨Hx, hx9, hB⟩ := hB; cases ht.symm.trans hx9; exact kk H1 locs1 hB hz hk hS1)
theorem x_wL {z : Int} {Pw : Heap → Prop} {A0 A1 : Nat → Prop} {H0 : Heap} {free : Addr → Prop} {mc ms : Nat} {a : Array Value} {st0 : List Value} (hr : va_Run p l e R s m args below meth c H locs cells slots mc ms (F0 m pc ls st0) rest (va_Ql (fun r (_ : Unit) => r = lI z) (hpw Pw) A1 a) free) (hS : va_S A0 H0 H locs) (hA : ∀ q, q < H.size → A1 q → A0 q) (hf : ∀ q, free q → A0 q)
    (kk : ∀ (H1 : Heap) (locs1 : List Loc), Pw H1 → H.size ≤ H1.size → (∀ q : Nat, q < H.size → ¬ A1 q → H1[q]? = H[q]?) → va_S A0 H0 H1 locs1 → W p l e R s m args below meth c H1 locs1 (cells + mc) (slots + ms) Q (F0 m (pc + 3) ls (.long (lI z) :: rest))) : W p l e R s m args below meth c H locs cells slots Q (F0 m pc ls st0) :=
  va_calll hr hS hA hf (fun r u t H1 locs1 ht hvm hp hB hz hk hS1 => by subst hp; obtain ⟨Hx, hx9, hB⟩ := hB; cases ht.symm.trans hx9; exact kk H1 locs1 hB hz hk hS1)
theorem x_wV {Pw : Heap → Prop} {A0 A1 : Nat → Prop} {H0 : Heap} {free : Addr → Prop} {mc ms : Nat} {a : Array Value} {st0 : List Value} (hr : va_Run p l e R s m args below meth c H locs cells slots mc ms (F0 m pc ls st0) rest (va_Qv (fun (_ : Unit) => True) (hpw Pw) A1 a) free) (hS : va_S A0 H0 H locs) (hA : ∀ q, q < H.size → A1 q → A0 q) (hf : ∀ q, free q → A0 q)
    (kk : ∀ (H1 : Heap) (locs1 : List Loc), Pw H1 → H.size ≤ H1.size → (∀ q : Nat, q < H.size → ¬ A1 q → H1[q]? = H[q]?) → va_S A0 H0 H1 locs1 → W p l e R s m args below meth c H1 locs1 (cells + mc) (slots + ms) Q (F0 m (pc + 3) ls (rest))) : W p l e R s m args below meth c H locs cells slots Q (F0 m pc ls st0) :=
  va_callv hr hS hA hf (fun u t H1 locs1 ht hvm hp hB hz hk hS1 => by obtain ⟨Hx, hx9, hB⟩ := hB; cases ht.symm.trans hx9; exact kk H1 locs1 hB hz hk hS1)
end XR4
/-- contracts of methods that write: what is answered, what the heap holds then, where they write -/
abbrev MetWI (l : Launch) (y : MethodName) (ws : List Cond) (rm : Room) (Pc : Array Value → State → Prop) (z : Int) (Pw : Heap → Prop) (A : Nat → Prop) : Prop := Met l y ws rm Pc (va_Qi (fun r (_ : Unit) => r = zI z) (hpw Pw) A) 0 0 A
abbrev MetWL (l : Launch) (y : MethodName) (ws : List Cond) (rm : Room) (Pc : Array Value → State → Prop) (z : Int) (Pw : Heap → Prop) (A : Nat → Prop) : Prop := Met l y ws rm Pc (va_Ql (fun r (_ : Unit) => r = lI z) (hpw Pw) A) 0 0 A
abbrev MetWV (l : Launch) (y : MethodName) (ws : List Cond) (rm : Room) (Pc : Array Value → State → Prop) (Pw : Heap → Prop) (A : Nat → Prop) : Prop := Met l y ws rm Pc (va_Qv (fun (_ : Unit) => True) (hpw Pw) A) 0 0 A
