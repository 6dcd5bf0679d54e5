/-! ===== the classes of the arrays: int, boolean, Question, Run, long ===== -/
abbrev XG : Type := va_G × ClassId × ClassId × ClassId × ClassId × ClassId
theorem x_one {D : va_G} {cl : List vw_C} {q : Nat × va_E} {H : Heap} (h : va_at D cl q H) : va_P D cl [q] H := by
  intro k r hk
  cases k with
  | zero => cases hk; exact h
  | succ k => simp at hk
def xk_nest : List Cond := [
  .methodLinkNest RX3 106 yX1_reciprocalParts RX3,
  .methodLinkNest RX3 110 yX1_reciprocalWhole RX3,
  .methodLinkNest RX3 124 yX0_restart RX3,
  .methodLinkNest RX3 127 yX0_takeFrom RX3,
  .methodLinkNest RX3 147 yX0_clicksFor RX3,
  .methodLinkNest RX3 15 yX1_init RX3,
  .methodLinkNest RX3 172 yX1_relevantWithin RX3,
  .methodLinkNest RX3 18 yX0_init RX3,
  .methodLinkNest RX3 59 yX2_rankOf RX3,
  .methodLinkNest RX3 65 yX2_endsBelow RX3,
  .methodLinkNest RX3 71 yX2_add RX3,
  .methodLinkNest RX3 78 yX2_documentAt RX3,
  .methodLinkNest RX3 86 yX1_poolSize RX3,
  .methodLinkNest RX3 89 yX1_firstUnjudged RX3,
  .methodLinkNest RX3 96 yX1_meanHitParts RX3,
  .methodLinkNest RX0 38 yX2_documentAt RX3,
  .methodLinkNest RX1 17 yX2_init RX3,
  .methodLinkNest RX1 22 yX2_rankOf RX3,
  .methodLinkNest RX1 30 yX2_documentAt RX3,
  .methodLinkNest RX1 41 yX2_firstTied RX3,
  .methodLinkNest RX1 44 yX2_lastTied RX3,
  .methodLinkNest RX1 70 yX3_subsets RX3,
  .fieldLinkNest RX3 131 "JudgedRuns$CrossedList" "count" "I" RX3,
  .fieldLinkNest RX3 138 "JudgedRuns$CrossedList" "clicked" "[Z" RX3,
  .fieldLinkNest RX3 144 "JudgedRuns$CrossedList" "givers" "[I" RX3,
  .fieldLinkNest RX3 44 "JudgedRuns$Question" "runs" "[LJudgedRuns$Run;" RX3,
  .fieldLinkNest RX3 48 "JudgedRuns$Run" "count" "I" RX3,
  .fieldLinkNest RX3 83 "JudgedRuns$Question" "judgements" "[I" RX3,
  .fieldLinkNest RX0 35 "JudgedRuns$Run" "count" "I" RX3,
  .fieldLinkNest RX1 33 "JudgedRuns$Run" "count" "I" RX3]
/-- what the tables say -/
def XK (G : XG) (s : State) : Prop := va_K G.1 vwCl [(G.2.1, .int), (G.2.2.1, .boolean), (G.2.2.2.1, .object RX1), (G.2.2.2.2.1, .object RX2)] s ∧ ∀ w ∈ xk_nest, va_Nw w s
theorem x_nestM {a : String} {i : Nat} {y : MethodName} {h : String} {G : XG} {s : State} (hK : XK G s) (hw : Cond.methodLinkNest a i y h ∈ xk_nest) : va_Nw (.methodLinkNest a i y h) s := hK.2 _ hw
theorem XK.warm {G : XG} {s U : State} (h : XK G s) (hW : s.WarmedH U.vm) : XK G U := by
  refine ⟨va_K.moved hW.alike h.1, fun w hw => ?_⟩
  have h2 := h.2 w hw
  simp only [xk_nest, List.mem_cons, List.not_mem_nil, or_false] at hw
  rcases hw with rfl | rfl | rfl | rfl | rfl | rfl | rfl | rfl | rfl | rfl | rfl | rfl | rfl | rfl | rfl | rfl | rfl | rfl | rfl | rfl | rfl | rfl | rfl | rfl | rfl | rfl | rfl | rfl | rfl | rfl <;> first | exact va_Nw.warmM hW h2 | exact va_Nw.warmF hW h2
/-! ===== the state: of each question's and system's run the length, the documents, the scores; the judgements; the crossed list's length, documents, givers, clicks ===== -/
abbrev XB : Type := (Nat → Nat → Nat) × (Nat → Nat → Nat → Nat) × (Nat → Nat → Nat → Nat) × (Nat → Nat → Nat) × Nat × (Nat → Nat) × (Nat → Nat) × (Nat → Nat)
def bN (b : XB) (q s : Nat) : Nat := b.1 q s
def bD (b : XB) (q s k : Nat) : Nat := b.2.1 q s k
def bS (b : XB) (q s k : Nat) : Nat := b.2.2.1 q s k
def bJ (b : XB) (q d : Nat) : Nat := b.2.2.2.1 q d
def bL (b : XB) : Nat := b.2.2.2.2.1
def bLD (b : XB) (k : Nat) : Nat := b.2.2.2.2.2.1 k
def bLG (b : XB) (k : Nat) : Nat := b.2.2.2.2.2.2.1 k
def bLC (b : XB) (k : Nat) : Nat := b.2.2.2.2.2.2.2 k
def bInv (b : XB) : Prop := (∀ q s, bN b q s ≤ 20) ∧ (∀ q s k, bD b q s k < 40) ∧ (∀ q s k, bS b q s k ≤ 1000) ∧ (∀ q d, bJ b q d ≤ 2) ∧ bL b ≤ 20 ∧ (∀ k, bLD b k < 40) ∧ (∀ k, bLG b k < 4) ∧ ∀ k, bLC b k ≤ 1
theorem bInv.n {b : XB} (h : bInv b) (q s : Nat) : bN b q s ≤ 20 := h.1 q s
theorem bInv.d {b : XB} (h : bInv b) (q s k : Nat) : bD b q s k < 40 := h.2.1 q s k
theorem bInv.s {b : XB} (h : bInv b) (q s k : Nat) : bS b q s k ≤ 1000 := h.2.2.1 q s k
theorem bInv.j {b : XB} (h : bInv b) (q d : Nat) : bJ b q d ≤ 2 := h.2.2.2.1 q d
theorem bInv.l {b : XB} (h : bInv b) : bL b ≤ 20 := h.2.2.2.2.1
theorem bInv.ld {b : XB} (h : bInv b) (k : Nat) : bLD b k < 40 := h.2.2.2.2.2.1 k
theorem bInv.lg {b : XB} (h : bInv b) (k : Nat) : bLG b k < 4 := h.2.2.2.2.2.2.1 k
theorem bInv.lc {b : XB} (h : bInv b) (k : Nat) : bLC b k ≤ 1 := h.2.2.2.2.2.2.2 k
/-- an int array's cell -/
abbrev eI (G : XG) (n : Nat) (F : Nat → Int) : va_E := .inl (G.2.1, n, .inl (fun k => zI (F k)))
abbrev eZ (G : XG) (n : Nat) (F : Nat → Int) : va_E := .inl (G.2.2.1, n, .inl (fun k => zI (F k)))
abbrev eQ (G : XG) (n : Nat) (F : Nat → Nat) : va_E := .inl (G.2.2.2.1, n, .inr (.inr (.inr (.inr (fun k => some (F k))))))
abbrev eR (G : XG) (n : Nat) (F : Nat → Nat) : va_E := .inl (G.2.2.2.2.1, n, .inr (.inr (.inr (.inr (fun k => some (F k))))))
abbrev va1 (G : XG) (a : Nat) (e : va_E) (H : Heap) : Prop := va_at G.1 vwCl (a, e) H
/-- the JudgedRuns at o: its cells lie from o to o + 126 -/
def BW (G : XG) (o : Nat) (b : XB) (lim : Int) (dif : Nat → Int) (H : Heap) : Prop :=
  va1 G o (.inr (3, [.ref (o + 1), .ref (o + 122), .ref (o + 126)])) H ∧
  va1 G (o + 1) (eQ G 8 (fun q => o + 2 + 15 * q)) H ∧
  (∀ q, q < 8 → va1 G (o + 2 + 15 * q) (.inr (1, [.ref (o + 2 + 15 * q + 1), .ref (o + 2 + 15 * q + 14)])) H ∧
    va1 G (o + 2 + 15 * q + 1) (eR G 4 (fun s => o + 2 + 15 * q + 2 + 3 * s)) H ∧
    va1 G (o + 2 + 15 * q + 14) (eI G 40 (fun d => (bJ b q d : Int))) H) ∧
  (∀ q s, q < 8 → s < 4 → va1 G (o + 2 + 15 * q + 2 + 3 * s) (.inr (2, [.ref (o + 2 + 15 * q + 2 + 3 * s + 1), .ref (o + 2 + 15 * q + 2 + 3 * s + 2), .int (zI (bN b q s))])) H ∧
    va1 G (o + 2 + 15 * q + 2 + 3 * s + 1) (eI G 20 (fun k => (bD b q s k : Int))) H ∧
    va1 G (o + 2 + 15 * q + 2 + 3 * s + 2) (eI G 20 (fun k => (bS b q s k : Int))) H) ∧
  va1 G (o + 122) (.inr (0, [.ref (o + 123), .ref (o + 124), .ref (o + 125), .int (zI lim), .int (zI (bL b))])) H ∧
  va1 G (o + 123) (eI G 20 (fun k => (bLD b k : Int))) H ∧
  va1 G (o + 124) (eI G 20 (fun k => (bLG b k : Int))) H ∧
  va1 G (o + 125) (eZ G 20 (fun k => (bLC b k : Int))) H ∧
  va1 G (o + 126) (eI G 8 dif) H
section
variable {G : XG} {o : Nat} {b : XB} {lim : Int} {dif : Nat → Int} {H : Heap}
theorem BW.jr (h : BW G o b lim dif H) : va1 G o (.inr (3, [.ref (o + 1), .ref (o + 122), .ref (o + 126)])) H := h.1
theorem BW.qs (h : BW G o b lim dif H) : va1 G (o + 1) (eQ G 8 (fun q => o + 2 + 15 * q)) H := h.2.1
theorem BW.q (h : BW G o b lim dif H) {q : Nat} (hq : q < 8) : va1 G (o + 2 + 15 * q) (.inr (1, [.ref (o + 2 + 15 * q + 1), .ref (o + 2 + 15 * q + 14)])) H := (h.2.2.1 q hq).1
theorem BW.rs (h : BW G o b lim dif H) {q : Nat} (hq : q < 8) : va1 G (o + 2 + 15 * q + 1) (eR G 4 (fun s => o + 2 + 15 * q + 2 + 3 * s)) H := (h.2.2.1 q hq).2.1
theorem BW.ju (h : BW G o b lim dif H) {q : Nat} (hq : q < 8) : va1 G (o + 2 + 15 * q + 14) (eI G 40 (fun d => (bJ b q d : Int))) H := (h.2.2.1 q hq).2.2
theorem BW.r (h : BW G o b lim dif H) {q s : Nat} (hq : q < 8) (hs : s < 4) : va1 G (o + 2 + 15 * q + 2 + 3 * s) (.inr (2, [.ref (o + 2 + 15 * q + 2 + 3 * s + 1), .ref (o + 2 + 15 * q + 2 + 3 * s + 2), .int (zI (bN b q s))])) H := (h.2.2.2.1 q s hq hs).1
theorem BW.rd (h : BW G o b lim dif H) {q s : Nat} (hq : q < 8) (hs : s < 4) : va1 G (o + 2 + 15 * q + 2 + 3 * s + 1) (eI G 20 (fun k => (bD b q s k : Int))) H := (h.2.2.2.1 q s hq hs).2.1
theorem BW.rc (h : BW G o b lim dif H) {q s : Nat} (hq : q < 8) (hs : s < 4) : va1 G (o + 2 + 15 * q + 2 + 3 * s + 2) (eI G 20 (fun k => (bS b q s k : Int))) H := (h.2.2.2.1 q s hq hs).2.2
theorem BW.cl (h : BW G o b lim dif H) : va1 G (o + 122) (.inr (0, [.ref (o + 123), .ref (o + 124), .ref (o + 125), .int (zI lim), .int (zI (bL b))])) H := h.2.2.2.2.1
theorem BW.ld (h : BW G o b lim dif H) : va1 G (o + 123) (eI G 20 (fun k => (bLD b k : Int))) H := h.2.2.2.2.2.1
theorem BW.lg (h : BW G o b lim dif H) : va1 G (o + 124) (eI G 20 (fun k => (bLG b k : Int))) H := h.2.2.2.2.2.2.1
theorem BW.lc (h : BW G o b lim dif H) : va1 G (o + 125) (eZ G 20 (fun k => (bLC b k : Int))) H := h.2.2.2.2.2.2.2.1
theorem BW.df (h : BW G o b lim dif H) : va1 G (o + 126) (eI G 8 dif) H := h.2.2.2.2.2.2.2.2
theorem BW.kept {H1 : Heap} (h : BW G o b lim dif H) (hq : ∀ a, o ≤ a → a < o + 127 → H1[a]? = H[a]?) : BW G o b lim dif H1 := by
  refine ⟨h.jr.kept (hq _ (by omega) (by omega)), h.qs.kept (hq _ (by omega) (by omega)), fun q h8 => ⟨(h.q h8).kept (hq _ (by simp only []; omega) (by simp only []; omega)), (h.rs h8).kept (hq _ (by simp only []; omega) (by simp only []; omega)), (h.ju h8).kept (hq _ (by simp only []; omega) (by simp only []; omega))⟩, fun q s h8 h4 => ⟨(h.r h8 h4).kept (hq _ (by simp only []; omega) (by simp only []; omega)), (h.rd h8 h4).kept (hq _ (by simp only []; omega) (by simp only []; omega)), (h.rc h8 h4).kept (hq _ (by simp only []; omega) (by simp only []; omega))⟩, h.cl.kept (hq _ (by simp only []; omega) (by simp only []; omega)), h.ld.kept (hq _ (by simp only []; omega) (by simp only []; omega)), h.lg.kept (hq _ (by simp only []; omega) (by simp only []; omega)), h.lc.kept (hq _ (by simp only []; omega) (by simp only []; omega)), h.df.kept (hq _ (by simp only []; omega) (by simp only []; omega))⟩
theorem BW.lt (h : BW G o b lim dif H) : o + 127 ≤ H.size := by
  have := h.df.lt
  simp only [] at this
  omega
end
