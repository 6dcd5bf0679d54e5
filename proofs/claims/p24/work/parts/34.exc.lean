/-! ===== what a throw of 'new IllegalArgumentException("..")' asks ===== -/
abbrev nIA : String := "java/lang/IllegalArgumentException"
abbrev nIS : String := "java/lang/IllegalStateException"
abbrev nUp : List String := ["java/lang/RuntimeException", "java/lang/Exception"]
def xt_strs : List (Nat × String) := [(162, "system is not 0 to 3"), (164, "question is not 0 to 7"), (166, "document is not 0 to 39"), (39, "score is not 0 to 1000"), (56, "the run has 20 documents"), (63, "the run has this document"), (69, "the last document of the run has a lower score"), (168, "rank, depth or length is not 1 to 20"), (81, "judgement is none of the three constants"), (122, "both systems are the same"), (170, "rank is not 1 to the length of the list"), (142, "the document was clicked")]
def xt_bad : List Cond := [.declares ⟨"java/lang/RuntimeException", "<init>", "(Ljava/lang/String;)V"⟩, .declares ⟨"java/lang/Exception", "<init>", "(Ljava/lang/String;)V"⟩, .declares ⟨"java/lang/Throwable", "<init>", "(Ljava/lang/String;)V"⟩, .castable nIA nIA, .castable nIS nIS]
theorem xt_badI : ∀ w ∈ (vx_atS RX3 41 nIA nUp).filter (fun w => !goodWord w), w ∈ xt_bad := by decide +kernel
theorem xt_badS : ∀ w ∈ (vx_atS RX3 58 nIS nUp).filter (fun w => !goodWord w), w ∈ xt_bad := by decide +kernel
theorem xt_gI : ∀ w ∈ Cond.classLink RX3 37 nIA :: Cond.initialized nIA :: vx_atS RX3 41 nIA nUp, vx_ot w = true := by decide +kernel
theorem xt_gS : ∀ w ∈ Cond.classLink RX3 54 nIS :: Cond.initialized nIS :: vx_atS RX3 58 nIS nUp, vx_ot w = true := by decide +kernel
/-- what the machine holds for a throw: two statics below lo, the texts, some words -/
def XT (lo : Nat) (U : State) : Prop := vx_Zq Bundle.tN "UNASSIGNED_STACK" Bundle.steD (fun q => lo ≤ q) U U.heap ∧ vx_Zq Bundle.tN "SUPPRESSED_SENTINEL" Bundle.listD (fun q => lo ≤ q) U U.heap ∧ (∀ w ∈ xt_strs, ∃ sa, vk_R RX3 w.1 w.2 sa U) ∧ ∀ w ∈ xt_bad, va_Nw w U
theorem XT.to {lo : Nat} {s U : State} {A : Nat → Prop} {H : Heap} {locs : List Loc} (h : XT lo s) (hS : va_S A s.heap H locs) (hA : ∀ q, A q → lo ≤ q) (hW : s.WarmedH U.vm) (hU : U.heap = H) : XT lo U := by
  have hk : ∀ a : Nat, a < s.heap.size → ¬ (lo ≤ a) → H[a]? = s.heap[a]? := fun a h1 h2 => hS.2.1 a h1 (fun z => h2 (hA a z))
  refine ⟨by rw [hU]; exact vx_Zq.moved hW.alike (h.1.kept hk), by rw [hU]; exact vx_Zq.moved hW.alike (h.2.1.kept hk), fun w hw => ?_, fun w hw => ?_⟩
  · obtain ⟨sa, h1⟩ := h.2.2.1 w hw
    exact ⟨sa, vk_R.warm hW h1⟩
  · have h2 := h.2.2.2 w hw
    simp only [xt_bad, List.mem_cons, List.not_mem_nil, or_false] at hw
    rcases hw with rfl | rfl | rfl | rfl | rfl <;> first | exact va_Nw.warmD hW h2 | exact va_Nw.warmC hW h2
theorem XT.call {lo : Nat} {s : State} {g : JFrame} {mk : MethodId} {a : Array Value} (h : XT lo s) : XT lo (s.calling g mk a) := h.to (A := fun _ => False) (H := s.heap) (locs := []) va_S.rf (fun _ h => h.elim) (State.WarmedH.refl s) rfl
section XTR
variable {p : Program} {l : Launch} {e : Env} {R : Room} {s : State} {m : MethodId} {args : Array Value} {below : List Frame} {meth : Method} {c : Code} {H : Heap} {locs : List Loc} {cells slots : Nat} {cc : ByteArray} {pc : Nat} {ls : Array Slot} {rest : List Value}
variable {mc ms nL : Nat} {free : Addr → Prop} {A : Nat → Prop} {Qc : Array Value → State → Outcome → State → Prop} {XC : String → State → State → Prop}
theorem x_thrI {Ts : List Cond} {lo is : Nat} {text : String} {lst : List (Nat × Value)} (hx : p.tables.exec = Jvm.exec) (hb : c.code = cc) (hfl : l.stackTraces = false) (hml : c.maxLocals = nL) (hl : lv_has ls nL lst) (hown : s.vm.findClass RX3 = some m.cls) (hts : ∀ w ∈ Ts, w.before args s = true)
    (h1 : Cond.classLink RX3 37 nIA ∈ Ts) (h2 : Cond.initialized nIA ∈ Ts) (h3 : ∀ w ∈ (vx_atS RX3 41 nIA nUp).filter goodWord, w ∈ Ts) (hT : XT lo s) (hstr : (is, text) ∈ xt_strs) (hS : va_S A s.heap H locs) (hA : ∀ q, A q → lo ≤ q)
    (d0 : decode cc pc = .ok (.new 37, 3)) (d3 : decode cc (pc + 3) = .ok (.dup, 1)) (d4 : decode cc (pc + 4) = .ok (.ldc is, 2)) (d6 : decode cc (pc + 6) = .ok (.invokespecial 41, 3)) (d9 : decode cc (pc + 9) = .ok (.athrow, 1))
    (ht9 : ∀ x ∈ c.exceptionTable.toList, False) (hR : 5 < R.frames ∧ (rest.map fun v => v.category).sum + 82 ≤ R.locals ∧ cells + 1 ≤ R.cells ∧ slots + 6 ≤ R.slots) (hlocks : meth.locks = false)
    (hxc : ∀ t : State, s.vm.Alike t.vm → H.size ≤ t.heap.size → (∀ q : Nat, q < H.size → t.heap[q]? = H[q]?) → XC nIA s t)
    (hf : ∀ z ∈ locs, free z.base) (hc : cells + 1 ≤ mc) (hs : slots + 6 ≤ ms) :
    W p l e R s m args below meth c H locs cells slots (vx_MQ below Qc XC args s mc ms free) (F0 m pc ls rest) := by
  obtain ⟨sa, hsa⟩ := hT.2.2.1 _ hstr
  exact vx_throwS (own := RX3) (cls := nIA) (text := text) (names := nUp) (sa := sa) (A := A) hx hb hfl hown (by decide +kernel) (by decide +kernel) (hts _ h1) (hts _ h2) hsa
    (vx_hat (fun w hw => hts w (h3 w hw)) xt_badI (fun w hw => va_Nw.use (by
      simp only [xt_bad, List.mem_cons, List.not_mem_nil, or_false] at hw
      rcases hw with rfl | rfl | rfl | rfl | rfl <;> rfl) (hT.2.2.2 w hw))) xt_gI (hT.1.narrow hA) (hT.2.1.narrow hA) hS (hl.1.trans hml.symm) d0 d3 d4 d6 d9 (fun x hx9 => (ht9 x hx9).elim) hR.1 hR.2.1 hR.2.2.1 hR.2.2.2 hlocks hxc hf hc hs
theorem x_thrS {Ts : List Cond} {lo is : Nat} {text : String} {lst : List (Nat × Value)} (hx : p.tables.exec = Jvm.exec) (hb : c.code = cc) (hfl : l.stackTraces = false) (hml : c.maxLocals = nL) (hl : lv_has ls nL lst) (hown : s.vm.findClass RX3 = some m.cls) (hts : ∀ w ∈ Ts, w.before args s = true)
    (h1 : Cond.classLink RX3 54 nIS ∈ Ts) (h2 : Cond.initialized nIS ∈ Ts) (h3 : ∀ w ∈ (vx_atS RX3 58 nIS nUp).filter goodWord, w ∈ Ts) (hT : XT lo s) (hstr : (is, text) ∈ xt_strs) (hS : va_S A s.heap H locs) (hA : ∀ q, A q → lo ≤ q)
    (d0 : decode cc pc = .ok (.new 54, 3)) (d3 : decode cc (pc + 3) = .ok (.dup, 1)) (d4 : decode cc (pc + 4) = .ok (.ldc is, 2)) (d6 : decode cc (pc + 6) = .ok (.invokespecial 58, 3)) (d9 : decode cc (pc + 9) = .ok (.athrow, 1))
    (ht9 : ∀ x ∈ c.exceptionTable.toList, False) (hR : 5 < R.frames ∧ (rest.map fun v => v.category).sum + 82 ≤ R.locals ∧ cells + 1 ≤ R.cells ∧ slots + 6 ≤ R.slots) (hlocks : meth.locks = false)
    (hxc : ∀ t : State, s.vm.Alike t.vm → H.size ≤ t.heap.size → (∀ q : Nat, q < H.size → t.heap[q]? = H[q]?) → XC nIS s t)
    (hf : ∀ z ∈ locs, free z.base) (hc : cells + 1 ≤ mc) (hs : slots + 6 ≤ ms) :
    W p l e R s m args below meth c H locs cells slots (vx_MQ below Qc XC args s mc ms free) (F0 m pc ls rest) := by
  obtain ⟨sa, hsa⟩ := hT.2.2.1 _ hstr
  exact vx_throwS (own := RX3) (cls := nIS) (text := text) (names := nUp) (sa := sa) (A := A) hx hb hfl hown (by decide +kernel) (by decide +kernel) (hts _ h1) (hts _ h2) hsa
    (vx_hat (fun w hw => hts w (h3 w hw)) xt_badS (fun w hw => va_Nw.use (by
      simp only [xt_bad, List.mem_cons, List.not_mem_nil, or_false] at hw
      rcases hw with rfl | rfl | rfl | rfl | rfl <;> rfl) (hT.2.2.2 w hw))) xt_gS (hT.1.narrow hA) (hT.2.1.narrow hA) hS (hl.1.trans hml.symm) d0 d3 d4 d6 d9 (fun x hx9 => (ht9 x hx9).elim) hR.1 hR.2.1 hR.2.2.1 hR.2.2.2 hlocks hxc hf hc hs
end XTR
/-- the starts of methods that may throw -/
abbrev SXPc (lo : Nat) (av : List Value) : Array Value → State → Prop := va_Pc av (fun U => XT lo U)
abbrev TPc (G : XG) (o lo : Nat) (b : XB) (lim : Int) (dif : Nat → Int) (av : List Value) : Array Value → State → Prop := va_Pc av (fun U => BW G o b lim dif U.heap ∧ bInv b ∧ XK G U ∧ XT lo U)
abbrev nA : Nat → Prop := fun _ => False
abbrev xA (o : Nat) : Nat → Prop := fun q => o ≤ q ∧ q < o + 127
/-- a check that returns where P holds, and throws where not -/
abbrev MetReq (l : Launch) (y : MethodName) (ws : List Cond) (rm : Room) (Pc : Array Value → State → Prop) (P : Prop) : Prop := vx_Met l y ws rm Pc (va_Qv (fun _ : Unit => P) (fun _ _ => True) nA) (vx_X (fun _ : Unit => ¬ P) (fun E _ _ => E = nIA) nA) 1 6 nA
abbrev rmX (f n : Nat) : Room := { frames := f, cells := 1, slots := 6, locals := n }
theorem x_blindS {lo : Nat} {av : List Value} : FrameBlind (SXPc lo av) := fun a U g mk h => ⟨h.1, h.2.call⟩
theorem x_blindT {G : XG} {o lo : Nat} {b : XB} {lim : Int} {dif : Nat → Int} {av : List Value} : FrameBlind (TPc G o lo b lim dif av) := fun a U g mk h => ⟨h.1, h.2.1, h.2.2.1, h.2.2.2.1.warm (U := U.calling g mk a) (State.WarmedH.refl U), h.2.2.2.2.call⟩
set_option maxHeartbeats 4000000 in
set_option maxRecDepth 100000 in
theorem c_X3_requireSystem (l : Launch) (hfl : l.stackTraces = false) (lo : Nat) (z : Int) (hz : -2147483648 ≤ z ∧ z < 2147483648) : MetReq l yX3_requireSystem wsX3_requireSystem (rmX 6 82) (SXPc lo [.int (zI z)]) (0 ≤ z ∧ z < 4) := by
  refine vx_ofW (cc := cX3_requireSystem) (maxL := 1) (ret := none) (by decide) rfl ?_
  intro p e s m args below meth c s₁ B hml ht9 hv
  obtain ⟨rfl, hT⟩ := hv
  have hx := B.exec
  have hb := B.bytes
  have hr := B.returns
  have hts := atoms_spec (ws := wsX3_requireSystem) B.pre
  have hown : s.vm.findClass RX3 = some m.cls := findClass_of_methodNamed B.named
  have hlocks := B.notSynchronized
  have hl := lv_entry ([.int (zI z)]) (n := 1) (Nat.le_of_ble_eq_true rfl)
  rw [lg_entry_eq]
  generalize (lg_sl ([.int (zI z)]) ++ List.replicate (1 - (lg_sl ([.int (zI z)])).length) Slot.unset).toArray = ls at hl ⊢
  have hl : lv_has ls 1 [(0, .int (zI z))] := hl
  refine lv_iload_n hx hb dX3_requireSystem_0 rfl (lv_at hl 0 rfl) ?_
  refine x_if_lt (tgt := 9) hx hb dX3_requireSystem_1 (by decide) (by omega) (fun h1 => ?_) (fun h2 => ?_)
  · exact x_thrI (Ts := wsX3_requireSystem) (lo := lo) (is := 162) (text := "system is not 0 to 3") (rest := []) hx hb hfl hml hl hown hts (by decide +kernel) (by decide +kernel) (fun w hw => by exact List.mem_cons_of_mem _ (List.mem_append_right _ hw)) hT (List.mem_of_getElem? (i := 0) rfl) (A := nA) va_S.rf (fun _ h => h.elim) dX3_requireSystem_9 dX3_requireSystem_12 dX3_requireSystem_13 dX3_requireSystem_15 dX3_requireSystem_18 ht9 ⟨by decide, by decide, by decide, by decide⟩ hlocks (fun t ha hz hk => ⟨(), by omega, rfl, hz, fun q hq _ => hk q hq⟩) (fun _ h => by cases h) (by decide) (by decide)
  · refine lv_iload_n hx hb dX3_requireSystem_4 rfl (lv_at hl 0 rfl) ?_
    refine x_iconst hx hb dX3_requireSystem_5 ?_
    refine x_icmp_lt (tgt := 19) hx hb dX3_requireSystem_6 (by decide) (by omega) (fun h3 => ?_) (fun h4 => ?_)
    · refine W.widen (k := 1) (n := 6) (by decide) (by decide) (vx_ret ?_)
      exact W.vret hx hb hr (fun t ht _ => ⟨⟨(), rfl, by omega, trivial⟩, (va_S.rf (A := nA) (H0 := s.heap)).F ht⟩) (fun _ h => by cases h) dX3_requireSystem_19
    · exact x_thrI (Ts := wsX3_requireSystem) (lo := lo) (is := 162) (text := "system is not 0 to 3") (rest := []) hx hb hfl hml hl hown hts (by decide +kernel) (by decide +kernel) (fun w hw => by exact List.mem_cons_of_mem _ (List.mem_append_right _ hw)) hT (List.mem_of_getElem? (i := 0) rfl) (A := nA) va_S.rf (fun _ h => h.elim) dX3_requireSystem_9 dX3_requireSystem_12 dX3_requireSystem_13 dX3_requireSystem_15 dX3_requireSystem_18 ht9 ⟨by decide, by decide, by decide, by decide⟩ hlocks (fun t ha hz hk => ⟨(), by omega, rfl, hz, fun q hq _ => hk q hq⟩) (fun _ h => by cases h) (by decide) (by decide)
set_option maxHeartbeats 4000000 in
set_option maxRecDepth 100000 in
theorem c_X3_requireQuestion (l : Launch) (hfl : l.stackTraces = false) (lo : Nat) (z : Int) (hz : -2147483648 ≤ z ∧ z < 2147483648) : MetReq l yX3_requireQuestion wsX3_requireQuestion (rmX 6 82) (SXPc lo [.int (zI z)]) (0 ≤ z ∧ z < 8) := by
  refine vx_ofW (cc := cX3_requireQuestion) (maxL := 1) (ret := none) (by decide) rfl ?_
  intro p e s m args below meth c s₁ B hml ht9 hv
  obtain ⟨rfl, hT⟩ := hv
  have hx := B.exec
  have hb := B.bytes
  have hr := B.returns
  have hts := atoms_spec (ws := wsX3_requireQuestion) B.pre
  have hown : s.vm.findClass RX3 = some m.cls := findClass_of_methodNamed B.named
  have hlocks := B.notSynchronized
  have hl := lv_entry ([.int (zI z)]) (n := 1) (Nat.le_of_ble_eq_true rfl)
  rw [lg_entry_eq]
  generalize (lg_sl ([.int (zI z)]) ++ List.replicate (1 - (lg_sl ([.int (zI z)])).length) Slot.unset).toArray = ls at hl ⊢
  have hl : lv_has ls 1 [(0, .int (zI z))] := hl
  refine lv_iload_n hx hb dX3_requireQuestion_0 rfl (lv_at hl 0 rfl) ?_
  refine x_if_lt (tgt := 10) hx hb dX3_requireQuestion_1 (by decide) (by omega) (fun h1 => ?_) (fun h2 => ?_)
  · exact x_thrI (Ts := wsX3_requireQuestion) (lo := lo) (is := 164) (text := "question is not 0 to 7") (rest := []) hx hb hfl hml hl hown hts (by decide +kernel) (by decide +kernel) (fun w hw => by exact List.mem_cons_of_mem _ (List.mem_append_right _ hw)) hT (List.mem_of_getElem? (i := 1) rfl) (A := nA) va_S.rf (fun _ h => h.elim) dX3_requireQuestion_10 dX3_requireQuestion_13 dX3_requireQuestion_14 dX3_requireQuestion_16 dX3_requireQuestion_19 ht9 ⟨by decide, by decide, by decide, by decide⟩ hlocks (fun t ha hz hk => ⟨(), by omega, rfl, hz, fun q hq _ => hk q hq⟩) (fun _ h => by cases h) (by decide) (by decide)
  · refine lv_iload_n hx hb dX3_requireQuestion_4 rfl (lv_at hl 0 rfl) ?_
    refine lv_bipush (v := zI 8) hx hb dX3_requireQuestion_5 (by decide +kernel) ?_
    refine x_icmp_lt (tgt := 20) hx hb dX3_requireQuestion_7 (by decide) (by omega) (fun h3 => ?_) (fun h4 => ?_)
    · refine W.widen (k := 1) (n := 6) (by decide) (by decide) (vx_ret ?_)
      exact W.vret hx hb hr (fun t ht _ => ⟨⟨(), rfl, by omega, trivial⟩, (va_S.rf (A := nA) (H0 := s.heap)).F ht⟩) (fun _ h => by cases h) dX3_requireQuestion_20
    · exact x_thrI (Ts := wsX3_requireQuestion) (lo := lo) (is := 164) (text := "question is not 0 to 7") (rest := []) hx hb hfl hml hl hown hts (by decide +kernel) (by decide +kernel) (fun w hw => by exact List.mem_cons_of_mem _ (List.mem_append_right _ hw)) hT (List.mem_of_getElem? (i := 1) rfl) (A := nA) va_S.rf (fun _ h => h.elim) dX3_requireQuestion_10 dX3_requireQuestion_13 dX3_requireQuestion_14 dX3_requireQuestion_16 dX3_requireQuestion_19 ht9 ⟨by decide, by decide, by decide, by decide⟩ hlocks (fun t ha hz hk => ⟨(), by omega, rfl, hz, fun q hq _ => hk q hq⟩) (fun _ h => by cases h) (by decide) (by decide)
set_option maxHeartbeats 4000000 in
set_option maxRecDepth 100000 in
theorem c_X3_requireDocument (l : Launch) (hfl : l.stackTraces = false) (lo : Nat) (z : Int) (hz : -2147483648 ≤ z ∧ z < 2147483648) : MetReq l yX3_requireDocument wsX3_requireDocument (rmX 6 82) (SXPc lo [.int (zI z)]) (0 ≤ z ∧ z < 40) := by
  refine vx_ofW (cc := cX3_requireDocument) (maxL := 1) (ret := none) (by decide) rfl ?_
  intro p e s m args below meth c s₁ B hml ht9 hv
  obtain ⟨rfl, hT⟩ := hv
  have hx := B.exec
  have hb := B.bytes
  have hr := B.returns
  have hts := atoms_spec (ws := wsX3_requireDocument) B.pre
  have hown : s.vm.findClass RX3 = some m.cls := findClass_of_methodNamed B.named
  have hlocks := B.notSynchronized
  have hl := lv_entry ([.int (zI z)]) (n := 1) (Nat.le_of_ble_eq_true rfl)
  rw [lg_entry_eq]
  generalize (lg_sl ([.int (zI z)]) ++ List.replicate (1 - (lg_sl ([.int (zI z)])).length) Slot.unset).toArray = ls at hl ⊢
  have hl : lv_has ls 1 [(0, .int (zI z))] := hl
  refine lv_iload_n hx hb dX3_requireDocument_0 rfl (lv_at hl 0 rfl) ?_
  refine x_if_lt (tgt := 10) hx hb dX3_requireDocument_1 (by decide) (by omega) (fun h1 => ?_) (fun h2 => ?_)
  · exact x_thrI (Ts := wsX3_requireDocument) (lo := lo) (is := 166) (text := "document is not 0 to 39") (rest := []) hx hb hfl hml hl hown hts (by decide +kernel) (by decide +kernel) (fun w hw => by exact List.mem_cons_of_mem _ (List.mem_append_right _ hw)) hT (List.mem_of_getElem? (i := 2) rfl) (A := nA) va_S.rf (fun _ h => h.elim) dX3_requireDocument_10 dX3_requireDocument_13 dX3_requireDocument_14 dX3_requireDocument_16 dX3_requireDocument_19 ht9 ⟨by decide, by decide, by decide, by decide⟩ hlocks (fun t ha hz hk => ⟨(), by omega, rfl, hz, fun q hq _ => hk q hq⟩) (fun _ h => by cases h) (by decide) (by decide)
  · refine lv_iload_n hx hb dX3_requireDocument_4 rfl (lv_at hl 0 rfl) ?_
    refine lv_bipush (v := zI 40) hx hb dX3_requireDocument_5 (by decide +kernel) ?_
    refine x_icmp_lt (tgt := 20) hx hb dX3_requireDocument_7 (by decide) (by omega) (fun h3 => ?_) (fun h4 => ?_)
    · refine W.widen (k := 1) (n := 6) (by decide) (by decide) (vx_ret ?_)
      exact W.vret hx hb hr (fun t ht _ => ⟨⟨(), rfl, by omega, trivial⟩, (va_S.rf (A := nA) (H0 := s.heap)).F ht⟩) (fun _ h => by cases h) dX3_requireDocument_20
    · exact x_thrI (Ts := wsX3_requireDocument) (lo := lo) (is := 166) (text := "document is not 0 to 39") (rest := []) hx hb hfl hml hl hown hts (by decide +kernel) (by decide +kernel) (fun w hw => by exact List.mem_cons_of_mem _ (List.mem_append_right _ hw)) hT (List.mem_of_getElem? (i := 2) rfl) (A := nA) va_S.rf (fun _ h => h.elim) dX3_requireDocument_10 dX3_requireDocument_13 dX3_requireDocument_14 dX3_requireDocument_16 dX3_requireDocument_19 ht9 ⟨by decide, by decide, by decide, by decide⟩ hlocks (fun t ha hz hk => ⟨(), by omega, rfl, hz, fun q hq _ => hk q hq⟩) (fun _ h => by cases h) (by decide) (by decide)
set_option maxHeartbeats 4000000 in
set_option maxRecDepth 100000 in
theorem c_X3_requireOneToTwenty (l : Launch) (hfl : l.stackTraces = false) (lo : Nat) (z : Int) (hz : -2147483648 ≤ z ∧ z < 2147483648) : MetReq l yX3_requireOneToTwenty wsX3_requireOneToTwenty (rmX 6 82) (SXPc lo [.int (zI z)]) (1 ≤ z ∧ z ≤ 20) := by
  refine vx_ofW (cc := cX3_requireOneToTwenty) (maxL := 1) (ret := none) (by decide) rfl ?_
  intro p e s m args below meth c s₁ B hml ht9 hv
  obtain ⟨rfl, hT⟩ := hv
  have hx := B.exec
  have hb := B.bytes
  have hr := B.returns
  have hts := atoms_spec (ws := wsX3_requireOneToTwenty) B.pre
  have hown : s.vm.findClass RX3 = some m.cls := findClass_of_methodNamed B.named
  have hlocks := B.notSynchronized
  have hl := lv_entry ([.int (zI z)]) (n := 1) (Nat.le_of_ble_eq_true rfl)
  rw [lg_entry_eq]
  generalize (lg_sl ([.int (zI z)]) ++ List.replicate (1 - (lg_sl ([.int (zI z)])).length) Slot.unset).toArray = ls at hl ⊢
  have hl : lv_has ls 1 [(0, .int (zI z))] := hl
  refine lv_iload_n hx hb dX3_requireOneToTwenty_0 rfl (lv_at hl 0 rfl) ?_
  refine x_iconst hx hb dX3_requireOneToTwenty_1 ?_
  refine x_icmp_lt (tgt := 11) hx hb dX3_requireOneToTwenty_2 (by decide) (by omega) (fun h1 => ?_) (fun h2 => ?_)
  · exact x_thrI (Ts := wsX3_requireOneToTwenty) (lo := lo) (is := 168) (text := "rank, depth or length is not 1 to 20") (rest := []) hx hb hfl hml hl hown hts (by decide +kernel) (by decide +kernel) (fun w hw => by exact List.mem_cons_of_mem _ (List.mem_append_right _ hw)) hT (List.mem_of_getElem? (i := 7) rfl) (A := nA) va_S.rf (fun _ h => h.elim) dX3_requireOneToTwenty_11 dX3_requireOneToTwenty_14 dX3_requireOneToTwenty_15 dX3_requireOneToTwenty_17 dX3_requireOneToTwenty_20 ht9 ⟨by decide, by decide, by decide, by decide⟩ hlocks (fun t ha hz hk => ⟨(), by omega, rfl, hz, fun q hq _ => hk q hq⟩) (fun _ h => by cases h) (by decide) (by decide)
  · refine lv_iload_n hx hb dX3_requireOneToTwenty_5 rfl (lv_at hl 0 rfl) ?_
    refine lv_bipush (v := zI 20) hx hb dX3_requireOneToTwenty_6 (by decide +kernel) ?_
    refine x_icmp_le (tgt := 21) hx hb dX3_requireOneToTwenty_8 (by decide) (by omega) (fun h3 => ?_) (fun h4 => ?_)
    · refine W.widen (k := 1) (n := 6) (by decide) (by decide) (vx_ret ?_)
      exact W.vret hx hb hr (fun t ht _ => ⟨⟨(), rfl, by omega, trivial⟩, (va_S.rf (A := nA) (H0 := s.heap)).F ht⟩) (fun _ h => by cases h) dX3_requireOneToTwenty_21
    · exact x_thrI (Ts := wsX3_requireOneToTwenty) (lo := lo) (is := 168) (text := "rank, depth or length is not 1 to 20") (rest := []) hx hb hfl hml hl hown hts (by decide +kernel) (by decide +kernel) (fun w hw => by exact List.mem_cons_of_mem _ (List.mem_append_right _ hw)) hT (List.mem_of_getElem? (i := 7) rfl) (A := nA) va_S.rf (fun _ h => h.elim) dX3_requireOneToTwenty_11 dX3_requireOneToTwenty_14 dX3_requireOneToTwenty_15 dX3_requireOneToTwenty_17 dX3_requireOneToTwenty_20 ht9 ⟨by decide, by decide, by decide, by decide⟩ hlocks (fun t ha hz hk => ⟨(), by omega, rfl, hz, fun q hq _ => hk q hq⟩) (fun _ h => by cases h) (by decide) (by decide)
set_option maxHeartbeats 4000000 in
set_option maxRecDepth 100000 in
theorem c_X3_requireListed (l : Launch) (hfl : l.stackTraces = false) (G : XG) (o lo : Nat) (b : XB) (lim : Int) (dif : Nat → Int) (z : Int) (hz : -2147483648 ≤ z ∧ z < 2147483648) : MetReq l yX3_requireListed wsX3_requireListed (rmX 6 82) (TPc G o lo b lim dif [.ref o, .int (zI z)]) (1 ≤ z ∧ z ≤ (bL b : Int)) := by
  refine vx_ofW (cc := cX3_requireListed) (maxL := 2) (ret := none) (by decide) rfl ?_
  intro p e s m args below meth c s₁ B hml ht9 hv
  obtain ⟨rfl, hW, hi, hK, hT⟩ := hv
  have hx := B.exec
  have hb := B.bytes
  have hr := B.returns
  have hts := atoms_spec (ws := wsX3_requireListed) B.pre
  have hown : s.vm.findClass RX3 = some m.cls := findClass_of_methodNamed B.named
  have hlocks := B.notSynchronized
  have hl := lv_entry ([.ref o, .int (zI z)]) (n := 2) (Nat.le_of_ble_eq_true rfl)
  rw [lg_entry_eq]
  generalize (lg_sl ([.ref o, .int (zI z)]) ++ List.replicate (2 - (lg_sl ([.ref o, .int (zI z)])).length) Slot.unset).toArray = ls at hl ⊢
  have hl : lv_has ls 2 [(0, .ref o), (1, .int (zI z))] := hl
  have hbl := hi.l
  refine lv_iload_n hx hb dX3_requireListed_0 rfl (lv_at hl 1 rfl) ?_
  refine x_iconst hx hb dX3_requireListed_1 ?_
  refine x_icmp_lt (tgt := 16) hx hb dX3_requireListed_2 (by decide) (by omega) (fun h1 => ?_) (fun h2 => ?_)
  · exact x_thrI (Ts := wsX3_requireListed) (lo := lo) (is := 170) (text := "rank is not 1 to the length of the list") (rest := []) hx hb hfl hml hl hown hts (by decide +kernel) (by decide +kernel) (fun w hw => by exact List.mem_cons_of_mem _ (List.mem_append_right _ hw)) hT (List.mem_of_getElem? (i := 10) rfl) (A := nA) va_S.rf (fun _ h => h.elim) dX3_requireListed_16 dX3_requireListed_19 dX3_requireListed_20 dX3_requireListed_22 dX3_requireListed_25 ht9 ⟨by decide, by decide, by decide, by decide⟩ hlocks (fun t ha hz hk => ⟨(), by omega, rfl, hz, fun q hq _ => hk q hq⟩) (fun _ h => by cases h) (by decide) (by decide)
  · refine lv_iload_n hx hb dX3_requireListed_5 rfl (lv_at hl 1 rfl) ?_
    refine lv_aload_n hx hb dX3_requireListed_6 rfl (lv_at hl 0 rfl) ?_
    refine x_get (ci := 3) (C := RX3) (T := TX3) (N := 3) (own := RX3) (index := 19) (v := .ref (o + 122)) hx hb hts (by decide +kernel) hown hK hW.jr rfl 1 (by decide) (by decide +kernel) rfl rfl dX3_requireListed_7 ?_
    refine x_getN (ci := 0) (C := RX0) (T := TX0) (N := 5) (own := RX3) (index := 131) (v := .int (zI (bL b : Int))) hx hb hts (by decide +kernel) hown hK hW.cl rfl 4 (by decide) nk_RX3_131 rfl rfl dX3_requireListed_10 ?_
    refine x_icmp_le (tgt := 26) hx hb dX3_requireListed_13 (by decide) (by omega) (fun h3 => ?_) (fun h4 => ?_)
    · refine W.widen (k := 1) (n := 6) (by decide) (by decide) (vx_ret ?_)
      exact W.vret hx hb hr (fun t ht _ => ⟨⟨(), rfl, by omega, trivial⟩, (va_S.rf (A := nA) (H0 := s.heap)).F ht⟩) (fun _ h => by cases h) dX3_requireListed_26
    · exact x_thrI (Ts := wsX3_requireListed) (lo := lo) (is := 170) (text := "rank is not 1 to the length of the list") (rest := []) hx hb hfl hml hl hown hts (by decide +kernel) (by decide +kernel) (fun w hw => by exact List.mem_cons_of_mem _ (List.mem_append_right _ hw)) hT (List.mem_of_getElem? (i := 10) rfl) (A := nA) va_S.rf (fun _ h => h.elim) dX3_requireListed_16 dX3_requireListed_19 dX3_requireListed_20 dX3_requireListed_22 dX3_requireListed_25 ht9 ⟨by decide, by decide, by decide, by decide⟩ hlocks (fun t ha hz hk => ⟨(), by omega, rfl, hz, fun q hq _ => hk q hq⟩) (fun _ h => by cases h) (by decide) (by decide)
