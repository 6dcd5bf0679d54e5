/-! ===== the constructors ===== -/
abbrev rmC (f n k w : Nat) : Room := { frames := f, cells := k, slots := w, locals := n }
theorem arrV_same {cA : ClassId} {n : Nat} {f g : Nat → Value} (h : ∀ j, j < n → f j = g j) : arrV cA n f = arrV cA n g := by
  unfold arrV
  congr 1
  apply Array.ext
  · simp
  · intro i h1 h2
    simp at h1 h2
    simp [h i h1]
theorem x_same {G : XG} {aa n : Nat} {cA : ClassId} {F F' : Nat → Option Nat} {H : Heap} (h : va1 G aa (.inl (cA, n, .inr (.inr (.inr (.inr F))))) H) (e : ∀ j, j < n → F j = F' j) : va1 G aa (.inl (cA, n, .inr (.inr (.inr (.inr F'))))) H := by
  show H[aa]? = some (vp_cell _ _)
  have h1 : H[aa]? = some (vp_cell _ _) := h
  rw [h1, vp_cell_q, vp_cell_q, arrV_same (fun j hj => by rw [e j hj])]
section XI
variable {p : Program} {l : Launch} {e : Env} {R : Room} {s : State} {m : MethodId} {args : Array Value} {below : List Frame} {meth : Method} {c : Code} {H H0 : Heap} {locs : List Loc} {Q : State → Prop} {pc : Nat} {ls : Array Slot} {rest : List Value}
/-- a loop that makes objects: its cells and slots grow with each turn -/
theorem x_loopC {nL N c0 s0 dc ds : Nat} (I : Nat → Heap → List Loc → Prop) (loc : Nat → List (Nat × Value)) (h0 : I 0 H locs) (hl : lv_has ls nL (loc 0))
    (step : ∀ (k : Nat) (H1 : Heap) (locs1 : List Loc) (ls1 : Array Slot), k < N → I k H1 locs1 → lv_has ls1 nL (loc k) → (∀ (H2 : Heap) (locs2 : List Loc) (ls2 : Array Slot), I (k + 1) H2 locs2 → lv_has ls2 nL (loc (k + 1)) → W p l e R s m args below meth c H2 locs2 (c0 + dc * k + dc) (s0 + ds * k + ds) Q (F0 m pc ls2 rest)) → W p l e R s m args below meth c H1 locs1 (c0 + dc * k) (s0 + ds * k) Q (F0 m pc ls1 rest))
    (exit : ∀ (H1 : Heap) (locs1 : List Loc) (ls1 : Array Slot), I N H1 locs1 → lv_has ls1 nL (loc N) → W p l e R s m args below meth c H1 locs1 (c0 + dc * N) (s0 + ds * N) Q (F0 m pc ls1 rest)) : W p l e R s m args below meth c H locs c0 s0 Q (F0 m pc ls rest) := by
  have key : ∀ (n k : Nat) (H1 : Heap) (locs1 : List Loc) (ls1 : Array Slot), n + k = N → I k H1 locs1 → lv_has ls1 nL (loc k) → W p l e R s m args below meth c H1 locs1 (c0 + dc * k) (s0 + ds * k) Q (F0 m pc ls1 rest) := by
    intro n
    induction n with
    | zero => intro k H1 locs1 ls1 hk h1 h2
              have hk : k = N := by omega
              subst hk
              exact exit H1 locs1 ls1 h1 h2
    | succ n ih => intro k H1 locs1 ls1 hk h1 h2
                   refine step k H1 locs1 ls1 (by omega) h1 h2 (fun H2 locs2 ls2 h3 h4 => ?_)
                   have := ih (k + 1) H2 locs2 ls2 (by omega) h3 h4
                   rw [Nat.mul_add, Nat.mul_add, Nat.mul_one, Nat.mul_one, ← Nat.add_assoc, ← Nat.add_assoc] at this
                   exact this
  have := key N 0 H locs ls (by omega) h0 hl
  exact this
end XI
/-- a start: an object at a, new, the heap's last -/
abbrev IPc (G : XG) (a ci : Nat) (fs : List Value) : Array Value → State → Prop := va_Pc [.ref a] (fun U => U.heap.size = a + 1 ∧ va1 G a (.inr (ci, fs)) U.heap ∧ XK G U ∧ va_AO RX1 U ∧ va_AO RX2 U)
theorem x_blindI {G : XG} {a ci : Nat} {fs : List Value} : FrameBlind (IPc G a ci fs) := fun x U g mk h => ⟨h.1, h.2.1, h.2.2.1, h.2.2.2.1.warm (U := U.calling g mk x) (State.WarmedH.refl U), va_AO.moved (u := U) (U := U.calling g mk x) (Vm.Alike.refl U.vm) h.2.2.2.2.1, va_AO.moved (u := U) (U := U.calling g mk x) (Vm.Alike.refl U.vm) h.2.2.2.2.2⟩
theorem x_preI {G : XG} {a ci : Nat} {fs : List Value} {s : State} {H : Heap} (hz : H.size = a + 1) (h0 : va1 G a (.inr (ci, fs)) H) (hK : XK G s) (h1 : va_AO RX1 s) (h2 : va_AO RX2 s) : PreS s H (IPc G a ci fs) [.ref a] :=
  ⟨x_blindI, fun U hU hW => ⟨rfl, by rw [hU]; exact hz, by rw [hU]; exact h0, hK.warm hW, va_AO.moved hW.alike h1, va_AO.moved hW.alike h2⟩⟩
abbrev MetN (l : Launch) (y : MethodName) (ws : List Cond) (f n mc ms : Nat) (G : XG) (a ci : Nat) (fs : List Value) (P : Heap → Prop) : Prop := Met l y ws (rmC f n mc ms) (IPc G a ci fs) (va_Qv (fun (_ : Unit) => True) (hpw P) (fun q => a ≤ q)) mc ms (fun q => a ≤ q)
/-- a Run at a, of no documents -/
def RW0 (G : XG) (a : Nat) (H : Heap) : Prop := va1 G a (.inr (2, [.ref (a + 1), .ref (a + 2), .int (zI 0)])) H ∧ va1 G (a + 1) (eI G 20 (fun _ => 0)) H ∧ va1 G (a + 2) (eI G 20 (fun _ => 0)) H
theorem RW0.kept {G : XG} {a : Nat} {H H1 : Heap} (h : RW0 G a H) (hn : ∀ q, a ≤ q → q < a + 3 → H1[q]? = H[q]?) : RW0 G a H1 := ⟨h.1.kept (hn _ (by simp only []; omega) (by simp only []; omega)), h.2.1.kept (hn _ (by simp only []; omega) (by simp only []; omega)), h.2.2.kept (hn _ (by simp only []; omega) (by simp only []; omega))⟩
/-- a Question at a, as it is made -/
def QW0 (G : XG) (a : Nat) (H : Heap) : Prop := va1 G a (.inr (1, [.ref (a + 1), .ref (a + 14)])) H ∧ va1 G (a + 1) (eR G 4 (fun y => a + 2 + 3 * y)) H ∧ va1 G (a + 14) (eI G 40 (fun _ => 0)) H ∧ ∀ y, y < 4 → RW0 G (a + 2 + 3 * y) H
theorem QW0.kept {G : XG} {a : Nat} {H H1 : Heap} (h : QW0 G a H) (hn : ∀ q, a ≤ q → q < a + 15 → H1[q]? = H[q]?) : QW0 G a H1 := ⟨h.1.kept (hn _ (by simp only []; omega) (by simp only []; omega)), h.2.1.kept (hn _ (by simp only []; omega) (by simp only []; omega)), h.2.2.1.kept (hn _ (by simp only []; omega) (by simp only []; omega)), fun y hy => (h.2.2.2 y hy).kept (fun q h1 h2 => hn _ (by omega) (by omega))⟩
def CW0 (G : XG) (a : Nat) (H : Heap) : Prop := va1 G a (.inr (0, [.ref (a + 1), .ref (a + 2), .ref (a + 3), .int (zI 0), .int (zI 0)])) H ∧ va1 G (a + 1) (eI G 20 (fun _ => 0)) H ∧ va1 G (a + 2) (eI G 20 (fun _ => 0)) H ∧ va1 G (a + 3) (eZ G 20 (fun _ => 0)) H
def b00 : XB := (fun _ _ => 0, fun _ _ _ => 0, fun _ _ _ => 0, fun _ _ => 0, 0, fun _ => 0, fun _ => 0, fun _ => 0)
theorem b00_inv : bInv b00 := ⟨fun _ _ => Nat.zero_le _, fun _ _ _ => (by decide : 0 < 40), fun _ _ _ => Nat.zero_le _, fun _ _ => Nat.zero_le _, Nat.zero_le _, fun _ => (by decide : 0 < 40), fun _ => (by decide : 0 < 4), fun _ => Nat.zero_le _⟩
set_option maxHeartbeats 4000000 in
set_option maxRecDepth 100000 in
theorem c_X2_init (l : Launch) (G : XG) (a : Nat) : MetN l yX2_init wsX2_init 1 12 2 40 G a 2 [.null, .null, .int (zI 0)] (fun H => RW0 G a H ∧ H.size = a + 3) := by
  refine Met.ofW (cc := cX2_init) (maxL := 1) (ret := none) (by decide) rfl ?_
  intro p e s m args below meth c s₁ B hml hv
  obtain ⟨rfl, hz0, h0, hK, hO1, hO2⟩ := hv
  have hx := B.exec
  have hb := B.bytes
  have hr := B.returns
  have hts := atoms_spec (ws := wsX2_init) B.pre
  have hown : s.vm.findClass RX2 = some m.cls := findClass_of_methodNamed B.named
  have hin2 : meth.name = "<init>" := (name_of_methodNamed B.named B.method).1
  have hlocks := B.notSynchronized
  have hl := lv_entry ([.ref a]) (n := 1) (Nat.le_of_ble_eq_true rfl)
  rw [lg_entry_eq]
  generalize (lg_sl ([.ref a]) ++ List.replicate (1 - (lg_sl ([.ref a])).length) Slot.unset).toArray = ls at hl ⊢
  have hl : lv_has ls 1 [(0, .ref a)] := hl
  have hS : va_S (fun q => a ≤ q) s.heap s.heap [] := va_S.rf
  refine lv_aload_n hx hb dX2_init_0 rfl (lv_at hl 0 rfl) ?_
  refine W.objInit hx hb hown (hts (.methodLink RX2 3 objectInit) (by decide +kernel)) (hts (.instanceMethod objectInit) (by decide +kernel)) (hts (.code objectInit ⟨#[0xb1]⟩ 1 none) (List.mem_of_getElem? (i := 3) rfl)) rfl (by rw [hml]; exact hl.1) rfl dX2_init_1 (Nat.le_of_ble_eq_true rfl) (Nat.le_of_ble_eq_true rfl) ?_
  refine W.eq (g2 := F0 m 4 ls []) rfl ?_
  refine lv_aload_n hx hb dX2_init_4 rfl (lv_at hl 0 rfl) ?_
  refine lv_bipush (v := zI 20) hx hb dX2_init_5 (by decide +kernel) ?_
  refine x_newI (a := a + 1) (N := 20) hx hb hK (hts (.arrayClass .int) (by decide +kernel)) hz0 (by rfl) (by decide) hS ⟨Nat.le_of_ble_eq_true rfl, Nat.le_of_ble_eq_true rfl⟩ dX2_init_7 (fun H1 k1 z1 o1 hS => ?_)
  replace h0 := h0.kept (o1 _ (by simp only []; omega))
  replace hz0 : H1.size = a + 2 := z1
  refine x_putF (ci := 2) (C := RX2) (T := TX2) (N := 3) (own := RX2) (ref := RX2) (index := 9) hx hb hts (by decide +kernel) tyX2 tyX2_ok nmX2 hown hK h0 hS (Nat.le_refl a) rfl 0 (by decide) (by decide +kernel) rfl rfl hin2 rfl rfl rfl (Nat.le_of_ble_eq_true rfl) dX2_init_9 (fun H2 locs2 h2 z2 n2 hS => ?_)
  replace h0 : va1 G a (.inr (2, [.ref (a + 1), .null, .int (zI 0)])) H2 := h2
  replace k1 := k1.kept (n2 _ (by simp only []; omega))
  replace hz0 := z2.trans hz0
  refine lv_aload_n hx hb dX2_init_12 rfl (lv_at hl 0 rfl) ?_
  refine lv_bipush (v := zI 20) hx hb dX2_init_13 (by decide +kernel) ?_
  refine x_newI (a := a + 2) (N := 20) hx hb hK (hts (.arrayClass .int) (by decide +kernel)) hz0 (by rfl) (by decide) hS ⟨Nat.le_of_ble_eq_true rfl, Nat.le_of_ble_eq_true rfl⟩ dX2_init_15 (fun H1 k2 z1 o1 hS => ?_)
  replace h0 := h0.kept (o1 _ (by simp only []; omega))
  replace k1 := k1.kept (o1 _ (by simp only []; omega))
  replace hz0 : H1.size = a + 3 := z1
  refine x_putF (ci := 2) (C := RX2) (T := TX2) (N := 3) (own := RX2) (ref := RX2) (index := 15) hx hb hts (by decide +kernel) tyX2 tyX2_ok nmX2 hown hK h0 hS (Nat.le_refl a) rfl 1 (by decide) (by decide +kernel) rfl rfl hin2 rfl rfl rfl (Nat.le_of_ble_eq_true rfl) dX2_init_17 (fun H2 locs2 h2 z2 n2 hS => ?_)
  replace h0 : va1 G a (.inr (2, [.ref (a + 1), .ref (a + 2), .int (zI 0)])) H2 := h2
  replace k1 := k1.kept (n2 _ (by simp only []; omega))
  replace k2 := k2.kept (n2 _ (by simp only []; omega))
  replace hz0 := z2.trans hz0
  exact W.vret hx hb hr (fun t ht _ => ⟨⟨(), rfl, trivial, _, ht, ⟨h0, k1, k2⟩, hz0⟩, hS.F ht⟩) hS.2.2 dX2_init_20
set_option maxHeartbeats 4000000 in
set_option maxRecDepth 100000 in
theorem c_X0_init (l : Launch) (G : XG) (a : Nat) : MetN l yX0_init wsX0_init 1 12 3 60 G a 0 [.null, .null, .null, .int (zI 0), .int (zI 0)] (fun H => CW0 G a H ∧ H.size = a + 4) := by
  refine Met.ofW (cc := cX0_init) (maxL := 1) (ret := none) (by decide) rfl ?_
  intro p e s m args below meth c s₁ B hml hv
  obtain ⟨rfl, hz0, h0, hK, hO1, hO2⟩ := hv
  have hx := B.exec
  have hb := B.bytes
  have hr := B.returns
  have hts := atoms_spec (ws := wsX0_init) B.pre
  have hown : s.vm.findClass RX0 = some m.cls := findClass_of_methodNamed B.named
  have hin2 : meth.name = "<init>" := (name_of_methodNamed B.named B.method).1
  have hlocks := B.notSynchronized
  have hl := lv_entry ([.ref a]) (n := 1) (Nat.le_of_ble_eq_true rfl)
  rw [lg_entry_eq]
  generalize (lg_sl ([.ref a]) ++ List.replicate (1 - (lg_sl ([.ref a])).length) Slot.unset).toArray = ls at hl ⊢
  have hl : lv_has ls 1 [(0, .ref a)] := hl
  have hS : va_S (fun q => a ≤ q) s.heap s.heap [] := va_S.rf
  refine lv_aload_n hx hb dX0_init_0 rfl (lv_at hl 0 rfl) ?_
  refine W.objInit hx hb hown (hts (.methodLink RX0 3 objectInit) (by decide +kernel)) (hts (.instanceMethod objectInit) (by decide +kernel)) (hts (.code objectInit ⟨#[0xb1]⟩ 1 none) (List.mem_of_getElem? (i := 3) rfl)) rfl (by rw [hml]; exact hl.1) rfl dX0_init_1 (Nat.le_of_ble_eq_true rfl) (Nat.le_of_ble_eq_true rfl) ?_
  refine W.eq (g2 := F0 m 4 ls []) rfl ?_
  refine lv_aload_n hx hb dX0_init_4 rfl (lv_at hl 0 rfl) ?_
  refine lv_bipush (v := zI 20) hx hb dX0_init_5 (by decide +kernel) ?_
  refine x_newI (a := a + 1) (N := 20) hx hb hK (hts (.arrayClass .int) (by decide +kernel)) hz0 (by rfl) (by decide) hS ⟨Nat.le_of_ble_eq_true rfl, Nat.le_of_ble_eq_true rfl⟩ dX0_init_7 (fun H1 k1 z1 o1 hS => ?_)
  replace h0 := h0.kept (o1 _ (by simp only []; omega))
  replace hz0 : H1.size = a + 2 := z1
  refine x_putF (ci := 0) (C := RX0) (T := TX0) (N := 5) (own := RX0) (ref := RX0) (index := 9) hx hb hts (by decide +kernel) tyX0 tyX0_ok nmX0 hown hK h0 hS (Nat.le_refl a) rfl 0 (by decide) (by decide +kernel) rfl rfl hin2 rfl rfl rfl (Nat.le_of_ble_eq_true rfl) dX0_init_9 (fun H2 locs2 h2 z2 n2 hS => ?_)
  replace h0 : va1 G a (.inr (0, [.ref (a + 1), .null, .null, .int (zI 0), .int (zI 0)])) H2 := h2
  replace k1 := k1.kept (n2 _ (by simp only []; omega))
  replace hz0 := z2.trans hz0
  refine lv_aload_n hx hb dX0_init_12 rfl (lv_at hl 0 rfl) ?_
  refine lv_bipush (v := zI 20) hx hb dX0_init_13 (by decide +kernel) ?_
  refine x_newI (a := a + 2) (N := 20) hx hb hK (hts (.arrayClass .int) (by decide +kernel)) hz0 (by rfl) (by decide) hS ⟨Nat.le_of_ble_eq_true rfl, Nat.le_of_ble_eq_true rfl⟩ dX0_init_15 (fun H1 k2 z1 o1 hS => ?_)
  replace h0 := h0.kept (o1 _ (by simp only []; omega))
  replace k1 := k1.kept (o1 _ (by simp only []; omega))
  replace hz0 : H1.size = a + 3 := z1
  refine x_putF (ci := 0) (C := RX0) (T := TX0) (N := 5) (own := RX0) (ref := RX0) (index := 15) hx hb hts (by decide +kernel) tyX0 tyX0_ok nmX0 hown hK h0 hS (Nat.le_refl a) rfl 1 (by decide) (by decide +kernel) rfl rfl hin2 rfl rfl rfl (Nat.le_of_ble_eq_true rfl) dX0_init_17 (fun H2 locs2 h2 z2 n2 hS => ?_)
  replace h0 : va1 G a (.inr (0, [.ref (a + 1), .ref (a + 2), .null, .int (zI 0), .int (zI 0)])) H2 := h2
  replace k1 := k1.kept (n2 _ (by simp only []; omega))
  replace k2 := k2.kept (n2 _ (by simp only []; omega))
  replace hz0 := z2.trans hz0
  refine lv_aload_n hx hb dX0_init_20 rfl (lv_at hl 0 rfl) ?_
  refine lv_bipush (v := zI 20) hx hb dX0_init_21 (by decide +kernel) ?_
  refine x_newZ (a := a + 3) (N := 20) hx hb hK (hts (.arrayClass .boolean) (by decide +kernel)) hz0 (by rfl) (by decide) hS ⟨Nat.le_of_ble_eq_true rfl, Nat.le_of_ble_eq_true rfl⟩ dX0_init_23 (fun H1 k3 z1 o1 hS => ?_)
  replace h0 := h0.kept (o1 _ (by simp only []; omega))
  replace k1 := k1.kept (o1 _ (by simp only []; omega))
  replace k2 := k2.kept (o1 _ (by simp only []; omega))
  replace hz0 : H1.size = a + 4 := z1
  refine x_putF (ci := 0) (C := RX0) (T := TX0) (N := 5) (own := RX0) (ref := RX0) (index := 18) hx hb hts (by decide +kernel) tyX0 tyX0_ok nmX0 hown hK h0 hS (Nat.le_refl a) rfl 2 (by decide) (by decide +kernel) rfl rfl hin2 rfl rfl rfl (Nat.le_of_ble_eq_true rfl) dX0_init_25 (fun H2 locs2 h2 z2 n2 hS => ?_)
  replace h0 : va1 G a (.inr (0, [.ref (a + 1), .ref (a + 2), .ref (a + 3), .int (zI 0), .int (zI 0)])) H2 := h2
  replace k1 := k1.kept (n2 _ (by simp only []; omega))
  replace k2 := k2.kept (n2 _ (by simp only []; omega))
  replace k3 := k3.kept (n2 _ (by simp only []; omega))
  replace hz0 := z2.trans hz0
  exact W.vret hx hb hr (fun t ht _ => ⟨⟨(), rfl, trivial, _, ht, ⟨h0, k1, k2, k3⟩, hz0⟩, hS.F ht⟩) hS.2.2 dX0_init_28
set_option maxHeartbeats 4000000 in
set_option maxRecDepth 100000 in
theorem c_X1_init (l : Launch) (G : XG) (a : Nat) : MetN l yX1_init wsX1_init 2 32 14 216 G a 1 [.null, .null] (fun H => QW0 G a H ∧ H.size = a + 15) := by
  refine Met.ofW (cc := cX1_init) (maxL := 2) (ret := none) (by decide) rfl ?_
  intro p e s m args below meth c s₁ B hml hv
  obtain ⟨rfl, hz0, h0, hK, hO1, hO2⟩ := hv
  have hx := B.exec
  have hb := B.bytes
  have hr := B.returns
  have hts := atoms_spec (ws := wsX1_init) B.pre
  have hown : s.vm.findClass RX1 = some m.cls := findClass_of_methodNamed B.named
  have hin2 : meth.name = "<init>" := (name_of_methodNamed B.named B.method).1
  have hlocks := B.notSynchronized
  have hl := lv_entry ([.ref a]) (n := 2) (Nat.le_of_ble_eq_true rfl)
  rw [lg_entry_eq]
  generalize (lg_sl ([.ref a]) ++ List.replicate (2 - (lg_sl ([.ref a])).length) Slot.unset).toArray = ls at hl ⊢
  have hl : lv_has ls 2 [(0, .ref a)] := hl
  have hS : va_S (fun q => a ≤ q) s.heap s.heap [] := va_S.rf
  refine lv_aload_n hx hb dX1_init_0 rfl (lv_at hl 0 rfl) ?_
  refine W.objInit hx hb hown (hts (.methodLink RX1 3 objectInit) (by decide +kernel)) (hts (.instanceMethod objectInit) (by decide +kernel)) (hts (.code objectInit ⟨#[0xb1]⟩ 1 none) (List.mem_of_getElem? (i := 3) rfl)) rfl (by rw [hml]; exact hl.1) rfl dX1_init_1 (Nat.le_of_ble_eq_true rfl) (Nat.le_of_ble_eq_true rfl) ?_
  refine W.eq (g2 := F0 m 4 ls []) rfl ?_
  refine lv_aload_n hx hb dX1_init_4 rfl (lv_at hl 0 rfl) ?_
  refine x_iconst hx hb dX1_init_5 ?_
  refine x_newQ (own := RX1) (C := RX2) (index := 9) (t0 := 3) (a := a + 1) (N := 4) hx hb hown (hts (.classLink RX1 9 RX2) (by decide +kernel)) hO2 hK rfl hz0 (by rfl) (by decide) hS ⟨Nat.le_of_ble_eq_true rfl, Nat.le_of_ble_eq_true rfl⟩ dX1_init_6 (fun H1 k1 z1 o1 hS => ?_)
  replace h0 := h0.kept (o1 _ (by simp only []; omega))
  replace hz0 : H1.size = a + 2 := z1
  refine x_putF (ci := 1) (C := RX1) (T := TX1) (N := 2) (own := RX1) (ref := RX1) (index := 11) hx hb hts (by decide +kernel) tyX1 tyX1_ok nmX1 hown hK h0 hS (Nat.le_refl a) rfl 0 (by decide) (by decide +kernel) rfl rfl hin2 rfl rfl rfl (Nat.le_of_ble_eq_true rfl) dX1_init_9 (fun H2 locs2 h2 z2 n2 hS => ?_)
  replace h0 : va1 G a (.inr (1, [.ref (a + 1), .null])) H2 := h2
  replace k1 := k1.kept (n2 _ (by simp only []; omega))
  replace hz0 := z2.trans hz0
  refine x_iconst hx hb dX1_init_12 ?_
  refine lv_istore_n (lv' := [(1, .int (zI 0)), (0, .ref a)]) hx hb dX1_init_13 rfl hl (by decide) rfl (fun ls hl => ?_)
  refine x_loopC (N := 4) (dc := 3) (ds := 43) (fun k H locs => H.size = a + 2 + 3 * k ∧ va1 G a (.inr (1, [.ref (a + 1), .null])) H ∧ va1 G (a + 1) (.inl (G.2.2.2.2.1, 4, .inr (.inr (.inr (.inr (fun j => if j < k then some (a + 2 + 3 * j) else none)))))) H ∧ (∀ y, y < k → RW0 G (a + 2 + 3 * y) H) ∧ va_S (fun q => a ≤ q) s.heap H locs) (fun k => [(1, .int (zI (k : Int))), (0, .ref a)]) ⟨hz0, h0, k1, fun y hy => absurd hy (Nat.not_lt_zero y), hS⟩ hl ?_ ?_
  · intro k H locs ls hk hI hl nxt
    obtain ⟨hz0, h0, k1, kR, hS⟩ := hI
    refine lv_iload_n hx hb dX1_init_14 rfl (lv_at hl 0 rfl) ?_
    refine x_iconst hx hb dX1_init_15 ?_
    refine x_icmp_ge (tgt := 38) hx hb dX1_init_16 (by decide) (by omega) (fun h1 => absurd h1 (by omega)) (fun h2 => ?_)
    refine lv_aload_n hx hb dX1_init_19 rfl (lv_at hl 1 rfl) ?_
    refine x_get (ci := 1) (C := RX1) (T := TX1) (N := 2) (own := RX1) (index := 11) (v := .ref (a + 1)) hx hb hts (by decide +kernel) hown hK h0 rfl 0 (by decide) (by decide +kernel) rfl rfl dX1_init_20 ?_
    refine lv_iload_n hx hb dX1_init_23 rfl (lv_at hl 0 rfl) ?_
    refine x_new (own := RX1) (C := RX2) (T := TX2) (N := 3) (ci := 2) (fs := [.null, .null, .int (zI 0)]) (a := a + 2 + 3 * k) hx hb hts (by decide +kernel) tyX2 tyX2_ok hown (index := 9) (by decide +kernel) (by decide +kernel) (by decide +kernel) hK rfl (by decide +kernel) hz0 hS ⟨by show 0 + 1 + 3 * k + 1 ≤ 14; omega, by show 0 + 4 + 43 * k + 3 ≤ 216; omega⟩ dX1_init_24 (fun H1 c0 z1 o1 hS => ?_)
    replace h0 := h0.kept (o1 _ (by simp only []; omega))
    replace k1 := k1.kept (o1 _ (by simp only []; omega))
    replace kR : ∀ y, y < k → RW0 G (a + 2 + 3 * y) H1 := fun y hy => (kR y hy).kept (fun q h1 h2 => o1 q (by omega))
    refine lv_dup hx hb dX1_init_27 rfl ?_
    refine va_callv (va_runIN (As := []) (rest := [.ref (a + 2 + 3 * k), .int (zI (k : Int)), .ref (a + 1)]) ⟨hx, hb, hml, hown, hts⟩ (c_X2_init l G (a + 2 + 3 * k)) ⟨va_cnB 0 hts gX1_init_X2_init_n17 rfl rfl rfl (x_nestM hK nk_RX1_17) (hts (.initialized RX2) (by decide +kernel)) (by decide +kernel) ⟨Nat.le_of_ble_eq_true rfl, Nat.le_of_ble_eq_true rfl⟩, rfl, hts (.instanceMethod yX2_init) (by decide +kernel)⟩ (x_preI z1 c0 hK hO1 hO2) rfl rfl hl.1 rfl (lv_room (Nat.le_of_ble_eq_true rfl)) dX1_init_28 ⟨by show 0 + 1 + 3 * k + 1 + 2 ≤ 14; omega, by show 0 + 4 + 43 * k + 3 + 43-3 ≤ 216; omega⟩) hS (fun q _ (h : a + 2 + 3 * k ≤ q) => (by omega : a ≤ q)) (fun q (h : a + 2 + 3 * k ≤ q) => (by omega : a ≤ q)) (fun u t H2 locs2 ht _ _ hB hz2 hk2 hS => ?_)
    obtain ⟨Hx, e1, hR, hz3⟩ := hB
    have e2 : Hx = H2 := e1.symm.trans ht
    subst e2
    replace h0 := h0.kept (hk2 _ (by simp only []; omega) (by simp only []; omega))
    replace k1 := k1.kept (hk2 _ (by simp only []; omega) (by simp only []; omega))
    replace kR : ∀ y, y < k → RW0 G (a + 2 + 3 * y) Hx := fun y hy => (kR y hy).kept (fun q h1 h2 => hk2 q (by omega) (by omega))
    refine x_aast (t0 := 3) (ci := 2) hx hb hK k1 rfl hR.1 rfl hS (by omega : a ≤ a + 1) k rfl hk (by decide) dX1_init_31 (fun H3 locs3 h3 z3 n3 hS => ?_)
    replace h0 := h0.kept (n3 _ (by simp only []; omega))
    replace kR : ∀ y, y < k → RW0 G (a + 2 + 3 * y) H3 := fun y hy => (kR y hy).kept (fun q h1 h2 => n3 q (by omega))
    replace hR := hR.kept (fun q h1 h2 => n3 q (by omega))
    refine x_iinc (lv' := [(1, .int (zI ((k : Int) + 1))), (0, .ref a)]) (k := 0) hx hb dX1_init_32 hl rfl (by decide) rfl (fun ls hl => ?_)
    refine lv_goto (tgt := 14) hx hb dX1_init_35 (by decide) ?_
    refine nxt _ _ _ ⟨?_, h0, x_same h3 (fun j hj => ?_), fun y hy => ?_, hS⟩ hl
    · rw [z3, hz3]; omega
    · by_cases hj : j = k
      · subst hj; rw [if_pos rfl, if_pos (Nat.lt_succ_self _)]
      · rw [if_neg hj]
        by_cases hj2 : j < k
        · rw [if_pos hj2, if_pos (by omega)]
        · rw [if_neg hj2, if_neg (by omega)]
    · by_cases hy2 : y = k
      · subst hy2; exact hR
      · exact kR y (by omega)
  · intro H locs ls hI hl
    obtain ⟨hz0, h0, k1, kR, hS⟩ := hI
    replace k1 : va1 G (a + 1) (.inl (G.2.2.2.2.1, 4, .inr (.inr (.inr (.inr (fun j => some (a + 2 + 3 * j))))))) H := x_same k1 (fun j hj => if_pos hj)
    refine lv_iload_n hx hb dX1_init_14 rfl (lv_at hl 0 rfl) ?_
    refine x_iconst hx hb dX1_init_15 ?_
    refine x_icmp_ge (tgt := 38) hx hb dX1_init_16 (by decide) (by omega) (fun h1 => ?_) (fun h2 => absurd h2 (by omega))
    refine lv_aload_n hx hb dX1_init_38 rfl (lv_at hl 1 rfl) ?_
    refine lv_bipush (v := zI 40) hx hb dX1_init_39 (by decide +kernel) ?_
    refine x_newI (a := a + 14) (N := 40) hx hb hK (hts (.arrayClass .int) (by decide +kernel)) hz0 (by rfl) (by decide) hS ⟨Nat.le_of_ble_eq_true rfl, Nat.le_of_ble_eq_true rfl⟩ dX1_init_41 (fun H1 k2 z1 o1 hS => ?_)
    replace h0 := h0.kept (o1 _ (by simp only []; omega))
    replace k1 := k1.kept (o1 _ (by simp only []; omega))
    replace hz0 : H1.size = a + 15 := z1
    replace kR : ∀ y, y < 4 → RW0 G (a + 2 + 3 * y) H1 := fun y hy => (kR y hy).kept (fun q h1 h2 => o1 q (by omega))
    refine x_putF (ci := 1) (C := RX1) (T := TX1) (N := 2) (own := RX1) (ref := RX1) (index := 18) hx hb hts (by decide +kernel) tyX1 tyX1_ok nmX1 hown hK h0 hS (Nat.le_refl a) rfl 1 (by decide) (by decide +kernel) rfl rfl hin2 rfl rfl rfl (Nat.le_of_ble_eq_true rfl) dX1_init_43 (fun H2 locs2 h2 z2 n2 hS => ?_)
    replace h0 : va1 G a (.inr (1, [.ref (a + 1), .ref (a + 14)])) H2 := h2
    replace k1 := k1.kept (n2 _ (by simp only []; omega))
    replace k2 := k2.kept (n2 _ (by simp only []; omega))
    replace hz0 := z2.trans hz0
    replace kR : ∀ y, y < 4 → RW0 G (a + 2 + 3 * y) H2 := fun y hy => (kR y hy).kept (fun q h1 h2 => n2 q (by omega))
    exact W.vret hx hb hr (fun t ht _ => ⟨⟨(), rfl, trivial, _, ht, ⟨h0, k1, k2, kR⟩, hz0⟩, hS.F ht⟩) hS.2.2 dX1_init_46
set_option maxHeartbeats 4000000 in
set_option maxRecDepth 100000 in
theorem c_X3_init (l : Launch) (G : XG) (a : Nat) : MetN l yX3_init wsX3_init 3 53 126 1825 G a 3 [.null, .null, .null] (fun H => BW G a b00 0 (fun _ => 0) H ∧ H.size = a + 127) := by
  refine Met.ofW (cc := cX3_init) (maxL := 2) (ret := none) (by decide) rfl ?_
  intro p e s m args below meth c s₁ B hml hv
  obtain ⟨rfl, hz0, h0, hK, hO1, hO2⟩ := hv
  have hx := B.exec
  have hb := B.bytes
  have hr := B.returns
  have hts := atoms_spec (ws := wsX3_init) B.pre
  have hown : s.vm.findClass RX3 = some m.cls := findClass_of_methodNamed B.named
  have hin2 : meth.name = "<init>" := (name_of_methodNamed B.named B.method).1
  have hlocks := B.notSynchronized
  have hl := lv_entry ([.ref a]) (n := 2) (Nat.le_of_ble_eq_true rfl)
  rw [lg_entry_eq]
  generalize (lg_sl ([.ref a]) ++ List.replicate (2 - (lg_sl ([.ref a])).length) Slot.unset).toArray = ls at hl ⊢
  have hl : lv_has ls 2 [(0, .ref a)] := hl
  have hS : va_S (fun q => a ≤ q) s.heap s.heap [] := va_S.rf
  refine lv_aload_n hx hb dX3_init_0 rfl (lv_at hl 0 rfl) ?_
  refine W.objInit hx hb hown (hts (.methodLink RX3 1 objectInit) (by decide +kernel)) (hts (.instanceMethod objectInit) (by decide +kernel)) (hts (.code objectInit ⟨#[0xb1]⟩ 1 none) (List.mem_of_getElem? (i := 3) rfl)) rfl (by rw [hml]; exact hl.1) rfl dX3_init_1 (Nat.le_of_ble_eq_true rfl) (Nat.le_of_ble_eq_true rfl) ?_
  refine W.eq (g2 := F0 m 4 ls []) rfl ?_
  refine lv_aload_n hx hb dX3_init_4 rfl (lv_at hl 0 rfl) ?_
  refine lv_bipush (v := zI 8) hx hb dX3_init_5 (by decide +kernel) ?_
  refine x_newQ (own := RX3) (C := RX1) (index := 9) (t0 := 2) (a := a + 1) (N := 8) hx hb hown (hts (.classLink RX3 9 RX1) (by decide +kernel)) hO1 hK rfl hz0 (by rfl) (by decide) hS ⟨Nat.le_of_ble_eq_true rfl, Nat.le_of_ble_eq_true rfl⟩ dX3_init_7 (fun H1 k1 z1 o1 hS => ?_)
  replace h0 := h0.kept (o1 _ (by simp only []; omega))
  replace hz0 : H1.size = a + 2 := z1
  refine x_putF (ci := 3) (C := RX3) (T := TX3) (N := 3) (own := RX3) (ref := RX3) (index := 11) hx hb hts (by decide +kernel) tyX3 tyX3_ok nmX3 hown hK h0 hS (Nat.le_refl a) rfl 0 (by decide) (by decide +kernel) rfl rfl hin2 rfl rfl rfl (Nat.le_of_ble_eq_true rfl) dX3_init_10 (fun H2 locs2 h2 z2 n2 hS => ?_)
  replace h0 : va1 G a (.inr (3, [.ref (a + 1), .null, .null])) H2 := h2
  replace k1 := k1.kept (n2 _ (by simp only []; omega))
  replace hz0 := z2.trans hz0
  refine x_iconst hx hb dX3_init_13 ?_
  refine lv_istore_n (lv' := [(1, .int (zI 0)), (0, .ref a)]) hx hb dX3_init_14 rfl hl (by decide) rfl (fun ls hl => ?_)
  refine x_loopC (N := 8) (dc := 15) (ds := 218) (fun k H locs => H.size = a + 2 + 15 * k ∧ va1 G a (.inr (3, [.ref (a + 1), .null, .null])) H ∧ va1 G (a + 1) (.inl (G.2.2.2.1, 8, .inr (.inr (.inr (.inr (fun j => if j < k then some (a + 2 + 15 * j) else none)))))) H ∧ (∀ y, y < k → QW0 G (a + 2 + 15 * y) H) ∧ va_S (fun q => a ≤ q) s.heap H locs) (fun k => [(1, .int (zI (k : Int))), (0, .ref a)]) ⟨hz0, h0, k1, fun y hy => absurd hy (Nat.not_lt_zero y), hS⟩ hl ?_ ?_
  · intro k H locs ls hk hI hl nxt
    obtain ⟨hz0, h0, k1, kR, hS⟩ := hI
    refine lv_iload_n hx hb dX3_init_15 rfl (lv_at hl 0 rfl) ?_
    refine lv_bipush (v := zI 8) hx hb dX3_init_16 (by decide +kernel) ?_
    refine x_icmp_ge (tgt := 40) hx hb dX3_init_18 (by decide) (by omega) (fun h1 => absurd h1 (by omega)) (fun h2 => ?_)
    refine lv_aload_n hx hb dX3_init_21 rfl (lv_at hl 1 rfl) ?_
    refine x_get (ci := 3) (C := RX3) (T := TX3) (N := 3) (own := RX3) (index := 11) (v := .ref (a + 1)) hx hb hts (by decide +kernel) hown hK h0 rfl 0 (by decide) (by decide +kernel) rfl rfl dX3_init_22 ?_
    refine lv_iload_n hx hb dX3_init_25 rfl (lv_at hl 0 rfl) ?_
    refine x_new (own := RX3) (C := RX1) (T := TX1) (N := 2) (ci := 1) (fs := [.null, .null]) (a := a + 2 + 15 * k) hx hb hts (by decide +kernel) tyX1 tyX1_ok hown (index := 9) (by decide +kernel) (by decide +kernel) (by decide +kernel) hK rfl (by decide +kernel) hz0 hS ⟨by show 0 + 1 + 15 * k + 1 ≤ 126; omega, by show 0 + 8 + 218 * k + 2 ≤ 1825; omega⟩ dX3_init_26 (fun H1 c0 z1 o1 hS => ?_)
    replace h0 := h0.kept (o1 _ (by simp only []; omega))
    replace k1 := k1.kept (o1 _ (by simp only []; omega))
    replace kR : ∀ y, y < k → QW0 G (a + 2 + 15 * y) H1 := fun y hy => (kR y hy).kept (fun q h1 h2 => o1 q (by omega))
    refine lv_dup hx hb dX3_init_29 rfl ?_
    refine va_callv (va_runIN (As := []) (rest := [.ref (a + 2 + 15 * k), .int (zI (k : Int)), .ref (a + 1)]) ⟨hx, hb, hml, hown, hts⟩ (c_X1_init l G (a + 2 + 15 * k)) ⟨va_cnB 0 hts gX3_init_X1_init_n15 rfl rfl rfl (x_nestM hK nk_RX3_15) (hts (.initialized RX1) (by decide +kernel)) (by decide +kernel) ⟨Nat.le_of_ble_eq_true rfl, Nat.le_of_ble_eq_true rfl⟩, rfl, hts (.instanceMethod yX1_init) (by decide +kernel)⟩ (x_preI z1 c0 hK hO1 hO2) rfl rfl hl.1 rfl (lv_room (Nat.le_of_ble_eq_true rfl)) dX3_init_30 ⟨by show 0 + 1 + 15 * k + 1 + 14 ≤ 126; omega, by show 0 + 8 + 218 * k + 2 + 218-2 ≤ 1825; omega⟩) hS (fun q _ (h : a + 2 + 15 * k ≤ q) => (by omega : a ≤ q)) (fun q (h : a + 2 + 15 * k ≤ q) => (by omega : a ≤ q)) (fun u t H2 locs2 ht _ _ hB hz2 hk2 hS => ?_)
    obtain ⟨Hx, e1, hR, hz3⟩ := hB
    have e2 : Hx = H2 := e1.symm.trans ht
    subst e2
    replace h0 := h0.kept (hk2 _ (by simp only []; omega) (by simp only []; omega))
    replace k1 := k1.kept (hk2 _ (by simp only []; omega) (by simp only []; omega))
    replace kR : ∀ y, y < k → QW0 G (a + 2 + 15 * y) Hx := fun y hy => (kR y hy).kept (fun q h1 h2 => hk2 q (by omega) (by omega))
    refine x_aast (t0 := 2) (ci := 1) hx hb hK k1 rfl hR.1 rfl hS (by omega : a ≤ a + 1) k rfl hk (by decide) dX3_init_33 (fun H3 locs3 h3 z3 n3 hS => ?_)
    replace h0 := h0.kept (n3 _ (by simp only []; omega))
    replace kR : ∀ y, y < k → QW0 G (a + 2 + 15 * y) H3 := fun y hy => (kR y hy).kept (fun q h1 h2 => n3 q (by omega))
    replace hR := hR.kept (fun q h1 h2 => n3 q (by omega))
    refine x_iinc (lv' := [(1, .int (zI ((k : Int) + 1))), (0, .ref a)]) (k := 0) hx hb dX3_init_34 hl rfl (by decide) rfl (fun ls hl => ?_)
    refine lv_goto (tgt := 15) hx hb dX3_init_37 (by decide) ?_
    refine nxt _ _ _ ⟨?_, h0, x_same h3 (fun j hj => ?_), fun y hy => ?_, hS⟩ hl
    · rw [z3, hz3]; omega
    · by_cases hj : j = k
      · subst hj; rw [if_pos rfl, if_pos (Nat.lt_succ_self _)]
      · rw [if_neg hj]
        by_cases hj2 : j < k
        · rw [if_pos hj2, if_pos (by omega)]
        · rw [if_neg hj2, if_neg (by omega)]
    · by_cases hy2 : y = k
      · subst hy2; exact hR
      · exact kR y (by omega)
  · intro H locs ls hI hl
    obtain ⟨hz0, h0, k1, kR, hS⟩ := hI
    replace k1 : va1 G (a + 1) (.inl (G.2.2.2.1, 8, .inr (.inr (.inr (.inr (fun j => some (a + 2 + 15 * j))))))) H := x_same k1 (fun j hj => if_pos hj)
    refine lv_iload_n hx hb dX3_init_15 rfl (lv_at hl 0 rfl) ?_
    refine lv_bipush (v := zI 8) hx hb dX3_init_16 (by decide +kernel) ?_
    refine x_icmp_ge (tgt := 40) hx hb dX3_init_18 (by decide) (by omega) (fun h1 => ?_) (fun h2 => absurd h2 (by omega))
    refine lv_aload_n hx hb dX3_init_40 rfl (lv_at hl 1 rfl) ?_
    refine x_new (own := RX3) (C := RX0) (T := TX0) (N := 5) (ci := 0) (fs := [.null, .null, .null, .int (zI 0), .int (zI 0)]) (a := a + 122) hx hb hts (by decide +kernel) tyX0 tyX0_ok hown (index := 16) (by decide +kernel) (by decide +kernel) (by decide +kernel) hK rfl (by decide +kernel) hz0 hS ⟨Nat.le_of_ble_eq_true rfl, Nat.le_of_ble_eq_true rfl⟩ dX3_init_41 (fun H1 c0 z1 o1 hS => ?_)
    replace h0 := h0.kept (o1 _ (by simp only []; omega))
    replace k1 := k1.kept (o1 _ (by simp only []; omega))
    replace kR : ∀ y, y < 8 → QW0 G (a + 2 + 15 * y) H1 := fun y hy => (kR y hy).kept (fun q h1 h2 => o1 q (by omega))
    refine lv_dup hx hb dX3_init_44 rfl ?_
    refine va_callv (va_runIN (As := []) (rest := [.ref (a + 122), .ref a]) ⟨hx, hb, hml, hown, hts⟩ (c_X0_init l G (a + 122)) ⟨va_cnB 0 hts gX3_init_X0_init_n18 rfl rfl rfl (x_nestM hK nk_RX3_18) (hts (.initialized RX0) (by decide +kernel)) (by decide +kernel) ⟨Nat.le_of_ble_eq_true rfl, Nat.le_of_ble_eq_true rfl⟩, rfl, hts (.instanceMethod yX0_init) (by decide +kernel)⟩ (x_preI z1 c0 hK hO1 hO2) rfl rfl hl.1 rfl (lv_room (Nat.le_of_ble_eq_true rfl)) dX3_init_45 ⟨Nat.le_of_ble_eq_true rfl, Nat.le_of_ble_eq_true rfl⟩) hS (fun q _ (h : a + 122 ≤ q) => (by omega : a ≤ q)) (fun q (h : a + 122 ≤ q) => (by omega : a ≤ q)) (fun u t H2 locs2 ht _ _ hB hz2 hk2 hS => ?_)
    obtain ⟨Hx, e1, hR, hz3⟩ := hB
    have e2 : Hx = H2 := e1.symm.trans ht
    subst e2
    replace h0 := h0.kept (hk2 _ (by simp only []; omega) (by simp only []; omega))
    replace k1 := k1.kept (hk2 _ (by simp only []; omega) (by simp only []; omega))
    replace kR : ∀ y, y < 8 → QW0 G (a + 2 + 15 * y) Hx := fun y hy => (kR y hy).kept (fun q h1 h2 => hk2 q (by omega) (by omega))
    replace hz0 : Hx.size = a + 126 := hz3
    obtain ⟨r1, r2, r3, r4⟩ := hR
    refine x_putF (ci := 3) (C := RX3) (T := TX3) (N := 3) (own := RX3) (ref := RX3) (index := 19) hx hb hts (by decide +kernel) tyX3 tyX3_ok nmX3 hown hK h0 hS (Nat.le_refl a) rfl 1 (by decide) (by decide +kernel) rfl rfl hin2 rfl rfl rfl (Nat.le_of_ble_eq_true rfl) dX3_init_48 (fun H2 locs2 h2 z2 n2 hS => ?_)
    replace h0 : va1 G a (.inr (3, [.ref (a + 1), .ref (a + 122), .null])) H2 := h2
    replace k1 := k1.kept (n2 _ (by simp only []; omega))
    replace r1 := r1.kept (n2 _ (by simp only []; omega))
    replace r2 := r2.kept (n2 _ (by simp only []; omega))
    replace r3 := r3.kept (n2 _ (by simp only []; omega))
    replace r4 := r4.kept (n2 _ (by simp only []; omega))
    replace hz0 := z2.trans hz0
    replace kR : ∀ y, y < 8 → QW0 G (a + 2 + 15 * y) H2 := fun y hy => (kR y hy).kept (fun q h1 h2 => n2 q (by omega))
    refine lv_aload_n hx hb dX3_init_51 rfl (lv_at hl 1 rfl) ?_
    refine lv_bipush (v := zI 8) hx hb dX3_init_52 (by decide +kernel) ?_
    refine x_newI (a := a + 126) (N := 8) hx hb hK (hts (.arrayClass .int) (by decide +kernel)) hz0 (by rfl) (by decide) hS ⟨Nat.le_of_ble_eq_true rfl, Nat.le_of_ble_eq_true rfl⟩ dX3_init_54 (fun H1 k2 z1 o1 hS => ?_)
    replace h0 := h0.kept (o1 _ (by simp only []; omega))
    replace k1 := k1.kept (o1 _ (by simp only []; omega))
    replace r1 := r1.kept (o1 _ (by simp only []; omega))
    replace r2 := r2.kept (o1 _ (by simp only []; omega))
    replace r3 := r3.kept (o1 _ (by simp only []; omega))
    replace r4 := r4.kept (o1 _ (by simp only []; omega))
    replace hz0 : H1.size = a + 127 := z1
    replace kR : ∀ y, y < 8 → QW0 G (a + 2 + 15 * y) H1 := fun y hy => (kR y hy).kept (fun q h1 h2 => o1 q (by omega))
    refine x_putF (ci := 3) (C := RX3) (T := TX3) (N := 3) (own := RX3) (ref := RX3) (index := 23) hx hb hts (by decide +kernel) tyX3 tyX3_ok nmX3 hown hK h0 hS (Nat.le_refl a) rfl 2 (by decide) (by decide +kernel) rfl rfl hin2 rfl rfl rfl (Nat.le_of_ble_eq_true rfl) dX3_init_56 (fun H2 locs2 h2 z2 n2 hS => ?_)
    replace h0 : va1 G a (.inr (3, [.ref (a + 1), .ref (a + 122), .ref (a + 126)])) H2 := h2
    replace k1 := k1.kept (n2 _ (by simp only []; omega))
    replace k2 := k2.kept (n2 _ (by simp only []; omega))
    replace r1 := r1.kept (n2 _ (by simp only []; omega))
    replace r2 := r2.kept (n2 _ (by simp only []; omega))
    replace r3 := r3.kept (n2 _ (by simp only []; omega))
    replace r4 := r4.kept (n2 _ (by simp only []; omega))
    replace hz0 := z2.trans hz0
    replace kR : ∀ y, y < 8 → QW0 G (a + 2 + 15 * y) H2 := fun y hy => (kR y hy).kept (fun q h1 h2 => n2 q (by omega))
    exact W.vret hx hb hr (fun t ht _ => ⟨⟨(), rfl, trivial, _, ht, ⟨h0, k1, fun y hy => ⟨(kR y hy).1, (kR y hy).2.1, (kR y hy).2.2.1⟩, fun y z hy hz => ((kR y hy).2.2.2 z hz), r1, r2, r3, r4, k2⟩, hz0⟩, hS.F ht⟩) hS.2.2 dX3_init_59
