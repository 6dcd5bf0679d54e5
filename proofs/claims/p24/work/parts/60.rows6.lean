/-! ===== making objects and arrays ===== -/
section XR6
variable {p : Program} {l : Launch} {e : Env} {R : Room} {s : State} {m : MethodId} {args : Array Value} {below : List Frame} {meth : Method} {c : Code} {H H0 : Heap} {locs : List Loc} {cells slots : Nat} {Q : State → Prop} {cc : ByteArray} {pc : Nat} {ls : Array Slot} {rest : List Value} {G : XG} {A : Nat → Prop}
theorem x_S1 {H1 : Heap} {a : Nat} (hS : va_S A H0 H locs) (ha : H.size = a) (z1 : H1.size = a + 1) (o1 : ∀ q : Nat, q < a → H1[q]? = H[q]?) : va_S A H0 H1 locs := by
  subst ha
  exact ⟨Nat.le_trans hS.1 (by omega), fun x h1 h2 => (o1 x (Nat.lt_of_lt_of_le h1 hS.1)).trans (hS.2.1 x h1 h2), hS.2.2⟩
theorem x_newI (hx : p.tables.exec = Jvm.exec) (hb : c.code = cc) (hK : XK G s) (harr : (Cond.arrayClass .int).before args s = true) {a N : Nat} {zn : Int} (ha : H.size = a) (hN : zn = (N : Int)) (hN2 : N ≤ 1000) (hS : va_S A H0 H locs) (hcs : cells + 1 ≤ R.cells ∧ slots + N ≤ R.slots) (hdg : decode cc pc = .ok (.newarray .int, 2))
    (kk : ∀ H1 : Heap, va1 G a (eI G N (fun _ => 0)) H1 → H1.size = a + 1 → (∀ q, q < a → H1[q]? = H[q]?) → va_S A H0 H1 locs → W p l e R s m args below meth c H1 locs (cells + 1) (slots + N) Q (F0 m (pc + 2) ls (.ref a :: rest))) : W p l e R s m args below meth c H locs cells slots Q (F0 m pc ls (.int (zI zn) :: rest)) := by
  subst hN
  refine va_newaK hx hb (atype := .int) harr rfl hdg rfl (by have := zI_in (k := N) (n := N + 1) (by omega) (by omega); exact fun z => this (Or.inl z)) (zI_cl (by omega)) (by show N * 4 ≤ 536870912; omega) hcs.1 hcs.2 ha fun H1 cA e1 z1 o1 _ hNm => ?_
  have hc : cA = G.2.1 := Option.some.inj (hNm.symm.trans (hK.1.2 0 _ rfl).2)
  subst hc
  exact kk H1 (by show H1[a]? = some (vp_cell _ _); rw [e1, vp_cell_i]; congr 2) z1 o1 (x_S1 hS ha z1 o1)
theorem x_newZ (hx : p.tables.exec = Jvm.exec) (hb : c.code = cc) (hK : XK G s) (harr : (Cond.arrayClass .boolean).before args s = true) {a N : Nat} {zn : Int} (ha : H.size = a) (hN : zn = (N : Int)) (hN2 : N ≤ 1000) (hS : va_S A H0 H locs) (hcs : cells + 1 ≤ R.cells ∧ slots + N ≤ R.slots) (hdg : decode cc pc = .ok (.newarray .boolean, 2))
    (kk : ∀ H1 : Heap, va1 G a (eZ G N (fun _ => 0)) H1 → H1.size = a + 1 → (∀ q, q < a → H1[q]? = H[q]?) → va_S A H0 H1 locs → W p l e R s m args below meth c H1 locs (cells + 1) (slots + N) Q (F0 m (pc + 2) ls (.ref a :: rest))) : W p l e R s m args below meth c H locs cells slots Q (F0 m pc ls (.int (zI zn) :: rest)) := by
  subst hN
  refine va_newaK hx hb (atype := .boolean) harr rfl hdg rfl (by have := zI_in (k := N) (n := N + 1) (by omega) (by omega); exact fun z => this (Or.inl z)) (zI_cl (by omega)) (by show N * 1 ≤ 536870912; omega) hcs.1 hcs.2 ha fun H1 cA e1 z1 o1 _ hNm => ?_
  have hc : cA = G.2.2.1 := Option.some.inj (hNm.symm.trans (hK.1.2 1 _ rfl).2)
  subst hc
  exact kk H1 (by show H1[a]? = some (vp_cell _ _); rw [e1, vp_cell_i]; congr 2) z1 o1 (x_S1 hS ha z1 o1)
theorem x_newQ (hx : p.tables.exec = Jvm.exec) (hb : c.code = cc) {own C : String} {index t0 : Nat} {cA0 : ClassId} (hown : s.vm.findClass own = some m.cls) (hcl : (Cond.classLink own index C).before args s = true) (hover : va_AO C s) (hK : XK G s) (ht : ([(G.2.1, .int), (G.2.2.1, .boolean), (G.2.2.2.1, .object RX1), (G.2.2.2.2.1, .object RX2)] : List (ClassId × FieldType))[t0]? = some (cA0, .object C)) {a N : Nat} {zn : Int} (ha : H.size = a) (hN : zn = (N : Int)) (hN2 : N ≤ 1000) (hS : va_S A H0 H locs) (hcs : cells + 1 ≤ R.cells ∧ slots + N ≤ R.slots) (hdg : decode cc pc = .ok (.anewarray index, 3))
    (kk : ∀ H1 : Heap, va1 G a (.inl (cA0, N, .inr (.inr (.inr (.inr (fun _ => none)))))) H1 → H1.size = a + 1 → (∀ q, q < a → H1[q]? = H[q]?) → va_S A H0 H1 locs → W p l e R s m args below meth c H1 locs (cells + 1) (slots + N) Q (F0 m (pc + 3) ls (.ref a :: rest))) : W p l e R s m args below meth c H locs cells slots Q (F0 m pc ls (.int (zI zn) :: rest)) := by
  subst hN
  subst ha
  have hcl9 : (zI (N : Int)).toNatClampNeg = N := zI_cl (by omega)
  refine W.anew hx hb hown hcl (va_AO.use hover) rfl hdg rfl (by have := zI_in (k := N) (n := N + 1) (by omega) (by omega); exact fun z => this (Or.inl z)) (by rw [hcl9]; omega) hcs.1 (by rw [hcl9]; exact hcs.2) fun cA kA comp f1 f2 f3 f4 => ?_
  rw [hcl9]
  obtain ⟨kA', comp', g1, g2, g3, g4⟩ := (hK.1.2 t0 _ ht).2
  have hc : cA = cA0 := Option.some.inj (f1.symm.trans g4)
  subst hc
  generalize hH1 : H.push ({ cls := cA, slots := Array.replicate N .null, vm := .none } : Cell) = H1
  have z1 : H1.size = H.size + 1 := by rw [← hH1, Array.size_push]
  have o1 : ∀ q : Nat, q < H.size → H1[q]? = H[q]? := fun q hq => by rw [← hH1, Array.getElem?_push, if_neg (Nat.ne_of_lt hq)]
  exact kk H1 (by show H1[H.size]? = some (vp_cell _ _); rw [vp_cell_q, ← hH1, Array.getElem?_push_size, ← arrV_new]; rfl) z1 o1 (x_S1 hS rfl z1 o1)
theorem x_new (hx : p.tables.exec = Jvm.exec) (hb : c.code = cc) {own C : String} {T : u_T} {N ci index : Nat} {Ts : List Cond} (hts : ∀ w ∈ Ts, w.before args s = true) (hin : ∀ w ∈ u_ws C T N, w ∈ Ts) (ty : Nat → FieldType) (hty : ∀ k, k < N → parseFieldDescriptor (T k).2.2.1 = some (ty k)) (hown : s.vm.findClass own = some m.cls) (h1 : Cond.classLink own index C ∈ Ts) (h2 : Cond.instantiable C N ∈ Ts) (h3 : Cond.initialized C ∈ Ts)
    (hK : XK G s) (hc : vwCl[ci]? = some (C, T, N)) {fs : List Value} (hfs : ∀ j, j < N → defaultValue (ty j) = vp_V fs j) {a : Nat} (ha : H.size = a) (hS : va_S A H0 H locs) (hcs : cells + 1 ≤ R.cells ∧ slots + N ≤ R.slots) (hdg : decode cc pc = .ok (.new index, 3))
    (kk : ∀ H1 : Heap, va1 G a (.inr (ci, fs)) H1 → H1.size = a + 1 → (∀ q, q < a → H1[q]? = H[q]?) → va_S A H0 H1 locs → W p l e R s m args below meth c H1 locs (cells + 1) (slots + N) Q (F0 m (pc + 3) ls (.ref a :: rest))) : W p l e R s m args below meth c H locs cells slots Q (F0 m pc ls rest) := by
  have hKn := hK.1.1 ci _ hc
  refine W.newcK hx hb hown (hts _ h1) (hts _ h2) (hts _ h3) rfl hdg hcs.1 hcs.2 hKn.2.1 ha fun H1 kC hkC e1 z1 o1 => ?_
  exact kk H1 ⟨_, hc, (u_born ty hts hin hKn hkC e1 hty).to hfs⟩ z1 o1 (x_S1 hS ha z1 o1)
theorem x_putF (hx : p.tables.exec = Jvm.exec) (hb : c.code = cc) {own ref C : String} {T : u_T} {N ci index aa : Nat} {Ts : List Cond} {fs : List Value} (hts : ∀ w ∈ Ts, w.before args s = true) (hin : ∀ w ∈ u_ws C T N, w ∈ Ts) (ty0 : Nat → FieldType) (hty : ∀ k, k < N → parseFieldDescriptor (T k).2.2.1 = some (ty0 k)) (hnm : ∀ a, a < N → ∀ b, b < N → a ≠ b → (T a).2.1 ≠ (T b).2.1) (hown : s.vm.findClass own = some m.cls) (hK : XK G s) (hP : va1 G aa (.inr (ci, fs)) H) (hS0 : va_S A H0 H locs) (hA : A aa) (hc : vwCl[ci]? = some (C, T, N)) (k : Nat) (hk : k < N) (hlink : Cond.fieldLink own index ref (T k).2.1 (T k).2.2.1 ∈ Ts) (href : (T k).1 = ref) (hfin : (T k).2.2.2 = true) (hin2 : meth.name = "<init>") (hdecl : (T k).1 = own) {v : Value} (hn : narrow (ty0 k) v = v) (hfit : fits (ty0 k) v = true) (hl : k < fs.length) (hdg : decode cc pc = .ok (.putfield index, 3))
    (kk : ∀ (H1 : Heap) (locs1 : List Loc), va1 G aa (.inr (ci, fs.set k v)) H1 → H1.size = H.size → (∀ q, q ≠ aa → H1[q]? = H[q]?) → va_S A H0 H1 locs1 → W p l e R s m args below meth c H1 locs1 cells slots Q (F0 m (pc + 3) ls rest)) : W p l e R s m args below meth c H locs cells slots Q (F0 m pc ls (v :: .ref aa :: rest)) := by
  have hPP := x_one hP
  have hlt := hP.lt
  -- through va_putF over the heap's own cell and every other cell, one at a time
  have hap := va_apart (own := own) hts hin ty0 hty hnm hK.1 hc
  obtain ⟨r, h1, cell, q1, q2, q3, q4⟩ := hP
  have hr : r = (C, T, N) := Option.some.inj (h1.symm.trans hc)
  subst hr
  obtain ⟨hS, hfc, kC, hkC, hkind⟩ := hK.1.1 ci _ hc
  obtain ⟨cf, kf, fi, f, hi, hsl⟩ := hS k hk
  have hlay := u_lays hts hin hk
  have hst := (u_facts hfc hkC hlay hi).1
  have h6 := u_fits hfc hkC hkind hlay hi (hty k hk) hn hfit
  have hown2 : cf = m.cls := by
    have h7 := hts _ (hin _ (u_in_lay hk))
    unfold u_lay at h7
    rw [if_pos hfin] at h7
    obtain ⟨c2, k2, cf2, kf2, fi2, fd2, r1, r2, hi2, hst2, hfin2, hcast2, hcls2, hty2, -⟩ := Cond.laysFinal_spec h7
    cases hi.symm.trans hi2
    rw [hdecl] at hcls2
    exact Option.some.inj (hcls2.symm.trans hown)
  refine W.putf hx hb hown (hts _ hlink) (by rw [← href]; exact hi) hst (Or.inr ⟨hown2.symm, hin2⟩) q1 (by rw [q3]; exact fun h => by cases h) (by rw [hsl]; exact k2_hasslot (q4 k hk)) h6.1 (by rw [q2, q3]; exact h6.2) rfl rfl hdg ?_
  have e1 : (H.setIfInBounds aa (cell.setSlot f.slot v))[aa]? = some (cell.setSlot f.slot v) := by simp [hlt]
  have e3 : ∀ q : Nat, q ≠ aa → (H.setIfInBounds aa (cell.setSlot f.slot v))[q]? = H[q]? := fun q hq => Array.getElem?_setIfInBounds_ne (Ne.symm hq)
  have e2 : (H.setIfInBounds aa (cell.setSlot f.slot v)).size = H.size := by simp
  rw [hsl] at e1 e2 e3 ⊢
  exact kk _ _ ⟨_, hc, t_OB.to (V := updV (vp_V fs) k v) ⟨_, e1, q2, q3, t_set q4 hap hk v⟩ (fun j _ => vp_updV_set hl v j)⟩ e2 e3 (hS0.put e2 e3 hA)
theorem x_aast (hx : p.tables.exec = Jvm.exec) (hb : c.code = cc) {aa n vv ci t0 : Nat} {r : vw_C} {vs : List Value} {cA : ClassId} {F : Nat → Option Nat} {i : Int} (hK : XK G s) (hP : va1 G aa (.inl (cA, n, .inr (.inr (.inr (.inr F))))) H) (ht : ([(G.2.1, .int), (G.2.2.1, .boolean), (G.2.2.2.1, .object RX1), (G.2.2.2.2.1, .object RX2)] : List (ClassId × FieldType))[t0]? = some (cA, .object r.1)) (hv : va1 G vv (.inr (ci, vs)) H) (hc : vwCl[ci]? = some r) (hS0 : va_S A H0 H locs) (hA : A aa) (k : Nat) (hi : i = (k : Int)) (hlt : k < n) (hn : n < 2147483648) (hdg : decode cc pc = .ok (.aastore, 1))
    (kk : ∀ (H1 : Heap) (locs1 : List Loc), va1 G aa (.inl (cA, n, .inr (.inr (.inr (.inr (fun j => if j = k then some vv else F j)))))) H1 → H1.size = H.size → (∀ q, q ≠ aa → H1[q]? = H[q]?) → va_S A H0 H1 locs1 → W p l e R s m args below meth c H1 locs1 cells slots Q (F0 m (pc + 1) ls rest)) : W p l e R s m args below meth c H locs cells slots Q (F0 m pc ls (.ref vv :: .int (zI i) :: .ref aa :: rest)) := by
  subst hi
  have hin := zI_in hlt hn
  have hltc : (zI (k : Int)).toNatClampNeg < n := Nat.not_le.mp fun q => hin (Or.inr q)
  have h0 : ¬ zI (k : Int) < 0 := fun q => hin (Or.inl q)
  obtain ⟨r', hr', cellV, g1, g2, g3, -⟩ := hv
  have hcls := (hK.1.1 ci r hc).2
  obtain ⟨kA, comp, k1, k2, k3, -⟩ := (hK.1.2 t0 _ ht).2
  have hcomp : comp = G.1.1 ci := Option.some.inj (k3.symm.trans hcls.1)
  subst hcomp
  obtain ⟨kC, hkC, -⟩ := hcls.2
  refine W.aast hx hb hP (fun q h => by cases h) (fun h => by cases h) k1 k2 rfl hkC ⟨h0, by show _ < (arrV _ _ _).slots.size; rw [arrV_size]; exact hltc⟩ g1 (fun q h => by rw [g3] at h; cases h) (by rw [g2]; exact hkC) (by rw [g2]; exact va_assign hcls) rfl rfl hdg fun H1 e z oq => ?_
  refine kk H1 _ ?_ z oq (hS0.put z oq hA)
  show H1[aa]? = some (vp_cell _ _)
  rw [e]
  rw [vp_cell_q, vp_cell_q, arrV_store]
  congr 2
  funext q
  rw [zI_cl (by omega)]
  by_cases hq : q = k
  · subst hq
    simp [updV, va_rf]
  · simp [updV, hq]
end XR6
