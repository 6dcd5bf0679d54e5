/-! ===== the reference's world: its rows by number ===== -/
def mN (b : XB) (r : Nat) : Nat := bN b (r % 8) (r / 8)
def mR (b : XB) (i : Nat) : Nat := bD b (i / 20 % 8) (i / 20 / 8) (i % 20) + 64 * bS b (i / 20 % 8) (i / 20 / 8) (i % 20)
def mJ (b : XB) (i : Nat) : Nat := bJ b (i / 40) (i % 40)
theorem mN_at (b : XB) {q y : Nat} (hq : q < 8) : mN b (8 * y + q) = bN b q y := by
  unfold mN
  rw [show (8 * y + q) % 8 = q from by omega, show (8 * y + q) / 8 = y from by omega]
theorem mR_at {b : XB} (hi : bInv b) {q y k : Nat} (hq : q < 8) (hk : k < 20) : mR b (20 * (8 * y + q) + k) = bD b q y k + 64 * bS b q y k ∧ bD b q y k < 40 ∧ bS b q y k ≤ 1000 := by
  unfold mR
  rw [show (20 * (8 * y + q) + k) / 20 % 8 = q from by omega, show (20 * (8 * y + q) + k) / 20 / 8 = y from by omega, show (20 * (8 * y + q) + k) % 20 = k from by omega]
  exact ⟨rfl, hi.d q y k, hi.s q y k⟩
theorem mJ_at {b : XB} (hi : bInv b) {q d : Nat} (hd : d < 40) : mJ b (40 * q + d) = bJ b q d ∧ bJ b q d ≤ 2 := by
  unfold mJ
  rw [show (40 * q + d) / 40 = q from by omega, show (40 * q + d) % 40 = d from by omega]
  exact ⟨rfl, hi.j q d⟩
/-- the JudgedRunsModel at o: its cells lie from o to o + 6 -/
def MW (G : XG) (o : Nat) (b : XB) (th ov un : Int) (H : Heap) : Prop :=
  va1 G o (.inr (4, [.ref (o + 1), .ref (o + 2), .ref (o + 3), .int (zI (bL b)), .ref (o + 4), .ref (o + 5), .ref (o + 6), .long (lI ov), .long (lI un), .int (zI th)])) H ∧
  va1 G (o + 1) (eI G 32 (fun r => (mN b r : Int))) H ∧ va1 G (o + 2) (eI G 640 (fun i => (mR b i : Int))) H ∧ va1 G (o + 3) (eI G 320 (fun i => (mJ b i : Int))) H ∧
  va1 G (o + 4) (eI G 20 (fun k => (bLD b k : Int))) H ∧ va1 G (o + 5) (eI G 20 (fun k => (bLG b k : Int))) H ∧ va1 G (o + 6) (eI G 20 (fun k => (bLC b k : Int))) H
section
variable {G : XG} {o : Nat} {b : XB} {th ov un : Int} {H H1 : Heap}
theorem MW.ob (h : MW G o b th ov un H) : va1 G o (.inr (4, [.ref (o + 1), .ref (o + 2), .ref (o + 3), .int (zI (bL b)), .ref (o + 4), .ref (o + 5), .ref (o + 6), .long (lI ov), .long (lI un), .int (zI th)])) H := h.1
theorem MW.le (h : MW G o b th ov un H) : va1 G (o + 1) (eI G 32 (fun r => (mN b r : Int))) H := h.2.1
theorem MW.ro (h : MW G o b th ov un H) : va1 G (o + 2) (eI G 640 (fun i => (mR b i : Int))) H := h.2.2.1
theorem MW.ju (h : MW G o b th ov un H) : va1 G (o + 3) (eI G 320 (fun i => (mJ b i : Int))) H := h.2.2.2.1
theorem MW.li (h : MW G o b th ov un H) : va1 G (o + 4) (eI G 20 (fun k => (bLD b k : Int))) H := h.2.2.2.2.1
theorem MW.gi (h : MW G o b th ov un H) : va1 G (o + 5) (eI G 20 (fun k => (bLG b k : Int))) H := h.2.2.2.2.2.1
theorem MW.ck (h : MW G o b th ov un H) : va1 G (o + 6) (eI G 20 (fun k => (bLC b k : Int))) H := h.2.2.2.2.2.2
theorem MW.kept (h : MW G o b th ov un H) (hq : ∀ a, o ≤ a → a < o + 7 → H1[a]? = H[a]?) : MW G o b th ov un H1 :=
  ⟨h.ob.kept (hq _ (by simp only []; omega) (by simp only []; omega)), h.le.kept (hq _ (by simp only []; omega) (by simp only []; omega)), h.ro.kept (hq _ (by simp only []; omega) (by simp only []; omega)), h.ju.kept (hq _ (by simp only []; omega) (by simp only []; omega)), h.li.kept (hq _ (by simp only []; omega) (by simp only []; omega)), h.gi.kept (hq _ (by simp only []; omega) (by simp only []; omega)), h.ck.kept (hq _ (by simp only []; omega) (by simp only []; omega))⟩
theorem MW.lt (h : MW G o b th ov un H) : o + 7 ≤ H.size := by
  have := h.ck.lt
  simp only [] at this
  omega
theorem MW.putO (h : MW G o b th ov un H) {t v u : Int} (h1 : va1 G o (.inr (4, [.ref (o + 1), .ref (o + 2), .ref (o + 3), .int (zI (bL b)), .ref (o + 4), .ref (o + 5), .ref (o + 6), .long (lI v), .long (lI u), .int (zI t)])) H1) (hn : ∀ a, a ≠ o → H1[a]? = H[a]?) : MW G o b t v u H1 :=
  ⟨h1, h.le.kept (hn _ (by simp only []; omega)), h.ro.kept (hn _ (by simp only []; omega)), h.ju.kept (hn _ (by simp only []; omega)), h.li.kept (hn _ (by simp only []; omega)), h.gi.kept (hn _ (by simp only []; omega)), h.ck.kept (hn _ (by simp only []; omega))⟩
theorem MW.putC (h : MW G o b th ov un H) {x : Int} {v : Nat} (hx : x = (v : Int)) (h1 : va1 G o (.inr (4, [.ref (o + 1), .ref (o + 2), .ref (o + 3), .int (zI x), .ref (o + 4), .ref (o + 5), .ref (o + 6), .long (lI ov), .long (lI un), .int (zI th)])) H1) (hn : ∀ a, a ≠ o → H1[a]? = H[a]?) : MW G o (uL b v) th ov un H1 := by
  subst hx
  exact ⟨h1, h.le.kept (hn _ (by simp only []; omega)), h.ro.kept (hn _ (by simp only []; omega)), h.ju.kept (hn _ (by simp only []; omega)), h.li.kept (hn _ (by simp only []; omega)), h.gi.kept (hn _ (by simp only []; omega)), h.ck.kept (hn _ (by simp only []; omega))⟩
theorem MW.putL (h : MW G o b th ov un H) {q y : Nat} (hq : q < 8) {x : Int} {v : Nat} (hx : x = (v : Int)) (h1 : va1 G (o + 1) (eI G 32 (fun r => if r = 8 * y + q then x else (mN b r : Int))) H1) (hn : ∀ a, a ≠ o + 1 → H1[a]? = H[a]?) : MW G o (uN b q y v) th ov un H1 := by
  subst hx
  have e : (fun r => (mN (uN b q y v) r : Int)) = (fun r => if r = 8 * y + q then (v : Int) else (mN b r : Int)) := by
    funext r
    show (((if r % 8 = q ∧ r / 8 = y then v else mN b r) : Nat) : Int) = _
    by_cases hr : r = 8 * y + q
    · rw [if_pos (by omega), if_pos hr]
    · rw [if_neg (by omega), if_neg hr]
  have e1 : va1 G (o + 1) (eI G 32 (fun r => (mN (uN b q y v) r : Int))) H1 := by rw [e]; exact h1
  exact ⟨h.ob.kept (hn _ (by simp only []; omega)), e1, h.ro.kept (hn _ (by simp only []; omega)), h.ju.kept (hn _ (by simp only []; omega)), h.li.kept (hn _ (by simp only []; omega)), h.gi.kept (hn _ (by simp only []; omega)), h.ck.kept (hn _ (by simp only []; omega))⟩
theorem MW.putR (h : MW G o b th ov un H) {q y k : Nat} (hq : q < 8) (hk : k < 20) {x : Int} {d c : Nat} (hx : x = ((d + 64 * c : Nat) : Int)) (h1 : va1 G (o + 2) (eI G 640 (fun i => if i = 20 * (8 * y + q) + k then x else (mR b i : Int))) H1) (hn : ∀ a, a ≠ o + 2 → H1[a]? = H[a]?) : MW G o (uS (uD b q y k d) q y k c) th ov un H1 := by
  subst hx
  have e : (fun i => (mR (uS (uD b q y k d) q y k c) i : Int)) = (fun i => if i = 20 * (8 * y + q) + k then ((d + 64 * c : Nat) : Int) else (mR b i : Int)) := by
    funext i
    show (((if i / 20 % 8 = q ∧ i / 20 / 8 = y ∧ i % 20 = k then d else bD b (i / 20 % 8) (i / 20 / 8) (i % 20)) + 64 * (if i / 20 % 8 = q ∧ i / 20 / 8 = y ∧ i % 20 = k then c else bS b (i / 20 % 8) (i / 20 / 8) (i % 20)) : Nat) : Int) = _
    by_cases hr : i = 20 * (8 * y + q) + k
    · rw [if_pos (by omega), if_pos (by omega), if_pos hr]
    · rw [if_neg (by omega), if_neg (by omega), if_neg hr]; rfl
  have e1 : va1 G (o + 2) (eI G 640 (fun i => (mR (uS (uD b q y k d) q y k c) i : Int))) H1 := by rw [e]; exact h1
  exact ⟨h.ob.kept (hn _ (by simp only []; omega)), h.le.kept (hn _ (by simp only []; omega)), e1, h.ju.kept (hn _ (by simp only []; omega)), h.li.kept (hn _ (by simp only []; omega)), h.gi.kept (hn _ (by simp only []; omega)), h.ck.kept (hn _ (by simp only []; omega))⟩
theorem MW.putJ (h : MW G o b th ov un H) {q d : Nat} (hd : d < 40) {x : Int} {v : Nat} (hx : x = (v : Int)) (h1 : va1 G (o + 3) (eI G 320 (fun i => if i = 40 * q + d then x else (mJ b i : Int))) H1) (hn : ∀ a, a ≠ o + 3 → H1[a]? = H[a]?) : MW G o (uJ b q d v) th ov un H1 := by
  subst hx
  have e : (fun i => (mJ (uJ b q d v) i : Int)) = (fun i => if i = 40 * q + d then (v : Int) else (mJ b i : Int)) := by
    funext i
    show (((if i / 40 = q ∧ i % 40 = d then v else mJ b i) : Nat) : Int) = _
    by_cases hr : i = 40 * q + d
    · rw [if_pos (by omega), if_pos hr]
    · rw [if_neg (by omega), if_neg hr]
  have e1 : va1 G (o + 3) (eI G 320 (fun i => (mJ (uJ b q d v) i : Int))) H1 := by rw [e]; exact h1
  exact ⟨h.ob.kept (hn _ (by simp only []; omega)), h.le.kept (hn _ (by simp only []; omega)), h.ro.kept (hn _ (by simp only []; omega)), e1, h.li.kept (hn _ (by simp only []; omega)), h.gi.kept (hn _ (by simp only []; omega)), h.ck.kept (hn _ (by simp only []; omega))⟩
theorem MW.putLi (h : MW G o b th ov un H) {k : Nat} {x : Int} {v : Nat} (hx : x = (v : Int)) (h1 : va1 G (o + 4) (eI G 20 (fun j => if j = k then x else (bLD b j : Int))) H1) (hn : ∀ a, a ≠ o + 4 → H1[a]? = H[a]?) : MW G o (uLD b k v) th ov un H1 := by
  subst hx
  have e1 : va1 G (o + 4) (eI G 20 (fun j => (bLD (uLD b k v) j : Int))) H1 := by
    have e : (fun j => (bLD (uLD b k v) j : Int)) = (fun j => if j = k then (v : Int) else (bLD b j : Int)) := by
      funext j
      show (((if _ then _ else bLD b j) : Nat) : Int) = _
      by_cases hj : j = k
      · rw [if_pos hj, if_pos hj]
      · rw [if_neg hj, if_neg hj]
    rw [e]; exact h1
  exact ⟨h.ob.kept (hn _ (by simp only []; omega)), h.le.kept (hn _ (by simp only []; omega)), h.ro.kept (hn _ (by simp only []; omega)), h.ju.kept (hn _ (by simp only []; omega)), e1, h.gi.kept (hn _ (by simp only []; omega)), h.ck.kept (hn _ (by simp only []; omega))⟩
theorem MW.putG (h : MW G o b th ov un H) {k : Nat} {x : Int} {v : Nat} (hx : x = (v : Int)) (h1 : va1 G (o + 5) (eI G 20 (fun j => if j = k then x else (bLG b j : Int))) H1) (hn : ∀ a, a ≠ o + 5 → H1[a]? = H[a]?) : MW G o (uLG b k v) th ov un H1 := by
  subst hx
  have e1 : va1 G (o + 5) (eI G 20 (fun j => (bLG (uLG b k v) j : Int))) H1 := by
    have e : (fun j => (bLG (uLG b k v) j : Int)) = (fun j => if j = k then (v : Int) else (bLG b j : Int)) := by
      funext j
      show (((if _ then _ else bLG b j) : Nat) : Int) = _
      by_cases hj : j = k
      · rw [if_pos hj, if_pos hj]
      · rw [if_neg hj, if_neg hj]
    rw [e]; exact h1
  exact ⟨h.ob.kept (hn _ (by simp only []; omega)), h.le.kept (hn _ (by simp only []; omega)), h.ro.kept (hn _ (by simp only []; omega)), h.ju.kept (hn _ (by simp only []; omega)), h.li.kept (hn _ (by simp only []; omega)), e1, h.ck.kept (hn _ (by simp only []; omega))⟩
theorem MW.putK (h : MW G o b th ov un H) {k : Nat} {x : Int} {v : Nat} (hx : x = (v : Int)) (h1 : va1 G (o + 6) (eI G 20 (fun j => if j = k then x else (bLC b j : Int))) H1) (hn : ∀ a, a ≠ o + 6 → H1[a]? = H[a]?) : MW G o (uLC b k v) th ov un H1 := by
  subst hx
  have e1 : va1 G (o + 6) (eI G 20 (fun j => (bLC (uLC b k v) j : Int))) H1 := by
    have e : (fun j => (bLC (uLC b k v) j : Int)) = (fun j => if j = k then (v : Int) else (bLC b j : Int)) := by
      funext j
      show (((if _ then _ else bLC b j) : Nat) : Int) = _
      by_cases hj : j = k
      · rw [if_pos hj, if_pos hj]
      · rw [if_neg hj, if_neg hj]
    rw [e]; exact h1
  exact ⟨h.ob.kept (hn _ (by simp only []; omega)), h.le.kept (hn _ (by simp only []; omega)), h.ro.kept (hn _ (by simp only []; omega)), h.ju.kept (hn _ (by simp only []; omega)), h.li.kept (hn _ (by simp only []; omega)), h.gi.kept (hn _ (by simp only []; omega)), e1⟩
end
abbrev mA (o : Nat) : Nat → Prop := fun q => o ≤ q ∧ q < o + 7
abbrev MPc (G : XG) (o : Nat) (b : XB) (th ov un : Int) (av : List Value) : Array Value → State → Prop := va_Pc av (fun U => MW G o b th ov un U.heap ∧ bInv b ∧ XK G U)
theorem x_blindM {G : XG} {o : Nat} {b : XB} {th ov un : Int} {av : List Value} : FrameBlind (MPc G o b th ov un av) := fun a U g mk h => ⟨h.1, h.2.1, h.2.2.1, h.2.2.2.warm (U := U.calling g mk a) (State.WarmedH.refl U)⟩
theorem x_preM {G : XG} {o : Nat} {b : XB} {th ov un : Int} {s : State} {H : Heap} {As : List Value} (hW : MW G o b th ov un H) (hi : bInv b) (hK : XK G s) : PreV s H RX4 o (MPc G o b th ov un (.ref o :: As)) As :=
  ⟨x_blindM, va_recv hK.1 (x_one hW.ob) (ci := 4) (q := (RX4, TX4, 10)) rfl (q0 := 0) rfl, fun U hU hW' => ⟨rfl, by rw [hU]; exact hW, hi, hK.warm hW'⟩⟩
/-- the contract of a method of the reference's face: kz is what thrown() answers then -/
abbrev MetQI (l : Launch) (y : MethodName) (ws : List Cond) (rm : Room) (G : XG) (o : Nat) (b : XB) (th ov un : Int) (av : List Value) (kz z : Int) (b2 : XB) : Prop := Met l y ws rm (MPc G o b th ov un av) (va_Qi (fun r (_ : Unit) => kz = 0 → r = zI z) (hpw (fun H => ∃ ov2 un2, MW G o (if kz = 0 then b2 else b) kz ov2 un2 H)) (mA o)) 0 0 (mA o)
abbrev MetQL (l : Launch) (y : MethodName) (ws : List Cond) (rm : Room) (G : XG) (o : Nat) (b : XB) (th ov un : Int) (av : List Value) (kz z : Int) (b2 : XB) : Prop := Met l y ws rm (MPc G o b th ov un av) (va_Ql (fun r (_ : Unit) => kz = 0 → r = lI z) (hpw (fun H => ∃ ov2 un2, MW G o (if kz = 0 then b2 else b) kz ov2 un2 H)) (mA o)) 0 0 (mA o)
section XQ
variable {p : Program} {l : Launch} {e : Env} {R : Room} {s : State} {m : MethodId} {args : Array Value} {below : List Frame} {meth : Method} {c : Code} {H : Heap} {locs : List Loc} {cc : ByteArray} {pc : Nat} {ls : Array Slot} {G : XG} {o : Nat} {b b2 b3 : XB} {ov un k kz z z' : Int}
theorem x_qI (hx : p.tables.exec = Jvm.exec) (hb : c.code = cc) (hr : meth.sig.returnType = some .int) (hk : kz = k) (hv : k = 0 → z' = z) (hW : MW G o b3 k ov un H) (hb3 : (if k = 0 then b2 else b) = b3) (hS : va_S (mA o) s.heap H locs) (hdg : decode cc pc = .ok (.ireturn, 1)) (hlocks : meth.locks = false) :
    W p l e R s m args below meth c H locs 0 0 (MQ below (va_Qi (fun r (_ : Unit) => kz = 0 → r = zI z) (hpw (fun H => ∃ ov2 un2, MW G o (if kz = 0 then b2 else b) kz ov2 un2 H)) (mA o)) args s 0 0 (mA o)) (F0 m pc ls [.int (zI z')]) := by
  subst hk; subst hb3
  exact W.iret hx hb hr (fun t ht _ => ⟨⟨_, (), rfl, fun h => congrArg zI (hv h), _, ht, _, _, hW⟩, hS.F ht⟩) hS.2.2 hdg hlocks
theorem x_qL (hx : p.tables.exec = Jvm.exec) (hb : c.code = cc) (hr : meth.sig.returnType = some .long) (hk : kz = k) (hv : k = 0 → z' = z) (hW : MW G o b3 k ov un H) (hb3 : (if k = 0 then b2 else b) = b3) (hS : va_S (mA o) s.heap H locs) (hdg : decode cc pc = .ok (.lreturn, 1)) (hlocks : meth.locks = false) :
    W p l e R s m args below meth c H locs 0 0 (MQ below (va_Ql (fun r (_ : Unit) => kz = 0 → r = lI z) (hpw (fun H => ∃ ov2 un2, MW G o (if kz = 0 then b2 else b) kz ov2 un2 H)) (mA o)) args s 0 0 (mA o)) (F0 m pc ls [.long (lI z')]) := by
  subst hk; subst hb3
  exact W.lret hx hb hr (fun t ht _ => ⟨⟨_, (), rfl, fun h => congrArg lI (hv h), _, ht, _, _, hW⟩, hS.F ht⟩) hS.2.2 hdg hlocks
end XQ
