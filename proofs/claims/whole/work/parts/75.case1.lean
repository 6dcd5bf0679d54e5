/-! ===== the law's arms, one for each operation ===== -/
theorem x_num (x : Int32) : ∃ z : Int, (-2147483648 ≤ z ∧ z < 2147483648) ∧ x = zI z := ⟨x.toInt, ⟨Int32.le_toInt x, Int32.toInt_lt x⟩, zI_of x⟩
theorem kR_0 {P : Prop} [Decidable P] {n : Int} (h : kR P n = 0) : P ∧ n = 0 := by
  unfold kR at h
  split at h
  · exact ⟨by assumption, h⟩
  · omega
theorem kR_rng {P : Prop} [Decidable P] {n : Int} (h : n = 0 ∨ n = 2) : 0 ≤ kR P n ∧ kR P n ≤ 2 := by
  unfold kR
  split <;> omega
theorem kAppN_rng (b : XB) (q y : Nat) (zd zc : Int) : kAppN b q y zd zc = 0 ∨ kAppN b q y zd zc = 2 := by
  unfold kAppN
  split
  · exact Or.inr rfl
  · exact Or.inl rfl
theorem kClkN_rng (b : XB) (k : Nat) : kClkN b k = 0 ∨ kClkN b k = 2 := by
  unfold kClkN
  split
  · exact Or.inl rfl
  · exact Or.inr rfl
section XC
variable {p : Program} {l : Launch} {e : Env} {R : Room} {s : State} {m : MethodId} {args : Array Value} {below : List Frame} {meth : Method} {c : Code} {H : Heap} {locs : List Loc} {cells slots : Nat} {Q : State → Prop} {cc : ByteArray} {pc : Nat} {ls : Array Slot} {rest : List Value}
theorem x_lcmpS (hx : p.tables.exec = Jvm.exec) (hb : c.code = cc) {x : Int64} (hdg : decode cc pc = .ok (.lcmp, 1)) (k : W p l e R s m args below meth c H locs cells slots Q (F0 m (pc + 1) ls (.int 0 :: rest))) : W p l e R s m args below meth c H locs cells slots Q (F0 m pc ls (.long x :: .long x :: rest)) := W.lcmp hx hb hdg (by rw [show lg_cmp x x = 0 from by unfold lg_cmp; simp]; exact k)
theorem x_sld (hx : p.tables.exec = Jvm.exec) (hb : c.code = cc) {b0 L : Nat} {xs : Nat → Int32} {A : Nat → Prop} {H0 : Heap} (hX : va_X b0 L xs s H0) (hbl : b0 < H0.size) (hbA : ¬ A b0) (hS : va_S A H0 H locs) {a z : Int} (k : Nat) (hk : a = (k : Int)) (hlt : k < L) (hL : L ≤ 2560) (hz : xs k = zI z) (hdg : decode cc pc = .ok (.iaload, 1))
    (kk : W p l e R s m args below meth c H locs cells slots Q (F0 m (pc + 1) ls (.int (zI z) :: rest))) : W p l e R s m args below meth c H locs cells slots Q (F0 m pc ls (.int (zI a) :: .ref b0 :: rest)) := by
  subst hk
  refine va_sld hx hb hX hbl hbA hS (zI_in hlt (by omega)) hdg ?_
  rw [zI_cl (by omega), hz]
  exact kk
end XC
/-- between two operations: the JudgedRuns at o, the model at o + 127, the long[1] at o + 134, in the same state -/
abbrev LI (G : XG) (o : Nat) (b : XB) (s : State) (H : Heap) (locs : List Loc) : Prop := BX G o b H ∧ (∃ w, va1 G (o + 134) (eJ G w) H) ∧ bInv b ∧ (∃ th ov un, MW G (o + 127) b th ov un H) ∧ va_S (fun q => o ≤ q) s.heap H locs
def CF (p : Program) (l : Launch) (s : State) (m : MethodId) (c : Code) (b0 L : Nat) (xs : Nat → Int32) (G : XG) : Prop :=
  p.tables.exec = Jvm.exec ∧ c.code = cL_law ∧ c.maxLocals = 8 ∧ s.vm.findClass RL = some m.cls ∧ (∀ w ∈ wsL_law, w.before #[Value.ref b0] s = true) ∧ va_X b0 L xs s s.heap ∧ b0 < s.heap.size ∧ XK G s ∧ XT s.heap.size s ∧ va_Nc nIS nIA s ∧ l.stackTraces = false
theorem oR_append (b : XB) (zs zq zd zc : Int) : 0 ≤ (oK_append b zs zq zd zc) ∧ (oK_append b zs zq zd zc) ≤ 2 := kR_rng (kAppN_rng _ _ _ _ _)
theorem oI_append {b : XB} {zs zq zd zc : Int} (hi : bInv b) (h : (oK_append b zs zq zd zc) = 0) : bInv (oB_append b zs zq zd zc) := by
  obtain ⟨hp, hn⟩ := kR_0 h
  refine bApp_inv hi ?_ (by omega) (by omega)
  unfold kAppN at hn
  split at hn
  · omega
  · rename_i h9
    exact Nat.not_le.mp (fun q => h9 (Or.inl q))
set_option maxHeartbeats 4000000 in
set_option maxRecDepth 100000 in
theorem cs_append {p : Program} {l : Launch} {e : Env} {s : State} {m : MethodId} {below : List Frame} {meth : Method} {c : Code} {b0 L : Nat} {xs : Nat → Int32} {G : XG} (C : CF p l s m c b0 L xs G) {Q : State → Prop} {b : XB} {H : Heap} {locs : List Loc} {cells slots : Nat} {ls : Array Slot} (i : Nat) (hi : i + 5 ≤ L) (hL : L ≤ 2560) (I : LI G s.heap.size b s H locs) (hl : lv_has ls 8 [(4, .int (zI (i : Int))), (3, .ref (s.heap.size + 134)), (2, .ref (s.heap.size + 127)), (1, .ref s.heap.size), (0, .ref b0)]) (hc : cells + 8 ≤ 601024 ∧ slots + 48 ≤ 7293034)
    (kk : ∀ (b9 : XB) (H9 : Heap) (locs9 : List Loc) (ls9 : Array Slot), LI G s.heap.size b9 s H9 locs9 → lv_has ls9 8 [(4, .int (zI (i : Int))), (3, .ref (s.heap.size + 134)), (2, .ref (s.heap.size + 127)), (1, .ref s.heap.size), (0, .ref b0)] → W p l e room_1 s m #[Value.ref b0] below meth c H9 locs9 (cells + 8) (slots + 48) Q (F0 m 1642 ls9 [])) : W p l e room_1 s m #[Value.ref b0] below meth c H locs cells slots Q (F0 m 136 ls []) := by
  obtain ⟨hx, hb, hml, hown, hts, hX, hbl, hK, hT, hN, hfl⟩ := C
  obtain ⟨hW, hJ, hI, ⟨th, ov, un, hM⟩, hS⟩ := I
  have hbA : ¬ (s.heap.size ≤ b0) := by omega
  have hMlt := hM.lt
  obtain ⟨zs, hzs, ezs⟩ := x_num (xs (i + 1))
  obtain ⟨zq, hzq, ezq⟩ := x_num (xs (i + 2))
  obtain ⟨zd, hzd, ezd⟩ := x_num (xs (i + 3))
  obtain ⟨zc, hzc, ezc⟩ := x_num (xs (i + 4))
  refine lv_aload_n hx hb dL_law_136 rfl (lv_at hl 3 rfl) ?_
  refine lv_aload_n hx hb dL_law_137 rfl (lv_at hl 4 rfl) ?_
  refine lv_iload hx hb dL_law_138 (lv_at hl 0 rfl) ?_
  refine x_iconst hx hb dL_law_140 ?_
  refine x_iadd hx hb dL_law_141 ?_
  refine x_sld hx hb hX hbl hbA hS (i + 1) (by omega) (by omega) hL ezs dL_law_142 ?_
  refine lv_aload_n hx hb dL_law_143 rfl (lv_at hl 4 rfl) ?_
  refine lv_iload hx hb dL_law_144 (lv_at hl 0 rfl) ?_
  refine x_iconst hx hb dL_law_146 ?_
  refine x_iadd hx hb dL_law_147 ?_
  refine x_sld hx hb hX hbl hbA hS (i + 2) (by omega) (by omega) hL ezq dL_law_148 ?_
  refine lv_aload_n hx hb dL_law_149 rfl (lv_at hl 4 rfl) ?_
  refine lv_iload hx hb dL_law_150 (lv_at hl 0 rfl) ?_
  refine x_iconst hx hb dL_law_152 ?_
  refine x_iadd hx hb dL_law_153 ?_
  refine x_sld hx hb hX hbl hbA hS (i + 3) (by omega) (by omega) hL ezd dL_law_154 ?_
  refine lv_aload_n hx hb dL_law_155 rfl (lv_at hl 4 rfl) ?_
  refine lv_iload hx hb dL_law_156 (lv_at hl 0 rfl) ?_
  refine x_iconst hx hb dL_law_158 ?_
  refine x_iadd hx hb dL_law_159 ?_
  refine x_sld hx hb hX hbl hbA hS (i + 4) (by omega) (by omega) hL ezc dL_law_160 ?_
  refine lv_aload_n hx hb dL_law_161 rfl (lv_at hl 1 rfl) ?_
  refine x_wI (vx_runSW (As := [.ref s.heap.size, .int (zI zs), .int (zI zq), .int (zI zd), .int (zI zc), .ref (s.heap.size + 134)]) (rest := []) ⟨hx, hb, hml, hown, hts⟩ (c_L_append l hfl G s.heap.size (s.heap.size + 134) s.heap.size (Nat.le_refl _) (by omega) b zs hzs zq hzq zd hzd zc hzc) (vx_cwSW 6 hts gL_law_L_append rfl rfl rfl (by decide +kernel) ⟨Nat.le_of_ble_eq_true rfl, Nat.le_of_ble_eq_true rfl⟩) (x_preW hW hJ hI hK hT hN hS (fun q h => h)) rfl rfl hl.1 rfl (lv_room (Nat.le_of_ble_eq_true rfl)) dL_law_162 hc) hS (fun q _ (h : xB s.heap.size (s.heap.size + 134) q) => (by rcases h with h | h <;> omega : s.heap.size ≤ q)) (fun q (h : xB s.heap.size (s.heap.size + 134) q) => (by rcases h with h | h <;> omega : s.heap.size ≤ q)) (fun H1 locs1 hP hz hk hS => ?_)
  obtain ⟨hX1, w1, hJ1, hw1⟩ := hP
  have hM1 := hM.kept (fun a h1 h2 => hk a (by omega) (fun (h : xB s.heap.size (s.heap.size + 134) a) => by rcases h with h | h <;> omega))
  refine lv_istore (lv' := [(5, .int (zI (oK_append b zs zq zd zc))), (4, .int (zI (i : Int))), (3, .ref (s.heap.size + 134)), (2, .ref (s.heap.size + 127)), (1, .ref s.heap.size), (0, .ref b0)]) hx hb dL_law_165 hl (by decide) rfl (fun ls hl => ?_)
  refine lv_aload_n hx hb dL_law_167 rfl (lv_at hl 3 rfl) ?_
  refine lv_aload_n hx hb dL_law_168 rfl (lv_at hl 5 rfl) ?_
  refine lv_iload hx hb dL_law_169 (lv_at hl 1 rfl) ?_
  refine x_iconst hx hb dL_law_171 ?_
  refine x_iadd hx hb dL_law_172 ?_
  refine x_sld hx hb hX hbl hbA hS (i + 1) (by omega) (by omega) hL ezs dL_law_173 ?_
  refine lv_aload_n hx hb dL_law_174 rfl (lv_at hl 5 rfl) ?_
  refine lv_iload hx hb dL_law_175 (lv_at hl 1 rfl) ?_
  refine x_iconst hx hb dL_law_177 ?_
  refine x_iadd hx hb dL_law_178 ?_
  refine x_sld hx hb hX hbl hbA hS (i + 2) (by omega) (by omega) hL ezq dL_law_179 ?_
  refine lv_aload_n hx hb dL_law_180 rfl (lv_at hl 5 rfl) ?_
  refine lv_iload hx hb dL_law_181 (lv_at hl 1 rfl) ?_
  refine x_iconst hx hb dL_law_183 ?_
  refine x_iadd hx hb dL_law_184 ?_
  refine x_sld hx hb hX hbl hbA hS (i + 3) (by omega) (by omega) hL ezd dL_law_185 ?_
  refine lv_aload_n hx hb dL_law_186 rfl (lv_at hl 5 rfl) ?_
  refine lv_iload hx hb dL_law_187 (lv_at hl 1 rfl) ?_
  refine x_iconst hx hb dL_law_189 ?_
  refine x_iadd hx hb dL_law_190 ?_
  refine x_sld hx hb hX hbl hbA hS (i + 4) (by omega) (by omega) hL ezc dL_law_191 ?_
  refine va_calli (va_runV (As := [.int (zI zs), .int (zI zq), .int (zI zd), .int (zI zc)]) (rest := []) ⟨hx, hb, hml, hown, hts⟩ (c_X4_append l G (s.heap.size + 127) b th ov un zs hzs zq hzq zd hzd zc hzc) (cwV 4 hts gL_law_X4_append rfl rfl rfl (by decide +kernel) ⟨Nat.le_of_ble_eq_true rfl, Nat.le_of_ble_eq_true rfl⟩) (x_preM hM1 hI hK) rfl rfl hl.1 rfl (lv_room (Nat.le_of_ble_eq_true rfl)) dL_law_192 hc) hS (fun q _ (h : mA (s.heap.size + 127) q) => (by omega : s.heap.size ≤ q)) (fun q (h : mA (s.heap.size + 127) q) => (by omega : s.heap.size ≤ q)) (fun r u t H2 locs2 ht _ hr6 hB hz2 hk2 hS => ?_)
  obtain ⟨Hx, e1, ov2, un2, hM2⟩ := hB
  have e2 : Hx = H2 := e1.symm.trans ht
  subst e2
  replace hM2 : MW G (s.heap.size + 127) (if (oK_append b zs zq zd zc) = 0 then (oB_append b zs zq zd zc) else b) (oK_append b zs zq zd zc) ov2 un2 Hx := hM2
  replace hr6 : (oK_append b zs zq zd zc) = 0 → r = zI (oV_append b zs zq zd zc) := hr6
  have hJ2 := hJ1.kept (hk2 _ hJ1.lt (fun (h : s.heap.size + 127 ≤ s.heap.size + 134 ∧ s.heap.size + 134 < s.heap.size + 127 + 7) => by omega))
  have hX2 : BX G s.heap.size (if (oK_append b zs zq zd zc) = 0 then (oB_append b zs zq zd zc) else b) Hx := by
    obtain ⟨lim2, dif2, hX1⟩ := hX1
    have hlt := hX1.lt
    exact ⟨lim2, dif2, hX1.kept (fun a h1 h2 => hk2 a (by omega) (fun (h : s.heap.size + 127 ≤ a ∧ a < s.heap.size + 127 + 7) => by omega))⟩
  have hI2 : bInv (if (oK_append b zs zq zd zc) = 0 then (oB_append b zs zq zd zc) else b) := by
    split
    · exact oI_append hI (by assumption)
    · exact hI
  have hkr := oR_append b zs zq zd zc
  have hw2 : (oK_append b zs zq zd zc) = 0 → w1 0 = (zI (oV_append b zs zq zd zc)).toInt64 := hw1
  have hLI : LI G s.heap.size (if (oK_append b zs zq zd zc) = 0 then (oB_append b zs zq zd zc) else b) s Hx locs2 := ⟨hX2, ⟨w1, hJ2⟩, hI2, ⟨_, _, _, hM2⟩, hS⟩
  generalize hkz : (oK_append b zs zq zd zc) = kz at *
  generalize (if kz = 0 then (oB_append b zs zq zd zc) else b) = b9 at *
  refine lv_istore (lv' := [(6, .int r), (5, .int (zI kz)), (4, .int (zI (i : Int))), (3, .ref (s.heap.size + 134)), (2, .ref (s.heap.size + 127)), (1, .ref s.heap.size), (0, .ref b0)]) hx hb dL_law_195 hl (by decide) rfl (fun ls hl => ?_)
  refine lv_aload_n hx hb dL_law_197 rfl (lv_at hl 4 rfl) ?_
  refine x_cI (va_runV (As := []) (rest := []) ⟨hx, hb, hml, hown, hts⟩ (c_X4_thrown l G (s.heap.size + 127) b9 kz ov2 un2) (cwV 0 hts gL_law_X4_thrown rfl rfl rfl (by decide +kernel) ⟨Nat.le_of_ble_eq_true rfl, Nat.le_of_ble_eq_true rfl⟩) (x_preM hM2 hI2 hK) rfl rfl hl.1 rfl (lv_room (Nat.le_of_ble_eq_true rfl)) dL_law_198 hc) ?_
  refine lv_iload hx hb dL_law_201 (lv_at hl 1 rfl) ?_
  refine lv_icmp_eq (tgt := 208) hx hb dL_law_203 (by decide) (fun _ => ?_) (fun h => absurd rfl h)
  refine lv_iload hx hb dL_law_208 (lv_at hl 1 rfl) ?_
  refine x_if_ne (tgt := 225) hx hb dL_law_210 (by decide) (by omega) (fun hn => ?_) (fun hk0 => ?_)
  · refine lv_goto (tgt := 1642) hx hb dL_law_225 (by decide) ?_
    exact kk _ _ _ _ hLI (lv_sub hl [2, 3, 4, 5, 6] rfl)
  · refine lv_aload_n hx hb dL_law_213 rfl (lv_at hl 3 rfl) ?_
    refine x_iconst hx hb dL_law_214 ?_
    refine x_lald hx hb hK hJ2 0 (by decide) (by decide) (by decide) dL_law_215 ?_
    rw [hw2 hk0]
    refine lv_iload hx hb dL_law_216 (lv_at hl 0 rfl) ?_
    refine lv_i2l hx hb dL_law_218 (congrArg Int32.toInt64 (hr6 hk0)) ?_
    refine x_lcmpS hx hb dL_law_219 ?_
    refine lv_if_eq (tgt := 225) hx hb dL_law_220 (by decide) (fun _ => ?_) (fun h => absurd rfl h)
    refine lv_goto (tgt := 1642) hx hb dL_law_225 (by decide) ?_
    exact kk _ _ _ _ hLI (lv_sub hl [2, 3, 4, 5, 6] rfl)
