/-! ===== a turn of the law ===== -/
set_option maxHeartbeats 4000000 in
set_option maxRecDepth 100000 in
theorem cs_tail {p : Program} {l : Launch} {e : Env} {s : State} {m : MethodId} {below : List Frame} {meth : Method} {c : Code} {b0 L : Nat} {xs : Nat → Int32} {G : XG} (C : CF p l s m c b0 L xs G) {Q : State → Prop} {b : XB} {H : Heap} {locs : List Loc} {cells slots : Nat} {ls : Array Slot} {y q d i tn : Nat} (hy : y < 4) (hq : q < 8) (hd : 1 ≤ d ∧ d ≤ 20) (hin : i < tn) (htn : tn ≤ 59) (hi : bInv b) (hX : BX G s.heap.size b H) (hS : va_S (fun q => s.heap.size ≤ q) s.heap H locs) (hl : lv_has ls 15 [(9, .int (zI (d : Int))), (8, .int (zI (q : Int))), (7, .int (zI (y : Int))), (5, .int (zI (i : Int))), (4, .int (zI (tn : Int))), (3, .int (zI (bL b : Int))), (2, .int (zI 1)), (1, .ref s.heap.size), (0, .ref b0)]) (hc : cells + 184 ≤ 675216 ∧ slots + 1104 ≤ 7075977)
    (kk : ∀ (H9 : Heap) (locs9 : List Loc) (ls9 : Array Slot), BX G s.heap.size b H9 → va_S (fun q => s.heap.size ≤ q) s.heap H9 locs9 → lv_has ls9 15 [(5, .int (zI ((i + 1 : Nat) : Int))), (4, .int (zI (tn : Int))), (3, .int (zI (bL b : Int))), (2, .int (zI 1)), (1, .ref s.heap.size), (0, .ref b0)] → W p l e room_1 s m #[Value.ref b0] below meth c H9 locs9 (cells + 184) (slots + 1104) Q (F0 m 82 ls9 [])) : W p l e room_1 s m #[Value.ref b0] below meth c H locs cells slots Q (F0 m 655 ls []) := by
  obtain ⟨hx, hb, hml, hown, hts, hXs, hbl, hK, hT, hfl⟩ := C
  have hAl : ∀ q, s.heap.size ≤ q → s.heap.size ≤ q := fun q h => h
  refine lv_iload_n hx hb dL_law_655 rfl (lv_at hl 6 rfl) ?_
  refine x_if_eq (tgt := 687) hx hb dL_law_656 (by decide) (by omega) (fun h1 => ?_) (fun h2 => ?_)
  · exact absurd h1 (by omega)
  · refine lv_aload_n hx hb dL_law_659 rfl (lv_at hl 7 rfl) ?_
    refine lv_iload hx hb dL_law_660 (lv_at hl 2 rfl) ?_
    refine lv_iload hx hb dL_law_662 (lv_at hl 1 rfl) ?_
    refine lv_iload hx hb dL_law_664 (lv_at hl 0 rfl) ?_
    refine x_wI (va_runS (As := [.ref s.heap.size, .int (zI (y : Int)), .int (zI (q : Int)), .int (zI (d : Int))]) (rest := []) ⟨hx, hb, hml, hown, hts⟩ (c_L_run l hfl G s.heap.size s.heap.size (Nat.le_refl _) b y (by omega) q (by omega) d (by omega) (y : Int) (q : Int) (d : Int) rfl rfl rfl) (va_cwS 4 hts gL_law_L_run rfl rfl rfl (by decide +kernel) ⟨Nat.le_of_ble_eq_true rfl, Nat.le_of_ble_eq_true rfl⟩) (x_preLS hX hi hK hT hS hAl) rfl rfl hl.1 rfl (lv_room (Nat.le_of_ble_eq_true rfl)) dL_law_666 (show cells + 104 ≤ 675216 ∧ slots + 624 ≤ 7075977 from ⟨by omega, by omega⟩)) hS (fun q _ (h : xA s.heap.size q) => h.1) (fun q (h : xA s.heap.size q) => h.1) (fun H1 locs1 hX hz9 hk9 hS => ?_)
    refine x_if_eq (tgt := 687) hx hb dL_law_669 (by decide) (by omega) (fun h3 => ?_) (fun h4 => ?_)
    · exact absurd h3 (by omega)
    · refine lv_aload_n hx hb dL_law_672 rfl (lv_at hl 7 rfl) ?_
      refine lv_iload hx hb dL_law_673 (lv_at hl 1 rfl) ?_
      refine lv_iload hx hb dL_law_675 (lv_at hl 0 rfl) ?_
      refine x_wI (va_runS (As := [.ref s.heap.size, .int (zI (q : Int)), .int (zI (d : Int))]) (rest := []) ⟨hx, hb, hml, hown, hts⟩ (c_L_pool l hfl G s.heap.size s.heap.size (Nat.le_refl _) b q (by omega) d (by omega) (q : Int) (d : Int) rfl rfl) (va_cwS 3 hts gL_law_L_pool rfl rfl rfl (by decide +kernel) ⟨Nat.le_of_ble_eq_true rfl, Nat.le_of_ble_eq_true rfl⟩) (x_preLS hX hi hK hT hS hAl) rfl rfl hl.1 rfl (lv_room (Nat.le_of_ble_eq_true rfl)) dL_law_677 (show cells + 104 + 80 ≤ 675216 ∧ slots + 624 + 480 ≤ 7075977 from ⟨by omega, by omega⟩)) hS (fun q _ (h : xA s.heap.size q) => h.1) (fun q (h : xA s.heap.size q) => h.1) (fun H1 locs1 hX hz9 hk9 hS => ?_)
      refine x_if_eq (tgt := 687) hx hb dL_law_680 (by decide) (by omega) (fun h5 => ?_) (fun h6 => ?_)
      · exact absurd h5 (by omega)
      · refine x_iconst hx hb dL_law_683 ?_
        refine lv_goto (tgt := 688) hx hb dL_law_684 (by decide) ?_
        refine lv_istore_n (lv' := [(2, .int (zI 1)), (9, .int (zI (d : Int))), (8, .int (zI (q : Int))), (7, .int (zI (y : Int))), (5, .int (zI (i : Int))), (4, .int (zI (tn : Int))), (3, .int (zI (bL b : Int))), (1, .ref s.heap.size), (0, .ref b0)]) hx hb dL_law_688 rfl hl (by decide) rfl (fun ls hl => ?_)
        refine x_iinc (lv' := [(5, .int (zI ((i : Int) + 1))), (2, .int (zI 1)), (9, .int (zI (d : Int))), (8, .int (zI (q : Int))), (7, .int (zI (y : Int))), (4, .int (zI (tn : Int))), (3, .int (zI (bL b : Int))), (1, .ref s.heap.size), (0, .ref b0)]) (k := 4) hx hb dL_law_689 hl rfl (by decide) rfl (fun ls hl => ?_)
        refine lv_goto (tgt := 82) hx hb dL_law_692 (by decide) ?_
        refine W.widen (k := cells + 184) (n := slots + 1104) (by omega) (by omega) ?_
        exact kk _ _ ls hX hS (lv_cons (x_at (lv_at hl 0 rfl) (by omega)) (lv_cons (lv_at hl 5 rfl) (lv_cons (lv_at hl 6 rfl) (lv_cons (lv_at hl 1 rfl) (lv_cons (lv_at hl 7 rfl) (lv_cons (lv_at hl 8 rfl) (lv_nil hl)))))))
set_option maxHeartbeats 4000000 in
set_option maxRecDepth 100000 in
theorem cs_t140 {p : Program} {l : Launch} {e : Env} {s : State} {m : MethodId} {below : List Frame} {meth : Method} {c : Code} {b0 L : Nat} {xs : Nat → Int32} {G : XG} (C : CF p l s m c b0 L xs G) {Q : State → Prop} {b : XB} {H : Heap} {locs : List Loc} {cells slots : Nat} {ls : Array Slot} {y q i tn : Nat} {v : Int} (hy : y < 4) (hq : q < 8) (hin : i < tn) (htn : tn ≤ 59) (hi : bInv b) (hX : BX G s.heap.size b H) (hS : va_S (fun q => s.heap.size ≤ q) s.heap H locs) (hl : lv_has ls 15 [(8, .int (zI (q : Int))), (7, .int (zI (y : Int))), (6, .int (zI v)), (5, .int (zI (i : Int))), (4, .int (zI (tn : Int))), (3, .int (zI (bL b : Int))), (2, .int (zI 1)), (1, .ref s.heap.size), (0, .ref b0)]) (hc : cells + 240 ≤ 675216 ∧ slots + 1440 ≤ 7075977)
    (kk : ∀ d : Nat, 1 ≤ d ∧ d ≤ 20 → ∀ (b9 : XB) (H9 : Heap) (locs9 : List Loc) (ls9 : Array Slot), bInv b9 → BX G s.heap.size b9 H9 → va_S (fun q => s.heap.size ≤ q) s.heap H9 locs9 → lv_has ls9 15 [(9, .int (zI (d : Int))), (8, .int (zI (q : Int))), (7, .int (zI (y : Int))), (5, .int (zI (i : Int))), (4, .int (zI (tn : Int))), (3, .int (zI (bL b9 : Int))), (2, .int (zI 1)), (1, .ref s.heap.size), (0, .ref b0)] → W p l e room_1 s m #[Value.ref b0] below meth c H9 locs9 (cells + 240) (slots + 1440) Q (F0 m 655 ls9 [])) : W p l e room_1 s m #[Value.ref b0] below meth c H locs cells slots Q (F0 m 140 ls []) := by
  obtain ⟨hx, hb, hml, hown, hts, hXs, hbl, hK, hT, hfl⟩ := id C
  have hAl : ∀ q, s.heap.size ≤ q → s.heap.size ≤ q := fun q h => h
  refine x_iconst hx hb dL_law_140 ?_
  refine lv_iload hx hb dL_law_141 (lv_at hl 2 rfl) ?_
  refine lv_bipush (v := zI 8) hx hb dL_law_143 (by decide +kernel) ?_
  refine x_shrA hx hb dL_law_145 (fun w1 hw1 => ?_)
  refine lv_bipush (v := zI 20) hx hb dL_law_146 (by decide +kernel) ?_
  refine x_cI (va_runS (As := [.int (zI w1), .int (zI 20)]) (rest := [.int (zI 1)]) ⟨hx, hb, hml, hown, hts⟩ (c_L_low l (w1) 20 (by omega)) (va_cwS 2 hts gL_law_L_low rfl rfl rfl (by decide +kernel) ⟨Nat.le_of_ble_eq_true rfl, Nat.le_of_ble_eq_true rfl⟩) x_preS rfl rfl hl.1 rfl (lv_room (Nat.le_of_ble_eq_true rfl)) dL_law_148 (show cells ≤ 675216 ∧ slots ≤ 7075977 from ⟨by omega, by omega⟩)) ?_
  obtain ⟨d0, hd0, ed0⟩ := lw_nat (w1) 20 (by omega)
  rw [ed0]
  refine x_iadd hx hb dL_law_151 ?_
  obtain ⟨d, ed, hd1⟩ : ∃ d : Nat, 1 + (d0 : Int) = (d : Int) ∧ 1 ≤ d ∧ d ≤ 20 := ⟨1 + d0, by omega, by omega, by omega⟩
  rw [ed]
  refine lv_istore (lv' := [(9, .int (zI (d : Int))), (8, .int (zI (q : Int))), (7, .int (zI (y : Int))), (6, .int (zI v)), (5, .int (zI (i : Int))), (4, .int (zI (tn : Int))), (3, .int (zI (bL b : Int))), (2, .int (zI 1)), (1, .ref s.heap.size), (0, .ref b0)]) hx hb dL_law_152 hl (by decide) rfl (fun ls hl => ?_)
  refine lv_iload hx hb dL_law_154 (lv_at hl 3 rfl) ?_
  refine lv_bipush (v := zI 20) hx hb dL_law_156 (by decide +kernel) ?_
  refine x_shrA hx hb dL_law_158 (fun w2 hw2 => ?_)
  refine lv_bipush (v := zI 12) hx hb dL_law_159 (by decide +kernel) ?_
  refine x_cI (va_runS (As := [.int (zI w2), .int (zI 12)]) (rest := []) ⟨hx, hb, hml, hown, hts⟩ (c_L_low l (w2) 12 (by omega)) (va_cwS 2 hts gL_law_L_low rfl rfl rfl (by decide +kernel) ⟨Nat.le_of_ble_eq_true rfl, Nat.le_of_ble_eq_true rfl⟩) x_preS rfl rfl hl.1 rfl (lv_room (Nat.le_of_ble_eq_true rfl)) dL_law_161 (show cells ≤ 675216 ∧ slots ≤ 7075977 from ⟨by omega, by omega⟩)) ?_
  obtain ⟨so, hso, eso⟩ := lw_nat (w2) 12 (by omega)
  rw [eso]
  refine lv_istore (lv' := [(10, .int (zI (so : Int))), (9, .int (zI (d : Int))), (8, .int (zI (q : Int))), (7, .int (zI (y : Int))), (6, .int (zI v)), (5, .int (zI (i : Int))), (4, .int (zI (tn : Int))), (3, .int (zI (bL b : Int))), (2, .int (zI 1)), (1, .ref s.heap.size), (0, .ref b0)]) hx hb dL_law_164 hl (by decide) rfl (fun ls hl => ?_)
  have hd : 1 ≤ d ∧ d ≤ 20 := by omega
  exact cs_d166 C hy hq hd hin htn (so := so) (by omega) hi hX hS (lv_cons (lv_at hl 0 rfl) (lv_cons (lv_at hl 1 rfl) (lv_cons (lv_at hl 2 rfl) (lv_cons (lv_at hl 3 rfl) (lv_cons (lv_at hl 4 rfl) (lv_cons (lv_at hl 5 rfl) (lv_cons (lv_at hl 6 rfl) (lv_cons (lv_at hl 7 rfl) (lv_cons (lv_at hl 8 rfl) (lv_cons (lv_at hl 9 rfl) (lv_cons (lv_at hl 10 rfl) (lv_nil hl)))))))))))) hc (kk d hd)
set_option maxHeartbeats 4000000 in
set_option maxRecDepth 100000 in
theorem cs_t93 {p : Program} {l : Launch} {e : Env} {s : State} {m : MethodId} {below : List Frame} {meth : Method} {c : Code} {b0 L : Nat} {xs : Nat → Int32} {G : XG} (C : CF p l s m c b0 L xs G) {Q : State → Prop} {b : XB} {H : Heap} {locs : List Loc} {cells slots : Nat} {ls : Array Slot} {i tn : Nat} (hL : L ≤ 260) (hin : i < tn) (htn : tn ≤ 59) (hi : bInv b) (hX : BX G s.heap.size b H) (hS : va_S (fun q => s.heap.size ≤ q) s.heap H locs) (hl : lv_has ls 15 [(5, .int (zI (i : Int))), (4, .int (zI (tn : Int))), (3, .int (zI (bL b : Int))), (2, .int (zI 1)), (1, .ref s.heap.size), (0, .ref b0)]) (hc : cells + 240 ≤ 675216 ∧ slots + 1440 ≤ 7075977)
    (kk : ∀ y q d : Nat, y < 4 → q < 8 → 1 ≤ d ∧ d ≤ 20 → ∀ (b9 : XB) (H9 : Heap) (locs9 : List Loc) (ls9 : Array Slot), bInv b9 → BX G s.heap.size b9 H9 → va_S (fun q => s.heap.size ≤ q) s.heap H9 locs9 → lv_has ls9 15 [(9, .int (zI (d : Int))), (8, .int (zI (q : Int))), (7, .int (zI (y : Int))), (5, .int (zI (i : Int))), (4, .int (zI (tn : Int))), (3, .int (zI (bL b9 : Int))), (2, .int (zI 1)), (1, .ref s.heap.size), (0, .ref b0)] → W p l e room_1 s m #[Value.ref b0] below meth c H9 locs9 (cells + 240) (slots + 1440) Q (F0 m 655 ls9 [])) : W p l e room_1 s m #[Value.ref b0] below meth c H locs cells slots Q (F0 m 93 ls []) := by
  obtain ⟨hx, hb, hml, hown, hts, hXs, hbl, hK, hT, hfl⟩ := id C
  have hAl : ∀ q, s.heap.size ≤ q → s.heap.size ≤ q := fun q h => h
  refine lv_aload_n hx hb dL_law_93 rfl (lv_at hl 5 rfl) ?_
  refine x_iconst hx hb dL_law_94 ?_
  refine lv_iload hx hb dL_law_95 (lv_at hl 0 rfl) ?_
  refine x_iadd hx hb dL_law_97 ?_
  refine x_cA (va_runS (As := [.ref b0, .int (zI (1 + (i : Int)))]) (rest := []) ⟨hx, hb, hml, hown, hts⟩ (c_L_cell l b0 L xs hL ((1 + i)) (by omega) (1 + (i : Int)) (by omega)) (va_cwS 2 hts gL_law_L_cell rfl rfl rfl (by decide +kernel) ⟨Nat.le_of_ble_eq_true rfl, Nat.le_of_ble_eq_true rfl⟩) (x_preC hXs hbl (fun h => by omega) hS) rfl rfl hl.1 rfl (lv_room (Nat.le_of_ble_eq_true rfl)) dL_law_98 (show cells ≤ 675216 ∧ slots ≤ 7075977 from ⟨by omega, by omega⟩)) (fun w1 hw1 => ?_)
  refine lv_istore (lv' := [(6, .int (zI w1)), (5, .int (zI (i : Int))), (4, .int (zI (tn : Int))), (3, .int (zI (bL b : Int))), (2, .int (zI 1)), (1, .ref s.heap.size), (0, .ref b0)]) hx hb dL_law_101 hl (by decide) rfl (fun ls hl => ?_)
  refine lv_iload hx hb dL_law_103 (lv_at hl 0 rfl) ?_
  refine x_iconst hx hb dL_law_105 ?_
  refine x_shrA hx hb dL_law_106 (fun w2 hw2 => ?_)
  refine x_iconst hx hb dL_law_107 ?_
  refine x_cI (va_runS (As := [.int (zI w2), .int (zI 4)]) (rest := []) ⟨hx, hb, hml, hown, hts⟩ (c_L_low l (w2) 4 (by omega)) (va_cwS 2 hts gL_law_L_low rfl rfl rfl (by decide +kernel) ⟨Nat.le_of_ble_eq_true rfl, Nat.le_of_ble_eq_true rfl⟩) x_preS rfl rfl hl.1 rfl (lv_room (Nat.le_of_ble_eq_true rfl)) dL_law_108 (show cells ≤ 675216 ∧ slots ≤ 7075977 from ⟨by omega, by omega⟩)) ?_
  obtain ⟨y0, hy0, ey0⟩ := lw_nat (w2) 4 (by omega)
  rw [ey0]
  have hy : y0 < 4 := by omega
  refine lv_istore (lv' := [(7, .int (zI (y0 : Int))), (6, .int (zI w1)), (5, .int (zI (i : Int))), (4, .int (zI (tn : Int))), (3, .int (zI (bL b : Int))), (2, .int (zI 1)), (1, .ref s.heap.size), (0, .ref b0)]) hx hb dL_law_111 hl (by decide) rfl (fun ls hl => ?_)
  refine lv_iload hx hb dL_law_113 (lv_at hl 1 rfl) ?_
  refine x_iconst hx hb dL_law_115 ?_
  refine x_shrA hx hb dL_law_116 (fun w3 hw3 => ?_)
  refine lv_iload hx hb dL_law_117 (lv_at hl 1 rfl) ?_
  refine lv_bipush (v := zI 17) hx hb dL_law_119 (by decide +kernel) ?_
  refine x_shrA hx hb dL_law_121 (fun w4 hw4 => ?_)
  refine x_iconst hx hb dL_law_122 ?_
  refine x_cI (va_runS (As := [.int (zI w4), .int (zI 2)]) (rest := [.int (zI w3)]) ⟨hx, hb, hml, hown, hts⟩ (c_L_low l (w4) 2 (by omega)) (va_cwS 2 hts gL_law_L_low rfl rfl rfl (by decide +kernel) ⟨Nat.le_of_ble_eq_true rfl, Nat.le_of_ble_eq_true rfl⟩) x_preS rfl rfl hl.1 rfl (lv_room (Nat.le_of_ble_eq_true rfl)) dL_law_123 (show cells ≤ 675216 ∧ slots ≤ 7075977 from ⟨by omega, by omega⟩)) ?_
  obtain ⟨u, hu, eu⟩ := lw_nat (w4) 2 (by omega)
  rw [eu]
  refine x_if_ne (tgt := 134) hx hb dL_law_126 (by decide) (by omega) (fun h5 => ?_) (fun h6 => ?_)
  · refine x_iconst hx hb dL_law_134 ?_
    refine x_cI (va_runS (As := [.int (zI w3), .int (zI 2)]) (rest := []) ⟨hx, hb, hml, hown, hts⟩ (c_L_low l (w3) 2 (by omega)) (va_cwS 2 hts gL_law_L_low rfl rfl rfl (by decide +kernel) ⟨Nat.le_of_ble_eq_true rfl, Nat.le_of_ble_eq_true rfl⟩) x_preS rfl rfl hl.1 rfl (lv_room (Nat.le_of_ble_eq_true rfl)) dL_law_135 (show cells ≤ 675216 ∧ slots ≤ 7075977 from ⟨by omega, by omega⟩)) ?_
    obtain ⟨q, hq, eq⟩ := lw_nat (w3) 2 (by omega)
    rw [eq]
    refine lv_istore (lv' := [(8, .int (zI (q : Int))), (7, .int (zI (y0 : Int))), (6, .int (zI w1)), (5, .int (zI (i : Int))), (4, .int (zI (tn : Int))), (3, .int (zI (bL b : Int))), (2, .int (zI 1)), (1, .ref s.heap.size), (0, .ref b0)]) hx hb dL_law_138 hl (by decide) rfl (fun ls hl => ?_)
    exact cs_t140 C (v := w1) hy (q := q) (by omega) hin htn hi hX hS (lv_cons (lv_at hl 0 rfl) (lv_cons (lv_at hl 1 rfl) (lv_cons (lv_at hl 2 rfl) (lv_cons (lv_at hl 3 rfl) (lv_cons (lv_at hl 4 rfl) (lv_cons (lv_at hl 5 rfl) (lv_cons (lv_at hl 6 rfl) (lv_cons (lv_at hl 7 rfl) (lv_cons (lv_at hl 8 rfl) (lv_nil hl)))))))))) hc (fun d hd => kk y0 q d hy (by omega) hd)
  · refine lv_bipush (v := zI 8) hx hb dL_law_129 (by decide +kernel) ?_
    refine lv_goto (tgt := 135) hx hb dL_law_131 (by decide) ?_
    refine x_cI (va_runS (As := [.int (zI w3), .int (zI 8)]) (rest := []) ⟨hx, hb, hml, hown, hts⟩ (c_L_low l (w3) 8 (by omega)) (va_cwS 2 hts gL_law_L_low rfl rfl rfl (by decide +kernel) ⟨Nat.le_of_ble_eq_true rfl, Nat.le_of_ble_eq_true rfl⟩) x_preS rfl rfl hl.1 rfl (lv_room (Nat.le_of_ble_eq_true rfl)) dL_law_135 (show cells ≤ 675216 ∧ slots ≤ 7075977 from ⟨by omega, by omega⟩)) ?_
    obtain ⟨q, hq, eq⟩ := lw_nat (w3) 8 (by omega)
    rw [eq]
    refine lv_istore (lv' := [(8, .int (zI (q : Int))), (7, .int (zI (y0 : Int))), (6, .int (zI w1)), (5, .int (zI (i : Int))), (4, .int (zI (tn : Int))), (3, .int (zI (bL b : Int))), (2, .int (zI 1)), (1, .ref s.heap.size), (0, .ref b0)]) hx hb dL_law_138 hl (by decide) rfl (fun ls hl => ?_)
    exact cs_t140 C (v := w1) hy (q := q) (by omega) hin htn hi hX hS (lv_cons (lv_at hl 0 rfl) (lv_cons (lv_at hl 1 rfl) (lv_cons (lv_at hl 2 rfl) (lv_cons (lv_at hl 3 rfl) (lv_cons (lv_at hl 4 rfl) (lv_cons (lv_at hl 5 rfl) (lv_cons (lv_at hl 6 rfl) (lv_cons (lv_at hl 7 rfl) (lv_cons (lv_at hl 8 rfl) (lv_nil hl)))))))))) hc (fun d hd => kk y0 q d hy (by omega) hd)
