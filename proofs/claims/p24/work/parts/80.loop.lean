/-! ===== the law's loop ===== -/
set_option maxHeartbeats 4000000 in
set_option maxRecDepth 100000 in
theorem law_loop {p : Program} {l : Launch} {e : Env} {s : State} {m : MethodId} {below : List Frame} {meth : Method} {c : Code} {b0 L : Nat} {xs : Nat → Int32} {G : XG} (hr : meth.sig.returnType = ret) (hlocks : meth.locks = false) (C : CF p l s m c b0 L xs G) (hL : L ≤ 260) {tn : Nat} (htn : tn ≤ 59) : ∀ (n i : Nat) (b : XB) (H : Heap) (locs : List Loc) (ls : Array Slot) (cells slots : Nat), i + n = tn → cells + 424 * n ≤ 675216 → slots + 2544 * n ≤ 7075977 → bInv b → BX G s.heap.size b H → va_S (fun q => s.heap.size ≤ q) s.heap H locs → lv_has ls 15 [(5, .int (zI (i : Int))), (4, .int (zI (tn : Int))), (3, .int (zI (bL b : Int))), (2, .int (zI 1)), (1, .ref s.heap.size), (0, .ref b0)] → W p l e room_1 s m #[Value.ref b0] below meth c H locs cells slots (lw_Z below #[Value.ref b0] s) (F0 m 82 ls []) := by
  obtain ⟨hx, hb, hml, hown, hts, hXs, hbl, hK, hT, hfl⟩ := id C
  intro n
  induction n with
  | zero =>
    intro i b H locs ls cells slots hin h1 h2 hi hX hS hl
    refine lv_iload hx hb dL_law_82 (lv_at hl 0 rfl) ?_
    refine lv_iload hx hb dL_law_84 (lv_at hl 1 rfl) ?_
    refine x_icmp_ge (tgt := 695) hx hb dL_law_86 (by decide) (by omega) (fun h9 => ?_) (fun h9 => absurd h9 (by omega))
    refine lv_iload_n hx hb dL_law_695 rfl (lv_at hl 3 rfl) ?_
    refine va_forget (fun q hq => hS.2.2 q hq) ?_
    refine W.widen (k := 675216) (n := 7075977) (by omega) (by omega) ?_
    rw [show zI 1 = 1 from by decide +kernel]
    exact lw_ret hx hb hr hlocks dL_law_696
  | succ n ih =>
    intro i b H locs ls cells slots hin h1 h2 hi hX hS hl
    refine lv_iload hx hb dL_law_82 (lv_at hl 0 rfl) ?_
    refine lv_iload hx hb dL_law_84 (lv_at hl 1 rfl) ?_
    refine x_icmp_ge (tgt := 695) hx hb dL_law_86 (by decide) (by omega) (fun h9 => absurd h9 (by omega)) (fun h9 => ?_)
    refine lv_iload_n hx hb dL_law_89 rfl (lv_at hl 3 rfl) ?_
    refine x_if_eq (tgt := 695) hx hb dL_law_90 (by decide) (by omega) (fun h2 => absurd h2 (by omega)) (fun _ => ?_)
    refine cs_t93 C hL (by omega) htn hi hX hS hl ⟨by omega, by omega⟩ (fun y q d hy hq hd b9 H9 locs9 ls9 hi9 hX9 hS9 hl9 => ?_)
    refine cs_tail C hy hq hd (by omega) htn hi9 hX9 hS9 hl9 ⟨by omega, by omega⟩ (fun H8 locs8 ls8 hX8 hS8 hl8 => ?_)
    exact ih (i + 1) b9 H8 locs8 ls8 _ _ (by omega) (by omega) (by omega) hi9 hX8 hS8 hl8
