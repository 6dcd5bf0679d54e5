/-! ===== the law's appending arm, its loop ===== -/
set_option maxHeartbeats 4000000 in
set_option maxRecDepth 100000 in
theorem cs_aploop {p : Program} {l : Launch} {e : Env} {s : State} {m : MethodId} {below : List Frame} {meth : Method} {c : Code} {b0 L : Nat} {xs : Nat → Int32} {G : XG} (C : CF p l s m c b0 L xs G) {Q : State → Prop} {y q d i tn : Nat} {v : Int} (hy : y < 4) (hq : q < 8) (hd : 1 ≤ d ∧ d ≤ 20) (hin : i < tn) (htn : tn ≤ 59) {many : Nat} (hmany : many ≤ 6) {K9 S9 : Nat} (hK9 : K9 ≤ 675216) (hS9 : S9 ≤ 7075977)
    (kk : ∀ (b9 : XB) (H9 : Heap) (locs9 : List Loc) (ls9 : Array Slot), bInv b9 → BX G s.heap.size b9 H9 → va_S (fun q => s.heap.size ≤ q) s.heap H9 locs9 → lv_has ls9 15 [(9, .int (zI (d : Int))), (8, .int (zI (q : Int))), (7, .int (zI (y : Int))), (5, .int (zI (i : Int))), (4, .int (zI (tn : Int))), (3, .int (zI (bL b9 : Int))), (2, .int (zI 1)), (1, .ref s.heap.size), (0, .ref b0)] → W p l e room_1 s m #[Value.ref b0] below meth c H9 locs9 K9 S9 Q (F0 m 655 ls9 [])) : ∀ (n k : Nat) (b : XB) (H : Heap) (locs : List Loc) (ls : Array Slot) (cells slots : Nat), k + n = many → cells + 24 * n ≤ K9 → slots + 144 * n ≤ S9 → bInv b → BX G s.heap.size b H → va_S (fun q => s.heap.size ≤ q) s.heap H locs → lv_has ls 15 [(12, .int (zI (k : Int))), (11, .int (zI (many : Int))), (9, .int (zI (d : Int))), (8, .int (zI (q : Int))), (7, .int (zI (y : Int))), (6, .int (zI v)), (5, .int (zI (i : Int))), (4, .int (zI (tn : Int))), (3, .int (zI (bL b : Int))), (2, .int (zI 1)), (1, .ref s.heap.size), (0, .ref b0)] → W p l e room_1 s m #[Value.ref b0] below meth c H locs cells slots Q (F0 m 186 ls []) := by
  obtain ⟨hx, hb, hml, hown, hts, hXs, hbl, hK, hT, hfl⟩ := C
  have hAl : ∀ q, s.heap.size ≤ q → s.heap.size ≤ q := fun q h => h
  intro n
  induction n with
  | zero =>
    intro k b H locs ls cells slots hkn hc1 hc2 hi hX hS hl
    refine lv_iload hx hb dL_law_186 (lv_at hl 0 rfl) ?_
    refine lv_iload hx hb dL_law_188 (lv_at hl 1 rfl) ?_
    refine x_icmp_ge (tgt := 326) hx hb dL_law_190 (by decide) (by omega) (fun h1 => ?_) (fun h1 => absurd h1 (by omega))
    refine lv_goto (tgt := 655) hx hb dL_law_326 (by decide) ?_
    refine W.widen (k := K9) (n := S9) (by omega) (by omega) ?_
    exact kk b H locs ls hi hX hS (lv_cons (lv_at hl 2 rfl) (lv_cons (lv_at hl 3 rfl) (lv_cons (lv_at hl 4 rfl) (lv_cons (lv_at hl 6 rfl) (lv_cons (lv_at hl 7 rfl) (lv_cons (lv_at hl 8 rfl) (lv_cons (lv_at hl 9 rfl) (lv_cons (lv_at hl 10 rfl) (lv_cons (lv_at hl 11 rfl) (lv_nil hl))))))))))
  | succ n ih =>
    intro k b H locs ls cells slots hkn hc1 hc2 hi hX hS hl
    refine lv_iload hx hb dL_law_186 (lv_at hl 0 rfl) ?_
    refine lv_iload hx hb dL_law_188 (lv_at hl 1 rfl) ?_
    refine x_icmp_ge (tgt := 326) hx hb dL_law_190 (by decide) (by omega) (fun h1 => absurd h1 (by omega)) (fun h1 => ?_)
    refine lv_iload_n hx hb dL_law_193 rfl (lv_at hl 9 rfl) ?_
    refine x_if_eq (tgt := 326) hx hb dL_law_194 (by decide) (by omega) (fun h2 => absurd h2 (by omega)) (fun h2 => ?_)
    have hn20 := hi.n q y
    have hat9 := dAt_rng hi q y
    refine lv_aload_n hx hb dL_law_197 rfl (lv_at hl 10 rfl) ?_
    refine lv_iload hx hb dL_law_198 (lv_at hl 4 rfl) ?_
    refine lv_iload hx hb dL_law_200 (lv_at hl 3 rfl) ?_
    refine x_wI (va_runV (As := [.int (zI (y : Int)), .int (zI (q : Int))]) (rest := []) ⟨hx, hb, hml, hown, hts⟩ (r_length l hfl G s.heap.size s.heap.size (Nat.le_refl _) b y (by omega) q (by omega) ((y : Int)) ((q : Int)) (by omega) (by omega)) (cwV 2 hts gL_law_X3_length rfl rfl rfl (by decide +kernel) ⟨Nat.le_of_ble_eq_true rfl, Nat.le_of_ble_eq_true rfl⟩) (x_preLV hX hi hK hT hS hAl) rfl rfl hl.1 rfl (lv_room (Nat.le_of_ble_eq_true rfl)) dL_law_202 (show cells + 8 ≤ 675216 ∧ slots + 48 ≤ 7075977 from ⟨by omega, by omega⟩)) hS (fun q _ (h : xA s.heap.size q) => h.1) (fun q (h : xA s.heap.size q) => h.1) (fun H1 locs1 hX hz9 hk9 hS => ?_)
    refine lv_istore (lv' := [(13, .int (zI (bN b q y : Int))), (12, .int (zI (k : Int))), (11, .int (zI (many : Int))), (9, .int (zI (d : Int))), (8, .int (zI (q : Int))), (7, .int (zI (y : Int))), (6, .int (zI v)), (5, .int (zI (i : Int))), (4, .int (zI (tn : Int))), (3, .int (zI (bL b : Int))), (2, .int (zI 1)), (1, .ref s.heap.size), (0, .ref b0)]) hx hb dL_law_205 hl (by decide) rfl (fun ls hl => ?_)
    refine lv_aload_n hx hb dL_law_207 rfl (lv_at hl 11 rfl) ?_
    refine lv_iload hx hb dL_law_208 (lv_at hl 5 rfl) ?_
    refine lv_iload hx hb dL_law_210 (lv_at hl 4 rfl) ?_
    refine lv_iload hx hb dL_law_212 (lv_at hl 6 rfl) ?_
    refine lv_bipush (v := zI 11) hx hb dL_law_214 (by decide +kernel) ?_
    refine lv_iload hx hb dL_law_216 (lv_at hl 1 rfl) ?_
    refine x_imul hx hb dL_law_218 ?_
    refine x_iadd hx hb dL_law_219 ?_
    refine lv_bipush (v := zI 40) hx hb dL_law_220 (by decide +kernel) ?_
    refine x_cI (va_runS (As := [.int (zI (v + (11 * (k : Int)))), .int (zI 40)]) (rest := [.int (zI (q : Int)), .int (zI (y : Int)), .ref s.heap.size]) ⟨hx, hb, hml, hown, hts⟩ (c_L_low l ((v + (11 * (k : Int)))) 40 (by omega)) (va_cwS 2 hts gL_law_L_low rfl rfl rfl (by decide +kernel) ⟨Nat.le_of_ble_eq_true rfl, Nat.le_of_ble_eq_true rfl⟩) x_preS rfl rfl hl.1 rfl (lv_room (Nat.le_of_ble_eq_true rfl)) dL_law_222 (show cells + 8 ≤ 675216 ∧ slots + 48 ≤ 7075977 from ⟨by omega, by omega⟩)) ?_
    obtain ⟨c9, hc9, ec9⟩ := lw_nat ((v + (11 * (k : Int)))) 40 (by omega)
    rw [ec9]
    refine lv_sipush (v := zI 1000) hx hb dL_law_225 (by decide +kernel) ?_
    refine x_iconst hx hb dL_law_228 ?_
    refine lv_iload hx hb dL_law_229 (lv_at hl 6 rfl) ?_
    refine lv_bipush (v := zI 9) hx hb dL_law_231 (by decide +kernel) ?_
    refine x_shrA hx hb dL_law_233 (fun w1 hw1 => ?_)
    refine x_iconst hx hb dL_law_234 ?_
    refine x_cI (va_runS (As := [.int (zI w1), .int (zI 3)]) (rest := [.int (zI 4), .int (zI 1000), .int (zI (c9 : Int)), .int (zI (q : Int)), .int (zI (y : Int)), .ref s.heap.size]) ⟨hx, hb, hml, hown, hts⟩ (c_L_low l (w1) 3 (by omega)) (va_cwS 2 hts gL_law_L_low rfl rfl rfl (by decide +kernel) ⟨Nat.le_of_ble_eq_true rfl, Nat.le_of_ble_eq_true rfl⟩) x_preS rfl rfl hl.1 rfl (lv_room (Nat.le_of_ble_eq_true rfl)) dL_law_235 (show cells + 8 ≤ 675216 ∧ slots + 48 ≤ 7075977 from ⟨by omega, by omega⟩)) ?_
    obtain ⟨w, hw, ew⟩ := lw_nat (w1) 3 (by omega)
    rw [ew]
    refine x_imul hx hb dL_law_238 ?_
    have hp : 4 * w * (i + k) ≤ 8 * 64 := Nat.mul_le_mul (by omega) (by omega)
    obtain ⟨kn, hkn9, ekn⟩ : ∃ kn : Nat, kn ≤ 1000 ∧ 1000 - 4 * (w : Int) * ((i : Int) + (k : Int)) = (kn : Int) := ⟨1000 - 4 * w * (i + k), by omega, by have h9 : 4 * (w : Int) * ((i : Int) + (k : Int)) = ((4 * w * (i + k) : Nat) : Int) := by { rw [Int.natCast_mul, Int.natCast_mul, Int.natCast_add]; rfl }
                                                                                                                                                          omega⟩
    refine lv_iload hx hb dL_law_239 (lv_at hl 7 rfl) ?_
    refine lv_iload hx hb dL_law_241 (lv_at hl 1 rfl) ?_
    refine x_iadd hx hb dL_law_243 ?_
    refine x_imul hx hb dL_law_244 ?_
    refine x_isub hx hb dL_law_245 ?_
    rw [ekn]
    by_cases h0s : kAppN b q y (c9 : Int) (kn : Int) = 0
    · refine x_wI (vx_runSW (As := [.ref s.heap.size, .int (zI (y : Int)), .int (zI (q : Int)), .int (zI (c9 : Int)), .int (zI (kn : Int))]) (rest := []) ⟨hx, hb, hml, hown, hts⟩ (c_L_append0 l hfl G s.heap.size s.heap.size (Nat.le_refl _) b y hy q hq c9 (by omega) kn (by omega) (y : Int) (q : Int) (c9 : Int) (kn : Int) rfl rfl rfl (by omega) h0s) (vx_cwSW 5 hts gL_law_L_append rfl rfl rfl (by decide +kernel) ⟨Nat.le_of_ble_eq_true rfl, Nat.le_of_ble_eq_true rfl⟩) (x_preLS hX hi hK hT hS hAl) rfl rfl hl.1 rfl (lv_room (Nat.le_of_ble_eq_true rfl)) dL_law_246 (show cells + 8 + 8 ≤ 675216 ∧ slots + 48 + 48 ≤ 7075977 from ⟨by omega, by omega⟩)) hS (fun q _ (h : xA s.heap.size q) => h.1) (fun q (h : xA s.heap.size q) => h.1) (fun H1 locs1 hX hz9 hk9 hS => ?_)
      have hi := bApp_inv (q := q) (y := y) (d := c9) (c := kn) hi (ap_no h0s) (by omega) (by omega)
      refine lv_istore (lv' := [(14, .int (zI ((bN b q y : Int) + 1))), (13, .int (zI (bN b q y : Int))), (12, .int (zI (k : Int))), (11, .int (zI (many : Int))), (9, .int (zI (d : Int))), (8, .int (zI (q : Int))), (7, .int (zI (y : Int))), (6, .int (zI v)), (5, .int (zI (i : Int))), (4, .int (zI (tn : Int))), (3, .int (zI (bL b : Int))), (2, .int (zI 1)), (1, .ref s.heap.size), (0, .ref b0)]) hx hb dL_law_249 hl (by decide) rfl (fun ls hl => ?_)
      refine lv_iload hx hb dL_law_251 (lv_at hl 0 rfl) ?_
      refine lv_bipush (v := zI (-3)) hx hb dL_law_253 (by decide +kernel) ?_
      refine x_icmp_ne (tgt := 279) hx hb dL_law_255 (by decide) (by omega) (fun h2 => ?_) (fun h3 => ?_)
      · refine lv_iload hx hb dL_law_279 (lv_at hl 0 rfl) ?_
        refine lv_iload hx hb dL_law_281 (lv_at hl 1 rfl) ?_
        refine x_iconst hx hb dL_law_283 ?_
        refine x_iadd hx hb dL_law_284 ?_
        refine x_icmp_ne (tgt := 318) hx hb dL_law_285 (by decide) (by omega) (fun h4 => ?_) (fun h5 => ?_)
        · exact absurd h4 (by omega)
        · have hlt := ap_no h0s
          have hap := ap_at b q y c9 kn
          refine lv_aload_n hx hb dL_law_288 rfl (lv_at hl 12 rfl) ?_
          refine lv_iload hx hb dL_law_289 (lv_at hl 6 rfl) ?_
          refine lv_iload hx hb dL_law_291 (lv_at hl 5 rfl) ?_
          refine lv_iload hx hb dL_law_293 (lv_at hl 0 rfl) ?_
          refine x_wI (va_runV (As := [.int (zI (y : Int)), .int (zI (q : Int)), .int (zI ((bN b q y : Int) + 1))]) (rest := []) ⟨hx, hb, hml, hown, hts⟩ (r_at l hfl G s.heap.size s.heap.size (Nat.le_refl _) (bApp b q y c9 kn) y (by omega) q (by omega) ((bN b q y + 1)) (by omega) ((y : Int)) ((q : Int)) (((bN b q y : Int) + 1)) (by omega) (by omega) (by omega)) (cwV 3 hts gL_law_X3_at rfl rfl rfl (by decide +kernel) ⟨Nat.le_of_ble_eq_true rfl, Nat.le_of_ble_eq_true rfl⟩) (x_preLV hX hi hK hT hS hAl) rfl rfl hl.1 rfl (lv_room (Nat.le_of_ble_eq_true rfl)) dL_law_295 (show cells + 8 + 8 + 8 ≤ 675216 ∧ slots + 48 + 48 + 48 ≤ 7075977 from ⟨by omega, by omega⟩)) hS (fun q _ (h : xA s.heap.size q) => h.1) (fun q (h : xA s.heap.size q) => h.1) (fun H1 locs1 hX hz9 hk9 hS => ?_)
          refine lv_iload hx hb dL_law_298 (lv_at hl 7 rfl) ?_
          refine lv_bipush (v := zI 11) hx hb dL_law_300 (by decide +kernel) ?_
          refine lv_iload hx hb dL_law_302 (lv_at hl 2 rfl) ?_
          refine x_imul hx hb dL_law_304 ?_
          refine x_iadd hx hb dL_law_305 ?_
          refine lv_bipush (v := zI 40) hx hb dL_law_306 (by decide +kernel) ?_
          refine x_cI (va_runS (As := [.int (zI (v + (11 * (k : Int)))), .int (zI 40)]) (rest := [.int (zI (dAt (bApp b q y c9 kn) q y (((bN b q y + 1)) : Int)))]) ⟨hx, hb, hml, hown, hts⟩ (c_L_low l ((v + (11 * (k : Int)))) 40 (by omega)) (va_cwS 2 hts gL_law_L_low rfl rfl rfl (by decide +kernel) ⟨Nat.le_of_ble_eq_true rfl, Nat.le_of_ble_eq_true rfl⟩) x_preS rfl rfl hl.1 rfl (lv_room (Nat.le_of_ble_eq_true rfl)) dL_law_308 (show cells + 8 + 8 + 8 ≤ 675216 ∧ slots + 48 + 48 + 48 ≤ 7075977 from ⟨by omega, by omega⟩)) ?_
          rw [ec9]
          refine x_icmp_ne (tgt := 318) hx hb dL_law_311 (by decide) (by omega) (fun h6 => ?_) (fun h7 => ?_)
          · exact absurd h6 (by omega)
          · refine x_iconst hx hb dL_law_314 ?_
            refine lv_goto (tgt := 319) hx hb dL_law_315 (by decide) ?_
            refine lv_istore_n (lv' := [(2, .int (zI 1)), (14, .int (zI ((bN b q y : Int) + 1))), (13, .int (zI (bN b q y : Int))), (12, .int (zI (k : Int))), (11, .int (zI (many : Int))), (9, .int (zI (d : Int))), (8, .int (zI (q : Int))), (7, .int (zI (y : Int))), (6, .int (zI v)), (5, .int (zI (i : Int))), (4, .int (zI (tn : Int))), (3, .int (zI (bL b : Int))), (1, .ref s.heap.size), (0, .ref b0)]) hx hb dL_law_319 rfl hl (by decide) rfl (fun ls hl => ?_)
            refine x_iinc (lv' := [(12, .int (zI ((k : Int) + 1))), (2, .int (zI 1)), (14, .int (zI ((bN b q y : Int) + 1))), (13, .int (zI (bN b q y : Int))), (11, .int (zI (many : Int))), (9, .int (zI (d : Int))), (8, .int (zI (q : Int))), (7, .int (zI (y : Int))), (6, .int (zI v)), (5, .int (zI (i : Int))), (4, .int (zI (tn : Int))), (3, .int (zI (bL b : Int))), (1, .ref s.heap.size), (0, .ref b0)]) (k := 3) hx hb dL_law_320 hl rfl (by decide) rfl (fun ls hl => ?_)
            refine lv_goto (tgt := 186) hx hb dL_law_323 (by decide) ?_
            refine W.widen (k := cells + 24) (n := slots + 144) (by omega) (by omega) ?_
            exact ih (k + 1) (bApp b q y c9 kn) _ _ ls _ _ (by omega) (by omega) (by omega) hi hX hS (lv_cons (x_at (lv_at hl 0 rfl) (by omega)) (lv_cons (lv_at hl 4 rfl) (lv_cons (lv_at hl 5 rfl) (lv_cons (lv_at hl 6 rfl) (lv_cons (lv_at hl 7 rfl) (lv_cons (lv_at hl 8 rfl) (lv_cons (lv_at hl 9 rfl) (lv_cons (lv_at hl 10 rfl) (lv_cons (x_at (lv_at hl 11 rfl) (rfl)) (lv_cons (lv_at hl 1 rfl) (lv_cons (lv_at hl 12 rfl) (lv_cons (lv_at hl 13 rfl) (lv_nil hl)))))))))))))
      · exact absurd h3 (by omega)
    · refine x_wI (vx_runSW (As := [.ref s.heap.size, .int (zI (y : Int)), .int (zI (q : Int)), .int (zI (c9 : Int)), .int (zI (kn : Int))]) (rest := []) ⟨hx, hb, hml, hown, hts⟩ (c_L_append2 l hfl G s.heap.size s.heap.size (Nat.le_refl _) b y hy q hq c9 (by omega) kn (by omega) (y : Int) (q : Int) (c9 : Int) (kn : Int) rfl rfl rfl (by omega) h0s) (vx_cwSW 5 hts gL_law_L_append rfl rfl rfl (by decide +kernel) ⟨Nat.le_of_ble_eq_true rfl, Nat.le_of_ble_eq_true rfl⟩) (x_preLS hX hi hK hT hS hAl) rfl rfl hl.1 rfl (lv_room (Nat.le_of_ble_eq_true rfl)) dL_law_246 (show cells + 8 + 8 ≤ 675216 ∧ slots + 48 + 48 ≤ 7075977 from ⟨by omega, by omega⟩)) hS (fun q _ (h : xA s.heap.size q) => h.1) (fun q (h : xA s.heap.size q) => h.1) (fun H1 locs1 hX hz9 hk9 hS => ?_)
      refine lv_istore (lv' := [(14, .int (zI (-3))), (13, .int (zI (bN b q y : Int))), (12, .int (zI (k : Int))), (11, .int (zI (many : Int))), (9, .int (zI (d : Int))), (8, .int (zI (q : Int))), (7, .int (zI (y : Int))), (6, .int (zI v)), (5, .int (zI (i : Int))), (4, .int (zI (tn : Int))), (3, .int (zI (bL b : Int))), (2, .int (zI 1)), (1, .ref s.heap.size), (0, .ref b0)]) hx hb dL_law_249 hl (by decide) rfl (fun ls hl => ?_)
      refine lv_iload hx hb dL_law_251 (lv_at hl 0 rfl) ?_
      refine lv_bipush (v := zI (-3)) hx hb dL_law_253 (by decide +kernel) ?_
      refine x_icmp_ne (tgt := 279) hx hb dL_law_255 (by decide) (by omega) (fun h8 => ?_) (fun h9 => ?_)
      · exact absurd h8 (by omega)
      · refine lv_aload_n hx hb dL_law_258 rfl (lv_at hl 12 rfl) ?_
        refine lv_iload hx hb dL_law_259 (lv_at hl 6 rfl) ?_
        refine lv_iload hx hb dL_law_261 (lv_at hl 5 rfl) ?_
        refine x_wI (va_runV (As := [.int (zI (y : Int)), .int (zI (q : Int))]) (rest := []) ⟨hx, hb, hml, hown, hts⟩ (r_length l hfl G s.heap.size s.heap.size (Nat.le_refl _) b y (by omega) q (by omega) ((y : Int)) ((q : Int)) (by omega) (by omega)) (cwV 2 hts gL_law_X3_length rfl rfl rfl (by decide +kernel) ⟨Nat.le_of_ble_eq_true rfl, Nat.le_of_ble_eq_true rfl⟩) (x_preLV hX hi hK hT hS hAl) rfl rfl hl.1 rfl (lv_room (Nat.le_of_ble_eq_true rfl)) dL_law_263 (show cells + 8 + 8 + 8 ≤ 675216 ∧ slots + 48 + 48 + 48 ≤ 7075977 from ⟨by omega, by omega⟩)) hS (fun q _ (h : xA s.heap.size q) => h.1) (fun q (h : xA s.heap.size q) => h.1) (fun H1 locs1 hX hz9 hk9 hS => ?_)
        refine lv_iload hx hb dL_law_266 (lv_at hl 1 rfl) ?_
        refine x_icmp_ne (tgt := 275) hx hb dL_law_268 (by decide) (by omega) (fun h10 => ?_) (fun h11 => ?_)
        · exact absurd h10 (by omega)
        · refine x_iconst hx hb dL_law_271 ?_
          refine lv_goto (tgt := 319) hx hb dL_law_272 (by decide) ?_
          refine lv_istore_n (lv' := [(2, .int (zI 1)), (14, .int (zI (-3))), (13, .int (zI (bN b q y : Int))), (12, .int (zI (k : Int))), (11, .int (zI (many : Int))), (9, .int (zI (d : Int))), (8, .int (zI (q : Int))), (7, .int (zI (y : Int))), (6, .int (zI v)), (5, .int (zI (i : Int))), (4, .int (zI (tn : Int))), (3, .int (zI (bL b : Int))), (1, .ref s.heap.size), (0, .ref b0)]) hx hb dL_law_319 rfl hl (by decide) rfl (fun ls hl => ?_)
          refine x_iinc (lv' := [(12, .int (zI ((k : Int) + 1))), (2, .int (zI 1)), (14, .int (zI (-3))), (13, .int (zI (bN b q y : Int))), (11, .int (zI (many : Int))), (9, .int (zI (d : Int))), (8, .int (zI (q : Int))), (7, .int (zI (y : Int))), (6, .int (zI v)), (5, .int (zI (i : Int))), (4, .int (zI (tn : Int))), (3, .int (zI (bL b : Int))), (1, .ref s.heap.size), (0, .ref b0)]) (k := 3) hx hb dL_law_320 hl rfl (by decide) rfl (fun ls hl => ?_)
          refine lv_goto (tgt := 186) hx hb dL_law_323 (by decide) ?_
          refine W.widen (k := cells + 24) (n := slots + 144) (by omega) (by omega) ?_
          exact ih (k + 1) b _ _ ls _ _ (by omega) (by omega) (by omega) hi hX hS (lv_cons (x_at (lv_at hl 0 rfl) (by omega)) (lv_cons (lv_at hl 4 rfl) (lv_cons (lv_at hl 5 rfl) (lv_cons (lv_at hl 6 rfl) (lv_cons (lv_at hl 7 rfl) (lv_cons (lv_at hl 8 rfl) (lv_cons (lv_at hl 9 rfl) (lv_cons (lv_at hl 10 rfl) (lv_cons (lv_at hl 11 rfl) (lv_cons (lv_at hl 1 rfl) (lv_cons (lv_at hl 12 rfl) (lv_cons (lv_at hl 13 rfl) (lv_nil hl)))))))))))))
set_option maxHeartbeats 4000000 in
set_option maxRecDepth 100000 in
theorem cs_append {p : Program} {l : Launch} {e : Env} {s : State} {m : MethodId} {below : List Frame} {meth : Method} {c : Code} {b0 L : Nat} {xs : Nat → Int32} {G : XG} (C : CF p l s m c b0 L xs G) {Q : State → Prop} {b : XB} {H : Heap} {locs : List Loc} {cells slots : Nat} {ls : Array Slot} {y q d i tn : Nat} {v : Int} (hy : y < 4) (hq : q < 8) (hd : 1 ≤ d ∧ d ≤ 20) (hin : i < tn) (htn : tn ≤ 59) (hi : bInv b) (hX : BX G s.heap.size b H) (hS : va_S (fun q => s.heap.size ≤ q) s.heap H locs) (hl : lv_has ls 15 [(9, .int (zI (d : Int))), (8, .int (zI (q : Int))), (7, .int (zI (y : Int))), (6, .int (zI v)), (5, .int (zI (i : Int))), (4, .int (zI (tn : Int))), (3, .int (zI (bL b : Int))), (2, .int (zI 1)), (1, .ref s.heap.size), (0, .ref b0)]) (hc : cells + 240 ≤ 675216 ∧ slots + 1440 ≤ 7075977)
    (kk : ∀ (b9 : XB) (H9 : Heap) (locs9 : List Loc) (ls9 : Array Slot), bInv b9 → BX G s.heap.size b9 H9 → va_S (fun q => s.heap.size ≤ q) s.heap H9 locs9 → lv_has ls9 15 [(9, .int (zI (d : Int))), (8, .int (zI (q : Int))), (7, .int (zI (y : Int))), (5, .int (zI (i : Int))), (4, .int (zI (tn : Int))), (3, .int (zI (bL b9 : Int))), (2, .int (zI 1)), (1, .ref s.heap.size), (0, .ref b0)] → W p l e room_1 s m #[Value.ref b0] below meth c H9 locs9 (cells + 240) (slots + 1440) Q (F0 m 655 ls9 [])) : W p l e room_1 s m #[Value.ref b0] below meth c H locs cells slots Q (F0 m 172 ls []) := by
  obtain ⟨hx, hb, hml, hown, hts, hXs, hbl, hK, hT, hfl⟩ := id C
  have hAl : ∀ q, s.heap.size ≤ q → s.heap.size ≤ q := fun q h => h
  refine x_iconst hx hb dL_law_172 ?_
  refine lv_iload hx hb dL_law_173 (lv_at hl 3 rfl) ?_
  refine lv_bipush (v := zI 6) hx hb dL_law_175 (by decide +kernel) ?_
  refine x_cI (va_runS (As := [.int (zI v), .int (zI 6)]) (rest := [.int (zI 1)]) ⟨hx, hb, hml, hown, hts⟩ (c_L_low l (v) 6 (by omega)) (va_cwS 2 hts gL_law_L_low rfl rfl rfl (by decide +kernel) ⟨Nat.le_of_ble_eq_true rfl, Nat.le_of_ble_eq_true rfl⟩) x_preS rfl rfl hl.1 rfl (lv_room (Nat.le_of_ble_eq_true rfl)) dL_law_177 (show cells ≤ 675216 ∧ slots ≤ 7075977 from ⟨by omega, by omega⟩)) ?_
  obtain ⟨w, hw, ew⟩ := lw_nat (v) 6 (by omega)
  rw [ew]
  refine x_iadd hx hb dL_law_180 ?_
  obtain ⟨many, em, hm⟩ : ∃ many : Nat, 1 + (w : Int) = (many : Int) ∧ many ≤ 6 := ⟨1 + w, by omega, by omega⟩
  rw [em]
  refine lv_istore (lv' := [(11, .int (zI (many : Int))), (9, .int (zI (d : Int))), (8, .int (zI (q : Int))), (7, .int (zI (y : Int))), (6, .int (zI v)), (5, .int (zI (i : Int))), (4, .int (zI (tn : Int))), (3, .int (zI (bL b : Int))), (2, .int (zI 1)), (1, .ref s.heap.size), (0, .ref b0)]) hx hb dL_law_181 hl (by decide) rfl (fun ls hl => ?_)
  refine x_iconst hx hb dL_law_183 ?_
  refine lv_istore (lv' := [(12, .int (zI 0)), (11, .int (zI (many : Int))), (9, .int (zI (d : Int))), (8, .int (zI (q : Int))), (7, .int (zI (y : Int))), (6, .int (zI v)), (5, .int (zI (i : Int))), (4, .int (zI (tn : Int))), (3, .int (zI (bL b : Int))), (2, .int (zI 1)), (1, .ref s.heap.size), (0, .ref b0)]) hx hb dL_law_184 hl (by decide) rfl (fun ls hl => ?_)
  exact cs_aploop C hy hq hd hin htn (many := many) (by omega) (K9 := cells + 240) (S9 := slots + 1440) (by omega) (by omega) kk many 0 b H locs ls cells slots (by omega) (by omega) (by omega) hi hX hS (lv_cons (x_at (lv_at hl 0 rfl) (rfl)) (lv_cons (lv_at hl 1 rfl) (lv_cons (lv_at hl 2 rfl) (lv_cons (lv_at hl 3 rfl) (lv_cons (lv_at hl 4 rfl) (lv_cons (lv_at hl 5 rfl) (lv_cons (lv_at hl 6 rfl) (lv_cons (lv_at hl 7 rfl) (lv_cons (lv_at hl 8 rfl) (lv_cons (lv_at hl 9 rfl) (lv_cons (lv_at hl 10 rfl) (lv_cons (lv_at hl 11 rfl) (lv_nil hl)))))))))))))
set_option maxHeartbeats 4000000 in
set_option maxRecDepth 100000 in
theorem cs_d558 {p : Program} {l : Launch} {e : Env} {s : State} {m : MethodId} {below : List Frame} {meth : Method} {c : Code} {b0 L : Nat} {xs : Nat → Int32} {G : XG} (C : CF p l s m c b0 L xs G) {Q : State → Prop} {b : XB} {H : Heap} {locs : List Loc} {cells slots : Nat} {ls : Array Slot} {y q d i tn : Nat} {v : Int} (hy : y < 4) (hq : q < 8) (hd : 1 ≤ d ∧ d ≤ 20) (hin : i < tn) (htn : tn ≤ 59) {so : Nat} (hso : so < 12) (hi : bInv b) (hX : BX G s.heap.size b H) (hS : va_S (fun q => s.heap.size ≤ q) s.heap H locs) (hl : lv_has ls 15 [(10, .int (zI (so : Int))), (9, .int (zI (d : Int))), (8, .int (zI (q : Int))), (7, .int (zI (y : Int))), (6, .int (zI v)), (5, .int (zI (i : Int))), (4, .int (zI (tn : Int))), (3, .int (zI (bL b : Int))), (2, .int (zI 1)), (1, .ref s.heap.size), (0, .ref b0)]) (hc : cells + 240 ≤ 675216 ∧ slots + 1440 ≤ 7075977)
    (kk : ∀ (b9 : XB) (H9 : Heap) (locs9 : List Loc) (ls9 : Array Slot), bInv b9 → BX G s.heap.size b9 H9 → va_S (fun q => s.heap.size ≤ q) s.heap H9 locs9 → lv_has ls9 15 [(9, .int (zI (d : Int))), (8, .int (zI (q : Int))), (7, .int (zI (y : Int))), (5, .int (zI (i : Int))), (4, .int (zI (tn : Int))), (3, .int (zI (bL b9 : Int))), (2, .int (zI 1)), (1, .ref s.heap.size), (0, .ref b0)] → W p l e room_1 s m #[Value.ref b0] below meth c H9 locs9 (cells + 240) (slots + 1440) Q (F0 m 655 ls9 [])) : W p l e room_1 s m #[Value.ref b0] below meth c H locs cells slots Q (F0 m 558 ls []) := by
  obtain ⟨hx, hb, hml, hown, hts, hXs, hbl, hK, hT, hfl⟩ := id C
  have hAl : ∀ q, s.heap.size ≤ q → s.heap.size ≤ q := fun q h => h
  have hbl20 := hi.l
  refine lv_iload hx hb dL_law_558 (lv_at hl 0 rfl) ?_
  refine lv_bipush (v := zI 11) hx hb dL_law_560 (by decide +kernel) ?_
  refine x_icmp_ge (tgt := 623) hx hb dL_law_562 (by decide) (by omega) (fun h1 => ?_) (fun h2 => ?_)
  · exact cs_tests C hy hq hd hin htn hi hX hS (lv_cons (lv_at hl 1 rfl) (lv_cons (lv_at hl 2 rfl) (lv_cons (lv_at hl 3 rfl) (lv_cons (lv_at hl 4 rfl) (lv_cons (lv_at hl 5 rfl) (lv_cons (lv_at hl 6 rfl) (lv_cons (lv_at hl 7 rfl) (lv_cons (lv_at hl 8 rfl) (lv_cons (lv_at hl 9 rfl) (lv_cons (lv_at hl 10 rfl) (lv_nil hl))))))))))) hc kk
  · refine lv_iload_n hx hb dL_law_565 rfl (lv_at hl 7 rfl) ?_
    refine x_if_le (tgt := 623) hx hb dL_law_566 (by decide) (by omega) (fun h3 => ?_) (fun h4 => ?_)
    · exact cs_tests C hy hq hd hin htn hi hX hS (lv_cons (lv_at hl 1 rfl) (lv_cons (lv_at hl 2 rfl) (lv_cons (lv_at hl 3 rfl) (lv_cons (lv_at hl 4 rfl) (lv_cons (lv_at hl 5 rfl) (lv_cons (lv_at hl 6 rfl) (lv_cons (lv_at hl 7 rfl) (lv_cons (lv_at hl 8 rfl) (lv_cons (lv_at hl 9 rfl) (lv_cons (lv_at hl 10 rfl) (lv_nil hl))))))))))) hc kk
    · exact cs_click C hy hq hd hin htn (by omega) hi hX hS (lv_cons (lv_at hl 1 rfl) (lv_cons (lv_at hl 2 rfl) (lv_cons (lv_at hl 3 rfl) (lv_cons (lv_at hl 4 rfl) (lv_cons (lv_at hl 5 rfl) (lv_cons (lv_at hl 6 rfl) (lv_cons (lv_at hl 7 rfl) (lv_cons (lv_at hl 8 rfl) (lv_cons (lv_at hl 9 rfl) (lv_cons (lv_at hl 10 rfl) (lv_nil hl))))))))))) hc kk
set_option maxHeartbeats 4000000 in
set_option maxRecDepth 100000 in
theorem cs_d451 {p : Program} {l : Launch} {e : Env} {s : State} {m : MethodId} {below : List Frame} {meth : Method} {c : Code} {b0 L : Nat} {xs : Nat → Int32} {G : XG} (C : CF p l s m c b0 L xs G) {Q : State → Prop} {b : XB} {H : Heap} {locs : List Loc} {cells slots : Nat} {ls : Array Slot} {y q d i tn : Nat} {v : Int} (hy : y < 4) (hq : q < 8) (hd : 1 ≤ d ∧ d ≤ 20) (hin : i < tn) (htn : tn ≤ 59) {so : Nat} (hso : so < 12) (hi : bInv b) (hX : BX G s.heap.size b H) (hS : va_S (fun q => s.heap.size ≤ q) s.heap H locs) (hl : lv_has ls 15 [(10, .int (zI (so : Int))), (9, .int (zI (d : Int))), (8, .int (zI (q : Int))), (7, .int (zI (y : Int))), (6, .int (zI v)), (5, .int (zI (i : Int))), (4, .int (zI (tn : Int))), (3, .int (zI (bL b : Int))), (2, .int (zI 1)), (1, .ref s.heap.size), (0, .ref b0)]) (hc : cells + 240 ≤ 675216 ∧ slots + 1440 ≤ 7075977)
    (kk : ∀ (b9 : XB) (H9 : Heap) (locs9 : List Loc) (ls9 : Array Slot), bInv b9 → BX G s.heap.size b9 H9 → va_S (fun q => s.heap.size ≤ q) s.heap H9 locs9 → lv_has ls9 15 [(9, .int (zI (d : Int))), (8, .int (zI (q : Int))), (7, .int (zI (y : Int))), (5, .int (zI (i : Int))), (4, .int (zI (tn : Int))), (3, .int (zI (bL b9 : Int))), (2, .int (zI 1)), (1, .ref s.heap.size), (0, .ref b0)] → W p l e room_1 s m #[Value.ref b0] below meth c H9 locs9 (cells + 240) (slots + 1440) Q (F0 m 655 ls9 [])) : W p l e room_1 s m #[Value.ref b0] below meth c H locs cells slots Q (F0 m 451 ls []) := by
  obtain ⟨hx, hb, hml, hown, hts, hXs, hbl, hK, hT, hfl⟩ := id C
  have hAl : ∀ q, s.heap.size ≤ q → s.heap.size ≤ q := fun q h => h
  have hbl20 := hi.l
  refine lv_iload hx hb dL_law_451 (lv_at hl 0 rfl) ?_
  refine lv_bipush (v := zI 10) hx hb dL_law_453 (by decide +kernel) ?_
  refine x_icmp_ge (tgt := 558) hx hb dL_law_455 (by decide) (by omega) (fun h1 => ?_) (fun h2 => ?_)
  · exact cs_d558 C hy hq hd hin htn hso hi hX hS (lv_cons (lv_at hl 0 rfl) (lv_cons (lv_at hl 1 rfl) (lv_cons (lv_at hl 2 rfl) (lv_cons (lv_at hl 3 rfl) (lv_cons (lv_at hl 4 rfl) (lv_cons (lv_at hl 5 rfl) (lv_cons (lv_at hl 6 rfl) (lv_cons (lv_at hl 7 rfl) (lv_cons (lv_at hl 8 rfl) (lv_cons (lv_at hl 9 rfl) (lv_cons (lv_at hl 10 rfl) (lv_nil hl)))))))))))) hc kk
  · exact cs_cross C hy hq hd hin htn hi hX hS (lv_cons (lv_at hl 1 rfl) (lv_cons (lv_at hl 2 rfl) (lv_cons (lv_at hl 3 rfl) (lv_cons (lv_at hl 4 rfl) (lv_cons (lv_at hl 5 rfl) (lv_cons (lv_at hl 6 rfl) (lv_cons (lv_at hl 7 rfl) (lv_cons (lv_at hl 8 rfl) (lv_cons (lv_at hl 9 rfl) (lv_cons (lv_at hl 10 rfl) (lv_nil hl))))))))))) hc kk
set_option maxHeartbeats 4000000 in
set_option maxRecDepth 100000 in
theorem cs_d166 {p : Program} {l : Launch} {e : Env} {s : State} {m : MethodId} {below : List Frame} {meth : Method} {c : Code} {b0 L : Nat} {xs : Nat → Int32} {G : XG} (C : CF p l s m c b0 L xs G) {Q : State → Prop} {b : XB} {H : Heap} {locs : List Loc} {cells slots : Nat} {ls : Array Slot} {y q d i tn : Nat} {v : Int} (hy : y < 4) (hq : q < 8) (hd : 1 ≤ d ∧ d ≤ 20) (hin : i < tn) (htn : tn ≤ 59) {so : Nat} (hso : so < 12) (hi : bInv b) (hX : BX G s.heap.size b H) (hS : va_S (fun q => s.heap.size ≤ q) s.heap H locs) (hl : lv_has ls 15 [(10, .int (zI (so : Int))), (9, .int (zI (d : Int))), (8, .int (zI (q : Int))), (7, .int (zI (y : Int))), (6, .int (zI v)), (5, .int (zI (i : Int))), (4, .int (zI (tn : Int))), (3, .int (zI (bL b : Int))), (2, .int (zI 1)), (1, .ref s.heap.size), (0, .ref b0)]) (hc : cells + 240 ≤ 675216 ∧ slots + 1440 ≤ 7075977)
    (kk : ∀ (b9 : XB) (H9 : Heap) (locs9 : List Loc) (ls9 : Array Slot), bInv b9 → BX G s.heap.size b9 H9 → va_S (fun q => s.heap.size ≤ q) s.heap H9 locs9 → lv_has ls9 15 [(9, .int (zI (d : Int))), (8, .int (zI (q : Int))), (7, .int (zI (y : Int))), (5, .int (zI (i : Int))), (4, .int (zI (tn : Int))), (3, .int (zI (bL b9 : Int))), (2, .int (zI 1)), (1, .ref s.heap.size), (0, .ref b0)] → W p l e room_1 s m #[Value.ref b0] below meth c H9 locs9 (cells + 240) (slots + 1440) Q (F0 m 655 ls9 [])) : W p l e room_1 s m #[Value.ref b0] below meth c H locs cells slots Q (F0 m 166 ls []) := by
  obtain ⟨hx, hb, hml, hown, hts, hXs, hbl, hK, hT, hfl⟩ := id C
  have hAl : ∀ q, s.heap.size ≤ q → s.heap.size ≤ q := fun q h => h
  have hbl20 := hi.l
  refine lv_iload hx hb dL_law_166 (lv_at hl 0 rfl) ?_
  refine x_iconst hx hb dL_law_168 ?_
  refine x_icmp_ge (tgt := 329) hx hb dL_law_169 (by decide) (by omega) (fun h1 => ?_) (fun h2 => ?_)
  · refine lv_iload hx hb dL_law_329 (lv_at hl 0 rfl) ?_
    refine lv_bipush (v := zI 8) hx hb dL_law_331 (by decide +kernel) ?_
    refine x_icmp_ge (tgt := 392) hx hb dL_law_333 (by decide) (by omega) (fun h3 => ?_) (fun h4 => ?_)
    · refine lv_iload hx hb dL_law_392 (lv_at hl 0 rfl) ?_
      refine lv_bipush (v := zI 9) hx hb dL_law_394 (by decide +kernel) ?_
      refine x_icmp_ge (tgt := 451) hx hb dL_law_396 (by decide) (by omega) (fun h5 => ?_) (fun h6 => ?_)
      · exact cs_d451 C hy hq hd hin htn hso hi hX hS (lv_cons (lv_at hl 0 rfl) (lv_cons (lv_at hl 1 rfl) (lv_cons (lv_at hl 2 rfl) (lv_cons (lv_at hl 3 rfl) (lv_cons (lv_at hl 4 rfl) (lv_cons (lv_at hl 5 rfl) (lv_cons (lv_at hl 6 rfl) (lv_cons (lv_at hl 7 rfl) (lv_cons (lv_at hl 8 rfl) (lv_cons (lv_at hl 9 rfl) (lv_cons (lv_at hl 10 rfl) (lv_nil hl)))))))))))) hc kk
      · refine lv_iload hx hb dL_law_399 (lv_at hl 4 rfl) ?_
        refine x_iconst hx hb dL_law_401 ?_
        refine x_cI (va_runS (As := [.int (zI v), .int (zI 4)]) (rest := []) ⟨hx, hb, hml, hown, hts⟩ (c_L_low l (v) 4 (by omega)) (va_cwS 2 hts gL_law_L_low rfl rfl rfl (by decide +kernel) ⟨Nat.le_of_ble_eq_true rfl, Nat.le_of_ble_eq_true rfl⟩) x_preS rfl rfl hl.1 rfl (lv_room (Nat.le_of_ble_eq_true rfl)) dL_law_402 (show cells ≤ 675216 ∧ slots ≤ 7075977 from ⟨by omega, by omega⟩)) ?_
        obtain ⟨u, hu, eu⟩ := lw_nat (v) 4 (by omega)
        rw [eu]
        refine x_if_ne (tgt := 451) hx hb dL_law_405 (by decide) (by omega) (fun h7 => ?_) (fun h8 => ?_)
        · exact cs_d451 C hy hq hd hin htn hso hi hX hS (lv_cons (lv_at hl 0 rfl) (lv_cons (lv_at hl 1 rfl) (lv_cons (lv_at hl 2 rfl) (lv_cons (lv_at hl 3 rfl) (lv_cons (lv_at hl 4 rfl) (lv_cons (lv_at hl 5 rfl) (lv_cons (lv_at hl 6 rfl) (lv_cons (lv_at hl 7 rfl) (lv_cons (lv_at hl 8 rfl) (lv_cons (lv_at hl 9 rfl) (lv_cons (lv_at hl 10 rfl) (lv_nil hl)))))))))))) hc kk
        · exact cs_empty C hy hq hd hin htn hi hX hS (lv_cons (lv_at hl 1 rfl) (lv_cons (lv_at hl 2 rfl) (lv_cons (lv_at hl 3 rfl) (lv_cons (lv_at hl 4 rfl) (lv_cons (lv_at hl 5 rfl) (lv_cons (lv_at hl 6 rfl) (lv_cons (lv_at hl 7 rfl) (lv_cons (lv_at hl 8 rfl) (lv_cons (lv_at hl 9 rfl) (lv_cons (lv_at hl 10 rfl) (lv_nil hl))))))))))) hc kk
    · exact cs_judge C hy hq hd hin htn hi hX hS (lv_cons (lv_at hl 1 rfl) (lv_cons (lv_at hl 2 rfl) (lv_cons (lv_at hl 3 rfl) (lv_cons (lv_at hl 4 rfl) (lv_cons (lv_at hl 5 rfl) (lv_cons (lv_at hl 6 rfl) (lv_cons (lv_at hl 7 rfl) (lv_cons (lv_at hl 8 rfl) (lv_cons (lv_at hl 9 rfl) (lv_cons (lv_at hl 10 rfl) (lv_nil hl))))))))))) hc kk
  · exact cs_append C hy hq hd hin htn hi hX hS (lv_cons (lv_at hl 1 rfl) (lv_cons (lv_at hl 2 rfl) (lv_cons (lv_at hl 3 rfl) (lv_cons (lv_at hl 4 rfl) (lv_cons (lv_at hl 5 rfl) (lv_cons (lv_at hl 6 rfl) (lv_cons (lv_at hl 7 rfl) (lv_cons (lv_at hl 8 rfl) (lv_cons (lv_at hl 9 rfl) (lv_cons (lv_at hl 10 rfl) (lv_nil hl))))))))))) hc kk
