section XR
variable {p : Program} {l : Launch} {e : Env} {R : Room} {s : State} {m : MethodId} {args : Array Value} {below : List Frame} {meth : Method} {c : Code} {H : Heap} {locs : List Loc} {cells slots : Nat} {Q : State → Prop} {cc : ByteArray} {pc : Nat} {ls : Array Slot} {rest : List Value}
theorem x_iconst (hx : p.tables.exec = Jvm.exec) (hb : c.code = cc) {n : Int} (hdg : decode cc pc = .ok (.iconst n, 1)) (k : W p l e R s m args below meth c H locs cells slots Q (F0 m (pc + 1) ls (.int (zI n) :: rest))) : W p l e R s m args below meth c H locs cells slots Q (F0 m pc ls rest) := lv_iconst hx hb hdg rfl k
theorem x_iadd (hx : p.tables.exec = Jvm.exec) (hb : c.code = cc) {a b : Int} (hdg : decode cc pc = .ok (.iadd, 1)) (k : W p l e R s m args below meth c H locs cells slots Q (F0 m (pc + 1) ls (.int (zI (a + b)) :: rest))) : W p l e R s m args below meth c H locs cells slots Q (F0 m pc ls (.int (zI b) :: .int (zI a) :: rest)) := lv_iadd hx hb hdg (by rw [zI_add]; exact k)
theorem x_isub (hx : p.tables.exec = Jvm.exec) (hb : c.code = cc) {a b : Int} (hdg : decode cc pc = .ok (.isub, 1)) (k : W p l e R s m args below meth c H locs cells slots Q (F0 m (pc + 1) ls (.int (zI (a - b)) :: rest))) : W p l e R s m args below meth c H locs cells slots Q (F0 m pc ls (.int (zI b) :: .int (zI a) :: rest)) := lv_isub hx hb hdg (by rw [zI_sub]; exact k)
theorem x_imul (hx : p.tables.exec = Jvm.exec) (hb : c.code = cc) {a b : Int} (hdg : decode cc pc = .ok (.imul, 1)) (k : W p l e R s m args below meth c H locs cells slots Q (F0 m (pc + 1) ls (.int (zI (a * b)) :: rest))) : W p l e R s m args below meth c H locs cells slots Q (F0 m pc ls (.int (zI b) :: .int (zI a) :: rest)) := lv_imul hx hb hdg (by rw [zI_mul]; exact k)
theorem x_ineg (hx : p.tables.exec = Jvm.exec) (hb : c.code = cc) {a : Int} (hdg : decode cc pc = .ok (.ineg, 1)) (k : W p l e R s m args below meth c H locs cells slots Q (F0 m (pc + 1) ls (.int (zI (-a)) :: rest))) : W p l e R s m args below meth c H locs cells slots Q (F0 m pc ls (.int (zI a) :: rest)) := lv_ineg hx hb hdg (by rw [zI_neg]; exact k)
theorem x_idiv (hx : p.tables.exec = Jvm.exec) (hb : c.code = cc) {a b : Int} (ha : 0 ≤ a ∧ a < 2147483648) (hbb : 0 < b ∧ b < 2147483648) (hdg : decode cc pc = .ok (.idiv, 1)) (k : W p l e R s m args below meth c H locs cells slots Q (F0 m (pc + 1) ls (.int (zI (a / b)) :: rest))) : W p l e R s m args below meth c H locs cells slots Q (F0 m pc ls (.int (zI b) :: .int (zI a) :: rest)) := lv_idiv hx hb hdg (x_nz hbb) (by rw [zI_div ha hbb]; exact k)
theorem x_irem (hx : p.tables.exec = Jvm.exec) (hb : c.code = cc) {a b : Int} (ha : 0 ≤ a ∧ a < 2147483648) (hbb : 0 < b ∧ b < 2147483648) (hdg : decode cc pc = .ok (.irem, 1)) (k : W p l e R s m args below meth c H locs cells slots Q (F0 m (pc + 1) ls (.int (zI (a % b)) :: rest))) : W p l e R s m args below meth c H locs cells slots Q (F0 m pc ls (.int (zI b) :: .int (zI a) :: rest)) := lv_irem hx hb hdg (x_nz hbb) (by rw [zI_rem ha hbb]; exact k)
theorem x_ladd (hx : p.tables.exec = Jvm.exec) (hb : c.code = cc) {a b : Int} (hdg : decode cc pc = .ok (.ladd, 1)) (k : W p l e R s m args below meth c H locs cells slots Q (F0 m (pc + 1) ls (.long (lI (a + b)) :: rest))) : W p l e R s m args below meth c H locs cells slots Q (F0 m pc ls (.long (lI b) :: .long (lI a) :: rest)) := lv_ladd hx hb hdg (by rw [lI_add]; exact k)
theorem x_lsub (hx : p.tables.exec = Jvm.exec) (hb : c.code = cc) {a b : Int} (hdg : decode cc pc = .ok (.lsub, 1)) (k : W p l e R s m args below meth c H locs cells slots Q (F0 m (pc + 1) ls (.long (lI (a - b)) :: rest))) : W p l e R s m args below meth c H locs cells slots Q (F0 m pc ls (.long (lI b) :: .long (lI a) :: rest)) := lv_lsub hx hb hdg (by rw [lI_sub]; exact k)
theorem x_lmul (hx : p.tables.exec = Jvm.exec) (hb : c.code = cc) {a b : Int} (hdg : decode cc pc = .ok (.lmul, 1)) (k : W p l e R s m args below meth c H locs cells slots Q (F0 m (pc + 1) ls (.long (lI (a * b)) :: rest))) : W p l e R s m args below meth c H locs cells slots Q (F0 m pc ls (.long (lI b) :: .long (lI a) :: rest)) := lv_lmul hx hb hdg (by rw [lI_mul]; exact k)
theorem x_ldiv (hx : p.tables.exec = Jvm.exec) (hb : c.code = cc) {a b : Int} (ha : 0 ≤ a ∧ a < 9223372036854775808) (hbb : 0 < b ∧ b < 9223372036854775808) (hdg : decode cc pc = .ok (.ldiv, 1)) (k : W p l e R s m args below meth c H locs cells slots Q (F0 m (pc + 1) ls (.long (lI (a / b)) :: rest))) : W p l e R s m args below meth c H locs cells slots Q (F0 m pc ls (.long (lI b) :: .long (lI a) :: rest)) := lv_ldiv hx hb hdg (x_nzl hbb) (by rw [lI_div ha hbb]; exact k)
theorem x_lrem (hx : p.tables.exec = Jvm.exec) (hb : c.code = cc) {a b : Int} (ha : 0 ≤ a ∧ a < 9223372036854775808) (hbb : 0 < b ∧ b < 9223372036854775808) (hdg : decode cc pc = .ok (.lrem, 1)) (k : W p l e R s m args below meth c H locs cells slots Q (F0 m (pc + 1) ls (.long (lI (a % b)) :: rest))) : W p l e R s m args below meth c H locs cells slots Q (F0 m pc ls (.long (lI b) :: .long (lI a) :: rest)) := lv_lrem hx hb hdg (x_nzl hbb) (by rw [lI_rem ha hbb]; exact k)
theorem x_i2l (hx : p.tables.exec = Jvm.exec) (hb : c.code = cc) {a : Int} (ha : -2147483648 ≤ a ∧ a < 2147483648) (hdg : decode cc pc = .ok (.i2l, 1)) (k : W p l e R s m args below meth c H locs cells slots Q (F0 m (pc + 1) ls (.long (lI a) :: rest))) : W p l e R s m args below meth c H locs cells slots Q (F0 m pc ls (.int (zI a) :: rest)) := lv_i2l hx hb hdg (lI_z ha) k
theorem x_ishr (hx : p.tables.exec = Jvm.exec) (hb : c.code = cc) {a q : Nat} (ha : a < 2147483648) (hq : q < 32) (hdg : decode cc pc = .ok (.ishr, 1)) (k : W p l e R s m args below meth c H locs cells slots Q (F0 m (pc + 1) ls (.int (zI ((a / 2 ^ q : Nat) : Int)) :: rest))) : W p l e R s m args below meth c H locs cells slots Q (F0 m pc ls (.int (zI (q : Int)) :: .int (zI (a : Int)) :: rest)) := lv_ishr hx hb hdg (by rw [zI_shr ha hq]; exact k)
theorem x_iand1 (hx : p.tables.exec = Jvm.exec) (hb : c.code = cc) {a : Nat} (ha : a < 2147483648) (hdg : decode cc pc = .ok (.iand, 1)) (k : W p l e R s m args below meth c H locs cells slots Q (F0 m (pc + 1) ls (.int (zI ((a % 2 : Nat) : Int)) :: rest))) : W p l e R s m args below meth c H locs cells slots Q (F0 m pc ls (.int (zI 1) :: .int (zI (a : Int)) :: rest)) := lv_iand hx hb hdg (by rw [zI_and1 a ha]; exact k)
theorem x_lcmp (hx : p.tables.exec = Jvm.exec) (hb : c.code = cc) {a b : Int} (hr : -9223372036854775808 ≤ a ∧ a < 9223372036854775808 ∧ -9223372036854775808 ≤ b ∧ b < 9223372036854775808) (hdg : decode cc pc = .ok (.lcmp, 1)) (k : W p l e R s m args below meth c H locs cells slots Q (F0 m (pc + 1) ls (.int (zI (cmpZ a b)) :: rest))) : W p l e R s m args below meth c H locs cells slots Q (F0 m pc ls (.long (lI b) :: .long (lI a) :: rest)) := W.lcmp hx hb hdg (by rw [x_cmp hr]; exact k)
theorem x_icmp_eq (hx : p.tables.exec = Jvm.exec) (hb : c.code = cc) {a b : Int} {off : Int} {tgt : Nat} (hdg : decode cc pc = .ok (.if_icmp .eq off, 3)) (ht : (pc : Int) + off = (tgt : Int)) (hr : -2147483648 ≤ a ∧ a < 2147483648 ∧ -2147483648 ≤ b ∧ b < 2147483648) (kt : a = b → W p l e R s m args below meth c H locs cells slots Q (F0 m tgt ls rest)) (kf : ¬ a = b → W p l e R s m args below meth c H locs cells slots Q (F0 m (pc + 3) ls rest)) : W p l e R s m args below meth c H locs cells slots Q (F0 m pc ls (.int (zI b) :: .int (zI a) :: rest)) := lv_icmp_eq hx hb hdg ht (fun h => kt ((zI_inj hr).mp h)) (fun h => kf (fun q => h ((zI_inj hr).mpr q)))
theorem x_icmp_ne (hx : p.tables.exec = Jvm.exec) (hb : c.code = cc) {a b : Int} {off : Int} {tgt : Nat} (hdg : decode cc pc = .ok (.if_icmp .ne off, 3)) (ht : (pc : Int) + off = (tgt : Int)) (hr : -2147483648 ≤ a ∧ a < 2147483648 ∧ -2147483648 ≤ b ∧ b < 2147483648) (kt : ¬ a = b → W p l e R s m args below meth c H locs cells slots Q (F0 m tgt ls rest)) (kf : a = b → W p l e R s m args below meth c H locs cells slots Q (F0 m (pc + 3) ls rest)) : W p l e R s m args below meth c H locs cells slots Q (F0 m pc ls (.int (zI b) :: .int (zI a) :: rest)) := lv_icmp_ne hx hb hdg ht (fun h => kt (fun q => h ((zI_inj hr).mpr q))) (fun h => kf ((zI_inj hr).mp h))
theorem x_icmp_lt (hx : p.tables.exec = Jvm.exec) (hb : c.code = cc) {a b : Int} {off : Int} {tgt : Nat} (hdg : decode cc pc = .ok (.if_icmp .lt off, 3)) (ht : (pc : Int) + off = (tgt : Int)) (hr : -2147483648 ≤ a ∧ a < 2147483648 ∧ -2147483648 ≤ b ∧ b < 2147483648) (kt : a < b → W p l e R s m args below meth c H locs cells slots Q (F0 m tgt ls rest)) (kf : b ≤ a → W p l e R s m args below meth c H locs cells slots Q (F0 m (pc + 3) ls rest)) : W p l e R s m args below meth c H locs cells slots Q (F0 m pc ls (.int (zI b) :: .int (zI a) :: rest)) := lv_icmp_lt hx hb hdg ht (fun h => kt ((zI_lt hr).mp h)) (fun h => kf (Int.not_lt.mp (fun q => h ((zI_lt hr).mpr q))))
theorem x_icmp_ge (hx : p.tables.exec = Jvm.exec) (hb : c.code = cc) {a b : Int} {off : Int} {tgt : Nat} (hdg : decode cc pc = .ok (.if_icmp .ge off, 3)) (ht : (pc : Int) + off = (tgt : Int)) (hr : -2147483648 ≤ a ∧ a < 2147483648 ∧ -2147483648 ≤ b ∧ b < 2147483648) (kt : b ≤ a → W p l e R s m args below meth c H locs cells slots Q (F0 m tgt ls rest)) (kf : a < b → W p l e R s m args below meth c H locs cells slots Q (F0 m (pc + 3) ls rest)) : W p l e R s m args below meth c H locs cells slots Q (F0 m pc ls (.int (zI b) :: .int (zI a) :: rest)) := lv_icmp_ge hx hb hdg ht (fun h => kt ((zI_le (x_sw hr)).mp h)) (fun h => kf (Int.not_le.mp (fun q => h ((zI_le (x_sw hr)).mpr q))))
theorem x_icmp_gt (hx : p.tables.exec = Jvm.exec) (hb : c.code = cc) {a b : Int} {off : Int} {tgt : Nat} (hdg : decode cc pc = .ok (.if_icmp .gt off, 3)) (ht : (pc : Int) + off = (tgt : Int)) (hr : -2147483648 ≤ a ∧ a < 2147483648 ∧ -2147483648 ≤ b ∧ b < 2147483648) (kt : b < a → W p l e R s m args below meth c H locs cells slots Q (F0 m tgt ls rest)) (kf : a ≤ b → W p l e R s m args below meth c H locs cells slots Q (F0 m (pc + 3) ls rest)) : W p l e R s m args below meth c H locs cells slots Q (F0 m pc ls (.int (zI b) :: .int (zI a) :: rest)) := lv_icmp_gt hx hb hdg ht (fun h => kt ((zI_lt (x_sw hr)).mp h)) (fun h => kf (Int.not_lt.mp (fun q => h ((zI_lt (x_sw hr)).mpr q))))
theorem x_icmp_le (hx : p.tables.exec = Jvm.exec) (hb : c.code = cc) {a b : Int} {off : Int} {tgt : Nat} (hdg : decode cc pc = .ok (.if_icmp .le off, 3)) (ht : (pc : Int) + off = (tgt : Int)) (hr : -2147483648 ≤ a ∧ a < 2147483648 ∧ -2147483648 ≤ b ∧ b < 2147483648) (kt : a ≤ b → W p l e R s m args below meth c H locs cells slots Q (F0 m tgt ls rest)) (kf : b < a → W p l e R s m args below meth c H locs cells slots Q (F0 m (pc + 3) ls rest)) : W p l e R s m args below meth c H locs cells slots Q (F0 m pc ls (.int (zI b) :: .int (zI a) :: rest)) := lv_icmp_le hx hb hdg ht (fun h => kt ((zI_le hr).mp h)) (fun h => kf (Int.not_le.mp (fun q => h ((zI_le hr).mpr q))))
theorem x_if_eq (hx : p.tables.exec = Jvm.exec) (hb : c.code = cc) {a : Int} {off : Int} {tgt : Nat} (hdg : decode cc pc = .ok (.ifCond .eq off, 3)) (ht : (pc : Int) + off = (tgt : Int)) (hr : -2147483648 ≤ a ∧ a < 2147483648) (kt : a = 0 → W p l e R s m args below meth c H locs cells slots Q (F0 m tgt ls rest)) (kf : ¬ a = 0 → W p l e R s m args below meth c H locs cells slots Q (F0 m (pc + 3) ls rest)) : W p l e R s m args below meth c H locs cells slots Q (F0 m pc ls (.int (zI a) :: rest)) := lv_if_eq hx hb hdg ht (fun h => kt ((zI_inj (x_w0 hr)).mp (h.trans zI_0.symm))) (fun h => kf (fun q => h (((zI_inj (x_w0 hr)).mpr q).trans zI_0)))
theorem x_if_ne (hx : p.tables.exec = Jvm.exec) (hb : c.code = cc) {a : Int} {off : Int} {tgt : Nat} (hdg : decode cc pc = .ok (.ifCond .ne off, 3)) (ht : (pc : Int) + off = (tgt : Int)) (hr : -2147483648 ≤ a ∧ a < 2147483648) (kt : ¬ a = 0 → W p l e R s m args below meth c H locs cells slots Q (F0 m tgt ls rest)) (kf : a = 0 → W p l e R s m args below meth c H locs cells slots Q (F0 m (pc + 3) ls rest)) : W p l e R s m args below meth c H locs cells slots Q (F0 m pc ls (.int (zI a) :: rest)) := lv_if_ne hx hb hdg ht (fun h => kt (fun q => h (((zI_inj (x_w0 hr)).mpr q).trans zI_0))) (fun h => kf ((zI_inj (x_w0 hr)).mp (h.trans zI_0.symm)))
theorem x_if_lt (hx : p.tables.exec = Jvm.exec) (hb : c.code = cc) {a : Int} {off : Int} {tgt : Nat} (hdg : decode cc pc = .ok (.ifCond .lt off, 3)) (ht : (pc : Int) + off = (tgt : Int)) (hr : -2147483648 ≤ a ∧ a < 2147483648) (kt : a < 0 → W p l e R s m args below meth c H locs cells slots Q (F0 m tgt ls rest)) (kf : 0 ≤ a → W p l e R s m args below meth c H locs cells slots Q (F0 m (pc + 3) ls rest)) : W p l e R s m args below meth c H locs cells slots Q (F0 m pc ls (.int (zI a) :: rest)) := lv_if_lt hx hb hdg ht (fun h => kt ((zI_lt (x_w0 hr)).mp (by rw [zI_0]; exact h))) (fun h => kf (Int.not_lt.mp (fun q => h (by rw [← zI_0]; exact (zI_lt (x_w0 hr)).mpr q))))
theorem x_if_ge (hx : p.tables.exec = Jvm.exec) (hb : c.code = cc) {a : Int} {off : Int} {tgt : Nat} (hdg : decode cc pc = .ok (.ifCond .ge off, 3)) (ht : (pc : Int) + off = (tgt : Int)) (hr : -2147483648 ≤ a ∧ a < 2147483648) (kt : 0 ≤ a → W p l e R s m args below meth c H locs cells slots Q (F0 m tgt ls rest)) (kf : a < 0 → W p l e R s m args below meth c H locs cells slots Q (F0 m (pc + 3) ls rest)) : W p l e R s m args below meth c H locs cells slots Q (F0 m pc ls (.int (zI a) :: rest)) := lv_if_ge hx hb hdg ht (fun h => kt ((zI_le (x_sw (x_w0 hr))).mp (by rw [zI_0]; exact h))) (fun h => kf (Int.not_le.mp (fun q => h (by rw [← zI_0]; exact (zI_le (x_sw (x_w0 hr))).mpr q))))
theorem x_if_gt (hx : p.tables.exec = Jvm.exec) (hb : c.code = cc) {a : Int} {off : Int} {tgt : Nat} (hdg : decode cc pc = .ok (.ifCond .gt off, 3)) (ht : (pc : Int) + off = (tgt : Int)) (hr : -2147483648 ≤ a ∧ a < 2147483648) (kt : 0 < a → W p l e R s m args below meth c H locs cells slots Q (F0 m tgt ls rest)) (kf : a ≤ 0 → W p l e R s m args below meth c H locs cells slots Q (F0 m (pc + 3) ls rest)) : W p l e R s m args below meth c H locs cells slots Q (F0 m pc ls (.int (zI a) :: rest)) := lv_if_gt hx hb hdg ht (fun h => kt ((zI_lt (x_sw (x_w0 hr))).mp (by rw [zI_0]; exact h))) (fun h => kf (Int.not_lt.mp (fun q => h (by rw [← zI_0]; exact (zI_lt (x_sw (x_w0 hr))).mpr q))))
theorem x_if_le (hx : p.tables.exec = Jvm.exec) (hb : c.code = cc) {a : Int} {off : Int} {tgt : Nat} (hdg : decode cc pc = .ok (.ifCond .le off, 3)) (ht : (pc : Int) + off = (tgt : Int)) (hr : -2147483648 ≤ a ∧ a < 2147483648) (kt : a ≤ 0 → W p l e R s m args below meth c H locs cells slots Q (F0 m tgt ls rest)) (kf : 0 < a → W p l e R s m args below meth c H locs cells slots Q (F0 m (pc + 3) ls rest)) : W p l e R s m args below meth c H locs cells slots Q (F0 m pc ls (.int (zI a) :: rest)) := lv_if_le hx hb hdg ht (fun h => kt ((zI_le (x_w0 hr)).mp (by rw [zI_0]; exact h))) (fun h => kf (Int.not_le.mp (fun q => h (by rw [← zI_0]; exact (zI_le (x_w0 hr)).mpr q))))
theorem x_ifB_eq (hx : p.tables.exec = Jvm.exec) (hb : c.code = cc) {P : Prop} [Decidable P] {off : Int} {tgt : Nat} (hdg : decode cc pc = .ok (.ifCond .eq off, 3)) (ht : (pc : Int) + off = (tgt : Int)) (kt : ¬ P → W p l e R s m args below meth c H locs cells slots Q (F0 m tgt ls rest)) (kf : P → W p l e R s m args below meth c H locs cells slots Q (F0 m (pc + 3) ls rest)) : W p l e R s m args below meth c H locs cells slots Q (F0 m pc ls (.int (zI (bI P)) :: rest)) := x_if_eq hx hb hdg ht (x_bw P) (fun h => kt (bI_0.mp h)) (fun h => kf (Classical.not_not.mp (fun q => h (bI_0.mpr q))))
theorem x_ifB_ne (hx : p.tables.exec = Jvm.exec) (hb : c.code = cc) {P : Prop} [Decidable P] {off : Int} {tgt : Nat} (hdg : decode cc pc = .ok (.ifCond .ne off, 3)) (ht : (pc : Int) + off = (tgt : Int)) (kt : P → W p l e R s m args below meth c H locs cells slots Q (F0 m tgt ls rest)) (kf : ¬ P → W p l e R s m args below meth c H locs cells slots Q (F0 m (pc + 3) ls rest)) : W p l e R s m args below meth c H locs cells slots Q (F0 m pc ls (.int (zI (bI P)) :: rest)) := x_if_ne hx hb hdg ht (x_bw P) (fun h => kt (Classical.not_not.mp (fun q => h (bI_0.mpr q)))) (fun h => kf (bI_0.mp h))
theorem x_iinc (hx : p.tables.exec = Jvm.exec) (hb : c.code = cc) {i nL k : Nat} {n : Int} {a : Int} {lv lv' : List (Nat × Value)} (hdg : decode cc pc = .ok (.iinc i n, 3)) (h : lv_has ls nL lv) (hk : lv[k]? = some (i, .int (zI a))) (hn : i < nL) (hl : (i, Value.int (zI (a + n))) :: lv.filter (fun q => !(q.1 == i) && !(q.1 + 1 == i && q.2.category == 2)) = lv') (kk : ∀ ls' : Array Slot, lv_has ls' nL lv' → W p l e R s m args below meth c H locs cells slots Q (F0 m (pc + 3) ls' rest)) : W p l e R s m args below meth c H locs cells slots Q (F0 m pc ls rest) := lv_iinc hx hb hdg h hk (v := zI (a + n)) (by rw [← zI_add]; rfl) hn hl kk
theorem x_iald (hx : p.tables.exec = Jvm.exec) (hb : c.code = cc) {G : XG} {aa n : Nat} {F : Nat → Int} {i : Int} (hK : XK G s) (hP : va_at G.1 vwCl (aa, .inl (G.2.1, n, .inl (fun k => zI (F k)))) H) (k : Nat) (hi : i = (k : Int)) (hlt : k < n) (hn : n < 2147483648) (hdg : decode cc pc = .ok (.iaload, 1)) (kk : W p l e R s m args below meth c H locs cells slots Q (F0 m (pc + 1) ls (.int (zI (F k)) :: rest))) : W p l e R s m args below meth c H locs cells slots Q (F0 m pc ls (.int (zI i) :: .ref aa :: rest)) := by
  subst hi
  refine va_iald hx hb hK.1 (x_one hP) 0 0 rfl rfl (zI_in hlt hn) hdg ?_
  rw [zI_cl (by omega)]
  exact kk
theorem x_zald (hx : p.tables.exec = Jvm.exec) (hb : c.code = cc) {G : XG} {aa n : Nat} {F : Nat → Int} {i : Int} (hK : XK G s) (hP : va_at G.1 vwCl (aa, .inl (G.2.2.1, n, .inl (fun k => zI (F k)))) H) (k : Nat) (hi : i = (k : Int)) (hlt : k < n) (hn : n < 2147483648) (hdg : decode cc pc = .ok (.baload, 1)) (kk : W p l e R s m args below meth c H locs cells slots Q (F0 m (pc + 1) ls (.int (zI (F k)) :: rest))) : W p l e R s m args below meth c H locs cells slots Q (F0 m pc ls (.int (zI i) :: .ref aa :: rest)) := by
  subst hi
  refine va_zald hx hb hK.1 (x_one hP) 0 1 rfl rfl (zI_in hlt hn) hdg ?_
  rw [zI_cl (by omega)]
  exact kk
theorem x_aaldq (hx : p.tables.exec = Jvm.exec) (hb : c.code = cc) {G : XG} {aa n : Nat} {F : Nat → Nat} {i : Int} (hK : XK G s) (hP : va_at G.1 vwCl (aa, .inl (G.2.2.2.1, n, .inr (.inr (.inr (.inr (fun k => some (F k))))))) H) (k : Nat) (hi : i = (k : Int)) (hlt : k < n) (hn : n < 2147483648) (hdg : decode cc pc = .ok (.aaload, 1)) (kk : W p l e R s m args below meth c H locs cells slots Q (F0 m (pc + 1) ls (.ref (F k) :: rest))) : W p l e R s m args below meth c H locs cells slots Q (F0 m pc ls (.int (zI i) :: .ref aa :: rest)) := by
  subst hi
  refine va_aldq hx hb hK.1 (x_one hP) 0 2 rfl rfl (zI_in hlt hn) hdg ?_
  rw [zI_cl (by omega)]
  exact kk
theorem x_aaldr (hx : p.tables.exec = Jvm.exec) (hb : c.code = cc) {G : XG} {aa n : Nat} {F : Nat → Nat} {i : Int} (hK : XK G s) (hP : va_at G.1 vwCl (aa, .inl (G.2.2.2.2.1, n, .inr (.inr (.inr (.inr (fun k => some (F k))))))) H) (k : Nat) (hi : i = (k : Int)) (hlt : k < n) (hn : n < 2147483648) (hdg : decode cc pc = .ok (.aaload, 1)) (kk : W p l e R s m args below meth c H locs cells slots Q (F0 m (pc + 1) ls (.ref (F k) :: rest))) : W p l e R s m args below meth c H locs cells slots Q (F0 m pc ls (.int (zI i) :: .ref aa :: rest)) := by
  subst hi
  refine va_aldq hx hb hK.1 (x_one hP) 0 3 rfl rfl (zI_in hlt hn) hdg ?_
  rw [zI_cl (by omega)]
  exact kk
end XR
/-! ===== fields, stores, calls ===== -/
section XR2
variable {p : Program} {l : Launch} {e : Env} {R : Room} {s : State} {m : MethodId} {args : Array Value} {below : List Frame} {meth : Method} {c : Code} {H : Heap} {locs : List Loc} {cells slots : Nat} {Q : State → Prop} {cc : ByteArray} {pc : Nat} {ls : Array Slot} {rest : List Value}
theorem x_get (hx : p.tables.exec = Jvm.exec) (hb : c.code = cc) {own ref C : String} {T : u_T} {N ci index aa : Nat} {Ts : List Cond} {G : XG} {fs : List Value} (hts : ∀ w ∈ Ts, w.before args s = true) (hin : ∀ w ∈ u_ws C T N, w ∈ Ts) (hown : s.vm.findClass own = some m.cls) (hK : XK G s) (hP : va1 G aa (.inr (ci, fs)) H) (hc : vwCl[ci]? = some (C, T, N)) (k : Nat) (hk : k < N) (hlink : Cond.fieldLink own index ref (T k).2.1 (T k).2.2.1 ∈ Ts) (href : (T k).1 = ref) {v : Value} (hv : fs[k]? = some v) (hdg : decode cc pc = .ok (.getfield index, 3))
    (kk : W p l e R s m args below meth c H locs cells slots Q (F0 m (pc + 3) ls (v :: rest))) : W p l e R s m args below meth c H locs cells slots Q (F0 m pc ls (.ref aa :: rest)) :=
  va_get hx hb hts hin hown hK.1 (x_one hP) 0 rfl hc k hk (hts _ hlink) (by rw [href]; exact fun _ h => h) hv hdg kk
theorem x_getN (hx : p.tables.exec = Jvm.exec) (hb : c.code = cc) {own ref C : String} {T : u_T} {N ci index aa : Nat} {Ts : List Cond} {G : XG} {fs : List Value} (hts : ∀ w ∈ Ts, w.before args s = true) (hin : ∀ w ∈ u_ws C T N, w ∈ Ts) (hown : s.vm.findClass own = some m.cls) (hK : XK G s) (hP : va1 G aa (.inr (ci, fs)) H) (hc : vwCl[ci]? = some (C, T, N)) (k : Nat) (hk : k < N) (hlink : Cond.fieldLinkNest own index ref (T k).2.1 (T k).2.2.1 RX3 ∈ xk_nest) (href : (T k).1 = ref) {v : Value} (hv : fs[k]? = some v) (hdg : decode cc pc = .ok (.getfield index, 3))
    (kk : W p l e R s m args below meth c H locs cells slots Q (F0 m (pc + 3) ls (v :: rest))) : W p l e R s m args below meth c H locs cells slots Q (F0 m pc ls (.ref aa :: rest)) :=
  va_getN hx hb hts hin hown hK.1 (x_one hP) 0 rfl hc k hk (va_Nw.use rfl (hK.2 _ hlink)) (by rw [href]; exact fun _ h => h) hv hdg kk
theorem x_put (hx : p.tables.exec = Jvm.exec) (hb : c.code = cc) {own ref C : String} {T : u_T} {N ci index aa : Nat} {Ts : List Cond} {G : XG} {fs : List Value} {A : Nat → Prop} {H0 : Heap} (hts : ∀ w ∈ Ts, w.before args s = true) (hin : ∀ w ∈ u_ws C T N, w ∈ Ts) (ty0 : Nat → FieldType) (hty : ∀ k, k < N → parseFieldDescriptor (T k).2.2.1 = some (ty0 k)) (hnm : ∀ a, a < N → ∀ b, b < N → a ≠ b → (T a).2.1 ≠ (T b).2.1) (hown : s.vm.findClass own = some m.cls) (hK : XK G s) (hP : va1 G aa (.inr (ci, fs)) H) (hS0 : va_S A H0 H locs) (hA : A aa) (hc : vwCl[ci]? = some (C, T, N)) (k : Nat) (hk : k < N) (hlink : Cond.fieldLink own index ref (T k).2.1 (T k).2.2.1 ∈ Ts) (href : (T k).1 = ref) (hfin : (T k).2.2.2 = false) {v : Value} (hn : narrow (ty0 k) v = v) (hfit : fits (ty0 k) v = true) (hl : k < fs.length) (hdg : decode cc pc = .ok (.putfield index, 3))
    (kk : ∀ (H1 : Heap) (locs1 : List Loc), va1 G aa (.inr (ci, fs.set k v)) H1 → H1.size = H.size → (∀ q, q ≠ aa → H1[q]? = H[q]?) → va_S A H0 H1 locs1 → W p l e R s m args below meth c H1 locs1 cells slots Q (F0 m (pc + 3) ls rest)) : W p l e R s m args below meth c H locs cells slots Q (F0 m pc ls (v :: .ref aa :: rest)) := by
  have hap := va_apart (own := own) hts hin ty0 hty hnm hK.1 hc
  obtain ⟨r, h1, cell, q1, q2, q3, q4⟩ := hP
  have hr : r = (C, T, N) := Option.some.inj (h1.symm.trans hc)
  subst hr
  obtain ⟨hS, hfc, kC, hkC, hkind⟩ := hK.1.1 ci _ hc
  obtain ⟨cf, kf, fi, f, hi, hsl⟩ := hS k hk
  have hlay := hts _ (hin _ (u_in_lay hk))
  unfold u_lay at hlay
  rw [if_neg (by rw [hfin]; decide)] at hlay
  have hst := (u_facts hfc hkC (u_lays hts hin hk) hi).1
  have h6 := u_store hfc hkC hkind hlay hi (hty k hk) hn hfit
  refine W.putK hx hb (f := f) ⟨hown, hts _ hlink, ⟨_, _, _, by rw [← href]; exact hi⟩, hst⟩ (by rw [q2]; exact h6) q1 q3 (by rw [hsl]; exact k2_hasslot (q4 k hk)) rfl rfl hdg fun H' e1 e2 e3 => ?_
  rw [hsl] at e1 ⊢
  exact kk H' _ ⟨_, hc, t_OB.to (V := updV (vp_V fs) k v) ⟨_, e1, q2, q3, t_set q4 hap hk v⟩ (fun j _ => vp_updV_set hl v j)⟩ e2 e3 (hS0.put e2 e3 hA)
theorem x_putN (hx : p.tables.exec = Jvm.exec) (hb : c.code = cc) {own ref C : String} {T : u_T} {N ci index aa : Nat} {Ts : List Cond} {G : XG} {fs : List Value} {A : Nat → Prop} {H0 : Heap} (hts : ∀ w ∈ Ts, w.before args s = true) (hin : ∀ w ∈ u_ws C T N, w ∈ Ts) (ty0 : Nat → FieldType) (hty : ∀ k, k < N → parseFieldDescriptor (T k).2.2.1 = some (ty0 k)) (hnm : ∀ a, a < N → ∀ b, b < N → a ≠ b → (T a).2.1 ≠ (T b).2.1) (hown : s.vm.findClass own = some m.cls) (hK : XK G s) (hP : va1 G aa (.inr (ci, fs)) H) (hS0 : va_S A H0 H locs) (hA : A aa) (hc : vwCl[ci]? = some (C, T, N)) (k : Nat) (hk : k < N) (hlink : Cond.fieldLinkNest own index ref (T k).2.1 (T k).2.2.1 RX3 ∈ xk_nest) (href : (T k).1 = ref) (hfin : (T k).2.2.2 = false) {v : Value} (hn : narrow (ty0 k) v = v) (hfit : fits (ty0 k) v = true) (hl : k < fs.length) (hdg : decode cc pc = .ok (.putfield index, 3))
    (kk : ∀ (H1 : Heap) (locs1 : List Loc), va1 G aa (.inr (ci, fs.set k v)) H1 → H1.size = H.size → (∀ q, q ≠ aa → H1[q]? = H[q]?) → va_S A H0 H1 locs1 → W p l e R s m args below meth c H1 locs1 cells slots Q (F0 m (pc + 3) ls rest)) : W p l e R s m args below meth c H locs cells slots Q (F0 m pc ls (v :: .ref aa :: rest)) := by
  have hap := va_apart (own := own) hts hin ty0 hty hnm hK.1 hc
  obtain ⟨r, h1, cell, q1, q2, q3, q4⟩ := hP
  have hr : r = (C, T, N) := Option.some.inj (h1.symm.trans hc)
  subst hr
  obtain ⟨hS, hfc, kC, hkC, hkind⟩ := hK.1.1 ci _ hc
  obtain ⟨cf, kf, fi, f, hi, hsl⟩ := hS k hk
  have hlay := hts _ (hin _ (u_in_lay hk))
  unfold u_lay at hlay
  rw [if_neg (by rw [hfin]; decide)] at hlay
  have hst := (u_facts hfc hkC (u_lays hts hin hk) hi).1
  have h6 := u_store hfc hkC hkind hlay hi (hty k hk) hn hfit
  refine va_WputK hx hb (f := f) hown (va_Nw.use rfl (hK.2 _ hlink)) (by rw [← href]; exact hi) hst (by rw [q2]; exact h6) q1 q3 (by rw [hsl]; exact k2_hasslot (q4 k hk)) rfl rfl hdg fun H' e1 e2 e3 => ?_
  rw [hsl] at e1 ⊢
  exact kk H' _ ⟨_, hc, t_OB.to (V := updV (vp_V fs) k v) ⟨_, e1, q2, q3, t_set q4 hap hk v⟩ (fun j _ => vp_updV_set hl v j)⟩ e2 e3 (hS0.put e2 e3 hA)
theorem x_iast (hx : p.tables.exec = Jvm.exec) (hb : c.code = cc) {G : XG} {aa n : Nat} {F : Nat → Int} {i x : Int} {A : Nat → Prop} {H0 : Heap} (hK : XK G s) (hP : va1 G aa (eI G n F) H) (hS0 : va_S A H0 H locs) (hA : A aa) (k : Nat) (hi : i = (k : Int)) (hlt : k < n) (hn : n < 2147483648) (hdg : decode cc pc = .ok (.iastore, 1))
    (kk : ∀ (H1 : Heap) (locs1 : List Loc), va1 G aa (eI G n (fun j => if j = k then x else F j)) H1 → H1.size = H.size → (∀ q, q ≠ aa → H1[q]? = H[q]?) → va_S A H0 H1 locs1 → W p l e R s m args below meth c H1 locs1 cells slots Q (F0 m (pc + 1) ls rest)) : W p l e R s m args below meth c H locs cells slots Q (F0 m pc ls (.int (zI x) :: .int (zI i) :: .ref aa :: rest)) := by
  subst hi
  have hin := zI_in hlt hn
  refine W.iast hx hb hP ((hK.1.2 0 _ rfl).1 n (fun j => .int (zI (F j)))) (fun q => by cases q) (by show ¬ (zI (k : Int) < 0 ∨ (arrV _ _ _).slots.size ≤ _); rw [arrV_size]; exact hin) rfl rfl hdg fun H1 e z oq => ?_
  refine kk H1 _ ?_ z oq (hS0.put z oq hA)
  show H1[aa]? = some (vp_cell _ _)
  rw [e]
  rw [vp_cell_i, vp_cell_i, arrV_store]
  congr 2
  funext q
  rw [zI_cl (by omega)]
  by_cases hq : q = k
  · subst hq
    simp [updV]
  · simp [updV, hq]
theorem x_zast (hx : p.tables.exec = Jvm.exec) (hb : c.code = cc) {G : XG} {aa n : Nat} {F : Nat → Int} {i x : Int} {A : Nat → Prop} {H0 : Heap} (hK : XK G s) (hP : va1 G aa (eZ G n F) H) (hS0 : va_S A H0 H locs) (hA : A aa) (k : Nat) (hi : i = (k : Int)) (hlt : k < n) (hn : n < 2147483648) (hnar : narrow .boolean (.int (zI x)) = .int (zI x)) (hdg : decode cc pc = .ok (.bastore, 1))
    (kk : ∀ (H1 : Heap) (locs1 : List Loc), va1 G aa (eZ G n (fun j => if j = k then x else F j)) H1 → H1.size = H.size → (∀ q, q ≠ aa → H1[q]? = H[q]?) → va_S A H0 H1 locs1 → W p l e R s m args below meth c H1 locs1 cells slots Q (F0 m (pc + 1) ls rest)) : W p l e R s m args below meth c H locs cells slots Q (F0 m pc ls (.int (zI x) :: .int (zI i) :: .ref aa :: rest)) := by
  subst hi
  have hin := zI_in hlt hn
  refine W.zast hx hb hP ((hK.1.2 1 _ rfl).1 n (fun j => .int (zI (F j)))) (fun q => by cases q) (by show ¬ (zI (k : Int) < 0 ∨ (arrV _ _ _).slots.size ≤ _); rw [arrV_size]; exact hin) rfl rfl hdg fun H1 e z oq => ?_
  refine kk H1 _ ?_ z oq (hS0.put z oq hA)
  show H1[aa]? = some (vp_cell _ _)
  rw [e, hnar]
  rw [vp_cell_i, vp_cell_i, arrV_store]
  congr 2
  funext q
  rw [zI_cl (by omega)]
  by_cases hq : q = k
  · subst hq
    simp [updV]
  · simp [updV, hq]
/-- a call that only reads: its answer is known -/
theorem x_cI {a : Array Value} {st0 : List Value} {z : Int} (hr : va_Run p l e R s m args below meth c H locs cells slots 0 0 (F0 m pc ls st0) rest (vp_Si (fun r => r = zI z) a) (fun _ => False))
    (kk : W p l e R s m args below meth c H locs cells slots Q (F0 m (pc + 3) ls (.int (zI z) :: rest))) : W p l e R s m args below meth c H locs cells slots Q (F0 m pc ls st0) := by
  intro T hT X
  obtain ⟨v, st₀, t, T', L, h0, X', hL, e1, e2, ⟨r, hv, hp, hh⟩, st⟩ := hr T hT X
  cases hv
  subst hp
  obtain ⟨t2, a1, b1⟩ := kk T' (by rw [e1, hh, h0]) (Stand.forget X' (fun q h => (hL q h).elim))
  exact ⟨t2, st t2 a1, b1⟩
theorem x_cL {a : Array Value} {st0 : List Value} {z : Int} (hr : va_Run p l e R s m args below meth c H locs cells slots 0 0 (F0 m pc ls st0) rest (vp_Sl (fun r => r = lI z) a) (fun _ => False))
    (kk : W p l e R s m args below meth c H locs cells slots Q (F0 m (pc + 3) ls (.long (lI z) :: rest))) : W p l e R s m args below meth c H locs cells slots Q (F0 m pc ls st0) := by
  intro T hT X
  obtain ⟨v, st₀, t, T', L, h0, X', hL, e1, e2, ⟨r, hv, hp, hh⟩, st⟩ := hr T hT X
  cases hv
  subst hp
  obtain ⟨t2, a1, b1⟩ := kk T' (by rw [e1, hh, h0]) (Stand.forget X' (fun q h => (hL q h).elim))
  exact ⟨t2, st t2 a1, b1⟩
end XR2
/-- contracts of methods that only read: an int, a long, that is known -/
abbrev MetI (l : Launch) (y : MethodName) (ws : List Cond) (rm : Room) (Pc : Array Value → State → Prop) (z : Int) : Prop := Met l y ws rm Pc (vp_Si (fun r => r = zI z)) 0 0 (fun _ => False)
abbrev MetL (l : Launch) (y : MethodName) (ws : List Cond) (rm : Room) (Pc : Array Value → State → Prop) (z : Int) : Prop := Met l y ws rm Pc (vp_Sl (fun r => r = lI z)) 0 0 (fun _ => False)
abbrev rmF (f n : Nat) : Room := { frames := f, cells := 0, slots := 0, locals := n }
/-- a start: the arguments, and the JudgedRuns at o -/
abbrev BPc (G : XG) (o : Nat) (b : XB) (lim : Int) (dif : Nat → Int) (av : List Value) : Array Value → State → Prop := va_Pc av (fun U => BW G o b lim dif U.heap ∧ bInv b ∧ XK G U)
/-- a start of which only the arguments count -/
abbrev SPc (av : List Value) : Array Value → State → Prop := va_Pc av (fun _ => True)
theorem x_blindB {G : XG} {o : Nat} {b : XB} {lim : Int} {dif : Nat → Int} {av : List Value} : FrameBlind (BPc G o b lim dif av) := fun a U g mk h => ⟨h.1, h.2.1, h.2.2.1, h.2.2.2.warm (U := U.calling g mk a) (State.WarmedH.refl U)⟩
theorem x_preV {G : XG} {o : Nat} {b : XB} {lim : Int} {dif : Nat → Int} {s : State} {H : Heap} {aa ci : Nat} {q : vw_C} {fs As : List Value} (hW : BW G o b lim dif H) (hi : bInv b) (hK : XK G s) (hP : va1 G aa (.inr (ci, fs)) H) (hc : vwCl[ci]? = some q) : PreV s H q.1 aa (BPc G o b lim dif (.ref aa :: As)) As :=
  ⟨x_blindB, va_recv hK.1 (x_one hP) hc (q0 := 0) rfl, fun U hU hW' => ⟨rfl, by rw [hU]; exact hW, hi, hK.warm hW'⟩⟩
theorem x_preS {s : State} {H : Heap} {As : List Value} : PreS s H (SPc As) As := ⟨fun _ _ _ _ h => h, fun _ _ _ => ⟨rfl, trivial⟩⟩
theorem x_nar {z : Int} (h : 0 ≤ z ∧ z ≤ 1) : narrow .boolean (.int (zI z)) = .int (zI z) := by
  rcases (show z = 0 ∨ z = 1 by omega) with rfl | rfl <;> decide +kernel
theorem x_narB (P : Prop) [Decidable P] : narrow .boolean (.int (zI (bI P))) = .int (zI (bI P)) := x_nar (bI_rng P)
theorem lv_nil {ls : Array Slot} {nL : Nat} {l : List (Nat × Value)} (h : lv_has ls nL l) : lv_has ls nL [] := ⟨h.1, h.2.1, fun q hq => by cases hq⟩
theorem lv_cons {ls : Array Slot} {nL i : Nat} {v : Value} {l : List (Nat × Value)} (h : ls[i]? = some (.val v)) (t : lv_has ls nL l) : lv_has ls nL ((i, v) :: l) := ⟨t.1, t.2.1, fun q hq => by
  rcases List.mem_cons.mp hq with rfl | hq
  · exact h
  · exact t.2.2 q hq⟩
theorem x_at {ls : Array Slot} {i : Nat} {a b : Int} (h : ls[i]? = some (.val (.int (zI a)))) (e : a = b) : ls[i]? = some (.val (.int (zI b))) := e ▸ h
theorem x_atL {ls : Array Slot} {i : Nat} {a b : Int} (h : ls[i]? = some (.val (.long (lI a)))) (e : a = b) : ls[i]? = some (.val (.long (lI b))) := e ▸ h
section XR3
variable {p : Program} {l : Launch} {e : Env} {R : Room} {s : State} {m : MethodId} {args : Array Value} {below : List Frame} {meth : Method} {c : Code} {H : Heap} {locs : List Loc} {cells slots : Nat} {Q : State → Prop} {cc : ByteArray} {pc : Nat} {ls : Array Slot} {rest : List Value}
theorem x_loop1 {A1 : Type} {nL : Nat} (I : A1 → Prop) (μ : A1 → Nat) (loc : A1 → List (Nat × Value)) (a1 : A1) (h0 : I a1) (hl : lv_has ls nL (loc a1)) (step : ∀ (b1 : A1) (ls' : Array Slot), I b1 → lv_has ls' nL (loc b1) → (∀ (c1 : A1) (ls'' : Array Slot), I c1 → μ c1 < μ b1 → lv_has ls'' nL (loc c1) → W p l e R s m args below meth c H locs cells slots Q (F0 m pc ls'' rest)) → W p l e R s m args below meth c H locs cells slots Q (F0 m pc ls' rest)) : W p l e R s m args below meth c H locs cells slots Q (F0 m pc ls rest) := by
  have key : ∀ (n : Nat) (b1 : A1) (ls' : Array Slot), μ b1 < n → I b1 → lv_has ls' nL (loc b1) → W p l e R s m args below meth c H locs cells slots Q (F0 m pc ls' rest) := by
    intro n
    induction n with
    | zero => intro b1 ls' h; exact absurd h (Nat.not_lt_zero _)
    | succ n ih =>
      intro b1 ls' h hI hl
      exact step b1 ls' hI hl (fun c1 ls'' hI' hm hl' => ih c1 ls'' (by omega) hI' hl')
  exact key (μ a1 + 1) a1 ls (Nat.lt_succ_self _) h0 hl
theorem x_loop2 {A1 A2 : Type} {nL : Nat} (I : A1 → A2 → Prop) (μ : A1 → A2 → Nat) (loc : A1 → A2 → List (Nat × Value)) (a1 : A1) (a2 : A2) (h0 : I a1 a2) (hl : lv_has ls nL (loc a1 a2)) (step : ∀ (b1 : A1) (b2 : A2) (ls' : Array Slot), I b1 b2 → lv_has ls' nL (loc b1 b2) → (∀ (c1 : A1) (c2 : A2) (ls'' : Array Slot), I c1 c2 → μ c1 c2 < μ b1 b2 → lv_has ls'' nL (loc c1 c2) → W p l e R s m args below meth c H locs cells slots Q (F0 m pc ls'' rest)) → W p l e R s m args below meth c H locs cells slots Q (F0 m pc ls' rest)) : W p l e R s m args below meth c H locs cells slots Q (F0 m pc ls rest) := by
  have key : ∀ (n : Nat) (b1 : A1) (b2 : A2) (ls' : Array Slot), μ b1 b2 < n → I b1 b2 → lv_has ls' nL (loc b1 b2) → W p l e R s m args below meth c H locs cells slots Q (F0 m pc ls' rest) := by
    intro n
    induction n with
    | zero => intro b1 b2 ls' h; exact absurd h (Nat.not_lt_zero _)
    | succ n ih =>
      intro b1 b2 ls' h hI hl
      exact step b1 b2 ls' hI hl (fun c1 c2 ls'' hI' hm hl' => ih c1 c2 ls'' (by omega) hI' hl')
  exact key (μ a1 a2 + 1) a1 a2 ls (Nat.lt_succ_self _) h0 hl
theorem x_loop3 {A1 A2 A3 : Type} {nL : Nat} (I : A1 → A2 → A3 → Prop) (μ : A1 → A2 → A3 → Nat) (loc : A1 → A2 → A3 → List (Nat × Value)) (a1 : A1) (a2 : A2) (a3 : A3) (h0 : I a1 a2 a3) (hl : lv_has ls nL (loc a1 a2 a3)) (step : ∀ (b1 : A1) (b2 : A2) (b3 : A3) (ls' : Array Slot), I b1 b2 b3 → lv_has ls' nL (loc b1 b2 b3) → (∀ (c1 : A1) (c2 : A2) (c3 : A3) (ls'' : Array Slot), I c1 c2 c3 → μ c1 c2 c3 < μ b1 b2 b3 → lv_has ls'' nL (loc c1 c2 c3) → W p l e R s m args below meth c H locs cells slots Q (F0 m pc ls'' rest)) → W p l e R s m args below meth c H locs cells slots Q (F0 m pc ls' rest)) : W p l e R s m args below meth c H locs cells slots Q (F0 m pc ls rest) := by
  have key : ∀ (n : Nat) (b1 : A1) (b2 : A2) (b3 : A3) (ls' : Array Slot), μ b1 b2 b3 < n → I b1 b2 b3 → lv_has ls' nL (loc b1 b2 b3) → W p l e R s m args below meth c H locs cells slots Q (F0 m pc ls' rest) := by
    intro n
    induction n with
    | zero => intro b1 b2 b3 ls' h; exact absurd h (Nat.not_lt_zero _)
    | succ n ih =>
      intro b1 b2 b3 ls' h hI hl
      exact step b1 b2 b3 ls' hI hl (fun c1 c2 c3 ls'' hI' hm hl' => ih c1 c2 c3 ls'' (by omega) hI' hl')
  exact key (μ a1 a2 a3 + 1) a1 a2 a3 ls (Nat.lt_succ_self _) h0 hl
theorem x_loop4 {A1 A2 A3 A4 : Type} {nL : Nat} (I : A1 → A2 → A3 → A4 → Prop) (μ : A1 → A2 → A3 → A4 → Nat) (loc : A1 → A2 → A3 → A4 → List (Nat × Value)) (a1 : A1) (a2 : A2) (a3 : A3) (a4 : A4) (h0 : I a1 a2 a3 a4) (hl : lv_has ls nL (loc a1 a2 a3 a4)) (step : ∀ (b1 : A1) (b2 : A2) (b3 : A3) (b4 : A4) (ls' : Array Slot), I b1 b2 b3 b4 → lv_has ls' nL (loc b1 b2 b3 b4) → (∀ (c1 : A1) (c2 : A2) (c3 : A3) (c4 : A4) (ls'' : Array Slot), I c1 c2 c3 c4 → μ c1 c2 c3 c4 < μ b1 b2 b3 b4 → lv_has ls'' nL (loc c1 c2 c3 c4) → W p l e R s m args below meth c H locs cells slots Q (F0 m pc ls'' rest)) → W p l e R s m args below meth c H locs cells slots Q (F0 m pc ls' rest)) : W p l e R s m args below meth c H locs cells slots Q (F0 m pc ls rest) := by
  have key : ∀ (n : Nat) (b1 : A1) (b2 : A2) (b3 : A3) (b4 : A4) (ls' : Array Slot), μ b1 b2 b3 b4 < n → I b1 b2 b3 b4 → lv_has ls' nL (loc b1 b2 b3 b4) → W p l e R s m args below meth c H locs cells slots Q (F0 m pc ls' rest) := by
    intro n
    induction n with
    | zero => intro b1 b2 b3 b4 ls' h; exact absurd h (Nat.not_lt_zero _)
    | succ n ih =>
      intro b1 b2 b3 b4 ls' h hI hl
      exact step b1 b2 b3 b4 ls' hI hl (fun c1 c2 c3 c4 ls'' hI' hm hl' => ih c1 c2 c3 c4 ls'' (by omega) hI' hl')
  exact key (μ a1 a2 a3 a4 + 1) a1 a2 a3 a4 ls (Nat.lt_succ_self _) h0 hl
theorem x_loop5 {A1 A2 A3 A4 A5 : Type} {nL : Nat} (I : A1 → A2 → A3 → A4 → A5 → Prop) (μ : A1 → A2 → A3 → A4 → A5 → Nat) (loc : A1 → A2 → A3 → A4 → A5 → List (Nat × Value)) (a1 : A1) (a2 : A2) (a3 : A3) (a4 : A4) (a5 : A5) (h0 : I a1 a2 a3 a4 a5) (hl : lv_has ls nL (loc a1 a2 a3 a4 a5)) (step : ∀ (b1 : A1) (b2 : A2) (b3 : A3) (b4 : A4) (b5 : A5) (ls' : Array Slot), I b1 b2 b3 b4 b5 → lv_has ls' nL (loc b1 b2 b3 b4 b5) → (∀ (c1 : A1) (c2 : A2) (c3 : A3) (c4 : A4) (c5 : A5) (ls'' : Array Slot), I c1 c2 c3 c4 c5 → μ c1 c2 c3 c4 c5 < μ b1 b2 b3 b4 b5 → lv_has ls'' nL (loc c1 c2 c3 c4 c5) → W p l e R s m args below meth c H locs cells slots Q (F0 m pc ls'' rest)) → W p l e R s m args below meth c H locs cells slots Q (F0 m pc ls' rest)) : W p l e R s m args below meth c H locs cells slots Q (F0 m pc ls rest) := by
  have key : ∀ (n : Nat) (b1 : A1) (b2 : A2) (b3 : A3) (b4 : A4) (b5 : A5) (ls' : Array Slot), μ b1 b2 b3 b4 b5 < n → I b1 b2 b3 b4 b5 → lv_has ls' nL (loc b1 b2 b3 b4 b5) → W p l e R s m args below meth c H locs cells slots Q (F0 m pc ls' rest) := by
    intro n
    induction n with
    | zero => intro b1 b2 b3 b4 b5 ls' h; exact absurd h (Nat.not_lt_zero _)
    | succ n ih =>
      intro b1 b2 b3 b4 b5 ls' h hI hl
      exact step b1 b2 b3 b4 b5 ls' hI hl (fun c1 c2 c3 c4 c5 ls'' hI' hm hl' => ih c1 c2 c3 c4 c5 ls'' (by omega) hI' hl')
  exact key (μ a1 a2 a3 a4 a5 + 1) a1 a2 a3 a4 a5 ls (Nat.lt_succ_self _) h0 hl
theorem x_loop6 {A1 A2 A3 A4 A5 A6 : Type} {nL : Nat} (I : A1 → A2 → A3 → A4 → A5 → A6 → Prop) (μ : A1 → A2 → A3 → A4 → A5 → A6 → Nat) (loc : A1 → A2 → A3 → A4 → A5 → A6 → List (Nat × Value)) (a1 : A1) (a2 : A2) (a3 : A3) (a4 : A4) (a5 : A5) (a6 : A6) (h0 : I a1 a2 a3 a4 a5 a6) (hl : lv_has ls nL (loc a1 a2 a3 a4 a5 a6)) (step : ∀ (b1 : A1) (b2 : A2) (b3 : A3) (b4 : A4) (b5 : A5) (b6 : A6) (ls' : Array Slot), I b1 b2 b3 b4 b5 b6 → lv_has ls' nL (loc b1 b2 b3 b4 b5 b6) → (∀ (c1 : A1) (c2 : A2) (c3 : A3) (c4 : A4) (c5 : A5) (c6 : A6) (ls'' : Array Slot), I c1 c2 c3 c4 c5 c6 → μ c1 c2 c3 c4 c5 c6 < μ b1 b2 b3 b4 b5 b6 → lv_has ls'' nL (loc c1 c2 c3 c4 c5 c6) → W p l e R s m args below meth c H locs cells slots Q (F0 m pc ls'' rest)) → W p l e R s m args below meth c H locs cells slots Q (F0 m pc ls' rest)) : W p l e R s m args below meth c H locs cells slots Q (F0 m pc ls rest) := by
  have key : ∀ (n : Nat) (b1 : A1) (b2 : A2) (b3 : A3) (b4 : A4) (b5 : A5) (b6 : A6) (ls' : Array Slot), μ b1 b2 b3 b4 b5 b6 < n → I b1 b2 b3 b4 b5 b6 → lv_has ls' nL (loc b1 b2 b3 b4 b5 b6) → W p l e R s m args below meth c H locs cells slots Q (F0 m pc ls' rest) := by
    intro n
    induction n with
    | zero => intro b1 b2 b3 b4 b5 b6 ls' h; exact absurd h (Nat.not_lt_zero _)
    | succ n ih =>
      intro b1 b2 b3 b4 b5 b6 ls' h hI hl
      exact step b1 b2 b3 b4 b5 b6 ls' hI hl (fun c1 c2 c3 c4 c5 c6 ls'' hI' hm hl' => ih c1 c2 c3 c4 c5 c6 ls'' (by omega) hI' hl')
  exact key (μ a1 a2 a3 a4 a5 a6 + 1) a1 a2 a3 a4 a5 a6 ls (Nat.lt_succ_self _) h0 hl
theorem x_loop7 {A1 A2 A3 A4 A5 A6 A7 : Type} {nL : Nat} (I : A1 → A2 → A3 → A4 → A5 → A6 → A7 → Prop) (μ : A1 → A2 → A3 → A4 → A5 → A6 → A7 → Nat) (loc : A1 → A2 → A3 → A4 → A5 → A6 → A7 → List (Nat × Value)) (a1 : A1) (a2 : A2) (a3 : A3) (a4 : A4) (a5 : A5) (a6 : A6) (a7 : A7) (h0 : I a1 a2 a3 a4 a5 a6 a7) (hl : lv_has ls nL (loc a1 a2 a3 a4 a5 a6 a7)) (step : ∀ (b1 : A1) (b2 : A2) (b3 : A3) (b4 : A4) (b5 : A5) (b6 : A6) (b7 : A7) (ls' : Array Slot), I b1 b2 b3 b4 b5 b6 b7 → lv_has ls' nL (loc b1 b2 b3 b4 b5 b6 b7) → (∀ (c1 : A1) (c2 : A2) (c3 : A3) (c4 : A4) (c5 : A5) (c6 : A6) (c7 : A7) (ls'' : Array Slot), I c1 c2 c3 c4 c5 c6 c7 → μ c1 c2 c3 c4 c5 c6 c7 < μ b1 b2 b3 b4 b5 b6 b7 → lv_has ls'' nL (loc c1 c2 c3 c4 c5 c6 c7) → W p l e R s m args below meth c H locs cells slots Q (F0 m pc ls'' rest)) → W p l e R s m args below meth c H locs cells slots Q (F0 m pc ls' rest)) : W p l e R s m args below meth c H locs cells slots Q (F0 m pc ls rest) := by
  have key : ∀ (n : Nat) (b1 : A1) (b2 : A2) (b3 : A3) (b4 : A4) (b5 : A5) (b6 : A6) (b7 : A7) (ls' : Array Slot), μ b1 b2 b3 b4 b5 b6 b7 < n → I b1 b2 b3 b4 b5 b6 b7 → lv_has ls' nL (loc b1 b2 b3 b4 b5 b6 b7) → W p l e R s m args below meth c H locs cells slots Q (F0 m pc ls' rest) := by
    intro n
    induction n with
    | zero => intro b1 b2 b3 b4 b5 b6 b7 ls' h; exact absurd h (Nat.not_lt_zero _)
    | succ n ih =>
      intro b1 b2 b3 b4 b5 b6 b7 ls' h hI hl
      exact step b1 b2 b3 b4 b5 b6 b7 ls' hI hl (fun c1 c2 c3 c4 c5 c6 c7 ls'' hI' hm hl' => ih c1 c2 c3 c4 c5 c6 c7 ls'' (by omega) hI' hl')
  exact key (μ a1 a2 a3 a4 a5 a6 a7 + 1) a1 a2 a3 a4 a5 a6 a7 ls (Nat.lt_succ_self _) h0 hl
theorem x_retI {z z' : Int} (hx : p.tables.exec = Jvm.exec) (hb : c.code = cc) (hr : meth.sig.returnType = some .int) (hz : z' = z) (hdg : decode cc pc = .ok (.ireturn, 1)) (hlocks : meth.locks = false) : W p l e R s m args below meth c s.heap [] 0 0 (MQ below (vp_Si (fun r => r = zI z)) args s 0 0 (fun _ => False)) (F0 m pc ls [.int (zI z')]) := by
  subst hz
  exact W.iret hx hb hr (fun t ht _ => ⟨_, rfl, rfl, ht⟩) (fun _ h => by cases h) hdg hlocks
theorem x_retB {z z' : Int} (hx : p.tables.exec = Jvm.exec) (hb : c.code = cc) (hr : meth.sig.returnType = some .boolean) (hz : z' = z ∧ 0 ≤ z' ∧ z' ≤ 1) (hdg : decode cc pc = .ok (.ireturn, 1)) (hlocks : meth.locks = false) : W p l e R s m args below meth c s.heap [] 0 0 (MQ below (vp_Si (fun r => r = zI z)) args s 0 0 (fun _ => False)) (F0 m pc ls [.int (zI z')]) := by
  obtain ⟨rfl, hz⟩ := hz
  exact W.zret hx hb hr (x_nar hz) (fun t ht _ => ⟨_, rfl, rfl, ht⟩) (fun _ h => by cases h) hdg hlocks
theorem x_retL {z z' : Int} (hx : p.tables.exec = Jvm.exec) (hb : c.code = cc) (hr : meth.sig.returnType = some .long) (hz : z' = z) (hdg : decode cc pc = .ok (.lreturn, 1)) (hlocks : meth.locks = false) : W p l e R s m args below meth c s.heap [] 0 0 (MQ below (vp_Sl (fun r => r = lI z)) args s 0 0 (fun _ => False)) (F0 m pc ls [.long (lI z')]) := by
  subst hz
  exact W.lret hx hb hr (fun t ht _ => ⟨_, rfl, rfl, ht⟩) (fun _ h => by cases h) hdg hlocks
theorem x_cw (a b : Int) : -2147483648 ≤ cmpZ a b ∧ cmpZ a b < 2147483648 := by have := cmpZ_rng a b; omega
theorem x_min {own : String} {index nL : Nat} {a b : Int} {lst : List (Nat × Value)} {Ts : List Cond} (hx : p.tables.exec = Jvm.exec) (hb : c.code = cc) (hml : c.maxLocals = nL) (hl : lv_has ls nL lst) (hown : s.vm.findClass own = some m.cls) (hts : ∀ w ∈ Ts, w.before args s = true)
    (h1 : ([.methodLink own index Lib.Math.min.name, .static Lib.Math.min.name, .initialized "java/lang/Math", .code Lib.Math.min.name Lib.Math.min.code 2 (some .int)] : List Cond).all (fun w => decide (w ∈ Ts)) = true) (hrm : (rest.map fun v => v.category).sum + 13 ≤ R.locals)
    (hr : -2147483648 ≤ a ∧ a < 2147483648 ∧ -2147483648 ≤ b ∧ b < 2147483648) (hfr : 1 ≤ R.frames) (hcs : cells ≤ R.cells ∧ slots ≤ R.slots) (hdg : decode cc pc = .ok (.invokestatic index, 3))
    (kk : W p l e R s m args below meth c H locs cells slots Q (F0 m (pc + 3) ls (.int (zI (min a b)) :: rest))) : W p l e R s m args below meth c H locs cells slots Q (F0 m pc ls (.int (zI b) :: .int (zI a) :: rest)) := by
  have hm : ∀ w ∈ ([.methodLink own index Lib.Math.min.name, .static Lib.Math.min.name, .initialized "java/lang/Math", .code Lib.Math.min.name Lib.Math.min.code 2 (some .int)] : List Cond), w.before args s = true := fun w hw => hts w (of_decide_eq_true (List.all_eq_true.mp h1 w hw))
  refine va_mmin hx hb (hml.trans hl.1.symm) hown (hm _ List.mem_cons_self) (hm _ (List.mem_cons_of_mem _ List.mem_cons_self)) (hm _ (List.mem_cons_of_mem _ (List.mem_cons_of_mem _ List.mem_cons_self))) (hm _ (List.mem_cons_of_mem _ (List.mem_cons_of_mem _ (List.mem_cons_of_mem _ List.mem_cons_self)))) hfr hrm hcs.1 hcs.2 hdg ?_
  have e : (if zI b < zI a then zI b else zI a) = zI (min a b) := by
    by_cases h : b < a
    · rw [if_pos ((zI_lt ⟨hr.2.2.1, hr.2.2.2, hr.1, hr.2.1⟩).mpr h)]; congr 1; omega
    · rw [if_neg (fun q => h ((zI_lt ⟨hr.2.2.1, hr.2.2.2, hr.1, hr.2.1⟩).mp q))]; congr 1; omega
  rw [e]
  exact kk
theorem x_max {own : String} {index nL : Nat} {a b : Int} {lst : List (Nat × Value)} {Ts : List Cond} (hx : p.tables.exec = Jvm.exec) (hb : c.code = cc) (hml : c.maxLocals = nL) (hl : lv_has ls nL lst) (hown : s.vm.findClass own = some m.cls) (hts : ∀ w ∈ Ts, w.before args s = true)
    (h1 : ([.methodLink own index Lib.Math.max.name, .static Lib.Math.max.name, .initialized "java/lang/Math", .code Lib.Math.max.name Lib.Math.max.code 2 (some .int)] : List Cond).all (fun w => decide (w ∈ Ts)) = true) (hrm : (rest.map fun v => v.category).sum + 13 ≤ R.locals)
    (hr : -2147483648 ≤ a ∧ a < 2147483648 ∧ -2147483648 ≤ b ∧ b < 2147483648) (hfr : 1 ≤ R.frames) (hcs : cells ≤ R.cells ∧ slots ≤ R.slots) (hdg : decode cc pc = .ok (.invokestatic index, 3))
    (kk : W p l e R s m args below meth c H locs cells slots Q (F0 m (pc + 3) ls (.int (zI (max a b)) :: rest))) : W p l e R s m args below meth c H locs cells slots Q (F0 m pc ls (.int (zI b) :: .int (zI a) :: rest)) := by
  have hm : ∀ w ∈ ([.methodLink own index Lib.Math.max.name, .static Lib.Math.max.name, .initialized "java/lang/Math", .code Lib.Math.max.name Lib.Math.max.code 2 (some .int)] : List Cond), w.before args s = true := fun w hw => hts w (of_decide_eq_true (List.all_eq_true.mp h1 w hw))
  refine va_mmax hx hb (hml.trans hl.1.symm) hown (hm _ List.mem_cons_self) (hm _ (List.mem_cons_of_mem _ List.mem_cons_self)) (hm _ (List.mem_cons_of_mem _ (List.mem_cons_of_mem _ List.mem_cons_self))) (hm _ (List.mem_cons_of_mem _ (List.mem_cons_of_mem _ (List.mem_cons_of_mem _ List.mem_cons_self)))) hfr hrm hcs.1 hcs.2 hdg ?_
  have e : (if zI a < zI b then zI b else zI a) = zI (max a b) := by
    by_cases h : a < b
    · rw [if_pos ((zI_lt hr).mpr h)]; congr 1; omega
    · rw [if_neg (fun q => h ((zI_lt hr).mp q))]; congr 1; omega
  rw [e]
  exact kk
end XR3
theorem nk_RX3_106 : Cond.methodLinkNest RX3 106 yX1_reciprocalParts RX3 ∈ xk_nest := List.mem_of_getElem? (i := 0) rfl
theorem nk_RX3_110 : Cond.methodLinkNest RX3 110 yX1_reciprocalWhole RX3 ∈ xk_nest := List.mem_of_getElem? (i := 1) rfl
theorem nk_RX3_124 : Cond.methodLinkNest RX3 124 yX0_restart RX3 ∈ xk_nest := List.mem_of_getElem? (i := 2) rfl
theorem nk_RX3_127 : Cond.methodLinkNest RX3 127 yX0_takeFrom RX3 ∈ xk_nest := List.mem_of_getElem? (i := 3) rfl
theorem nk_RX3_147 : Cond.methodLinkNest RX3 147 yX0_clicksFor RX3 ∈ xk_nest := List.mem_of_getElem? (i := 4) rfl
theorem nk_RX3_15 : Cond.methodLinkNest RX3 15 yX1_init RX3 ∈ xk_nest := List.mem_of_getElem? (i := 5) rfl
theorem nk_RX3_172 : Cond.methodLinkNest RX3 172 yX1_relevantWithin RX3 ∈ xk_nest := List.mem_of_getElem? (i := 6) rfl
theorem nk_RX3_18 : Cond.methodLinkNest RX3 18 yX0_init RX3 ∈ xk_nest := List.mem_of_getElem? (i := 7) rfl
theorem nk_RX3_59 : Cond.methodLinkNest RX3 59 yX2_rankOf RX3 ∈ xk_nest := List.mem_of_getElem? (i := 8) rfl
theorem nk_RX3_65 : Cond.methodLinkNest RX3 65 yX2_endsBelow RX3 ∈ xk_nest := List.mem_of_getElem? (i := 9) rfl
theorem nk_RX3_71 : Cond.methodLinkNest RX3 71 yX2_add RX3 ∈ xk_nest := List.mem_of_getElem? (i := 10) rfl
theorem nk_RX3_78 : Cond.methodLinkNest RX3 78 yX2_documentAt RX3 ∈ xk_nest := List.mem_of_getElem? (i := 11) rfl
theorem nk_RX3_86 : Cond.methodLinkNest RX3 86 yX1_poolSize RX3 ∈ xk_nest := List.mem_of_getElem? (i := 12) rfl
theorem nk_RX3_89 : Cond.methodLinkNest RX3 89 yX1_firstUnjudged RX3 ∈ xk_nest := List.mem_of_getElem? (i := 13) rfl
theorem nk_RX3_96 : Cond.methodLinkNest RX3 96 yX1_meanHitParts RX3 ∈ xk_nest := List.mem_of_getElem? (i := 14) rfl
theorem nk_RX0_38 : Cond.methodLinkNest RX0 38 yX2_documentAt RX3 ∈ xk_nest := List.mem_of_getElem? (i := 15) rfl
theorem nk_RX1_17 : Cond.methodLinkNest RX1 17 yX2_init RX3 ∈ xk_nest := List.mem_of_getElem? (i := 16) rfl
theorem nk_RX1_22 : Cond.methodLinkNest RX1 22 yX2_rankOf RX3 ∈ xk_nest := List.mem_of_getElem? (i := 17) rfl
theorem nk_RX1_30 : Cond.methodLinkNest RX1 30 yX2_documentAt RX3 ∈ xk_nest := List.mem_of_getElem? (i := 18) rfl
theorem nk_RX1_41 : Cond.methodLinkNest RX1 41 yX2_firstTied RX3 ∈ xk_nest := List.mem_of_getElem? (i := 19) rfl
theorem nk_RX1_44 : Cond.methodLinkNest RX1 44 yX2_lastTied RX3 ∈ xk_nest := List.mem_of_getElem? (i := 20) rfl
theorem nk_RX1_70 : Cond.methodLinkNest RX1 70 yX3_subsets RX3 ∈ xk_nest := List.mem_of_getElem? (i := 21) rfl
theorem nk_RX3_131 : Cond.fieldLinkNest RX3 131 "JudgedRuns$CrossedList" "count" "I" RX3 ∈ xk_nest := List.mem_of_getElem? (i := 22) rfl
theorem nk_RX3_138 : Cond.fieldLinkNest RX3 138 "JudgedRuns$CrossedList" "clicked" "[Z" RX3 ∈ xk_nest := List.mem_of_getElem? (i := 23) rfl
theorem nk_RX3_144 : Cond.fieldLinkNest RX3 144 "JudgedRuns$CrossedList" "givers" "[I" RX3 ∈ xk_nest := List.mem_of_getElem? (i := 24) rfl
theorem nk_RX3_44 : Cond.fieldLinkNest RX3 44 "JudgedRuns$Question" "runs" "[LJudgedRuns$Run;" RX3 ∈ xk_nest := List.mem_of_getElem? (i := 25) rfl
theorem nk_RX3_48 : Cond.fieldLinkNest RX3 48 "JudgedRuns$Run" "count" "I" RX3 ∈ xk_nest := List.mem_of_getElem? (i := 26) rfl
theorem nk_RX3_83 : Cond.fieldLinkNest RX3 83 "JudgedRuns$Question" "judgements" "[I" RX3 ∈ xk_nest := List.mem_of_getElem? (i := 27) rfl
theorem nk_RX0_35 : Cond.fieldLinkNest RX0 35 "JudgedRuns$Run" "count" "I" RX3 ∈ xk_nest := List.mem_of_getElem? (i := 28) rfl
theorem nk_RX1_33 : Cond.fieldLinkNest RX1 33 "JudgedRuns$Run" "count" "I" RX3 ∈ xk_nest := List.mem_of_getElem? (i := 29) rfl
