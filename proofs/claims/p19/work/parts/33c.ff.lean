/-! rows of instructions, with the numbers as integers -/
theorem ff_td {x n : Int} (h : 0 < n) : (0 ≤ x ∧ x.tdiv n = x / n) ∨ (x < 0 ∧ x.tdiv n = -((-x) / n)) := by
  rcases Int.lt_or_le x 0 with g | g
  · refine Or.inr ⟨g, ?_⟩
    have h1 : (-x).tdiv n = (-x) / n := Int.tdiv_eq_ediv_of_nonneg (by omega)
    rw [Int.neg_tdiv] at h1
    omega
  · exact Or.inl ⟨g, Int.tdiv_eq_ediv_of_nonneg g⟩
theorem ff_tm {x n : Int} (h : 0 < n) : (0 ≤ x ∧ x - x.tdiv n * n = x % n) ∨ (x < 0 ∧ x - x.tdiv n * n = -((-x) % n)) := by
  rcases ff_td (x := x) h with ⟨g, e⟩ | ⟨g, e⟩
  · refine Or.inl ⟨g, ?_⟩
    rw [e, Int.emod_def, Int.mul_comm]
  · refine Or.inr ⟨g, ?_⟩
    rw [e, Int.emod_def, Int.neg_mul, Int.mul_comm n]
    omega
section FF
variable {p : Program} {l : Launch} {e : Env} {R : Room} {s : State} {m : MethodId} {args : Array Value} {below : List Frame} {meth : Method} {c : Code} {H : Heap} {locs : List Loc} {cells slots : Nat} {Q : State → Prop} {cc : ByteArray} {pc : Nat} {ls : Array Slot} {rest : List Value}
theorem ff_iconst (hx : p.tables.exec = Jvm.exec) (hb : c.code = cc) {n : Int} (hd : decode cc pc = .ok (.iconst n, 1)) (h1 : -128 ≤ n) (h2 : n ≤ 127) (k : ∀ z : Int32, z.toInt = n → W p l e R s m args below meth c H locs cells slots Q (F0 m (pc + 1) ls (.int z :: rest))) : W p l e R s m args below meth c H locs cells slots Q (F0 m pc ls (rest)) := lv_iconst hx hb hd rfl (k _ (zn_ib h1 h2))
theorem ff_bipush (hx : p.tables.exec = Jvm.exec) (hb : c.code = cc) {n : Int} (hd : decode cc pc = .ok (.bipush n, 2)) (h1 : -128 ≤ n) (h2 : n ≤ 127) (k : ∀ z : Int32, z.toInt = n → W p l e R s m args below meth c H locs cells slots Q (F0 m (pc + 2) ls (.int z :: rest))) : W p l e R s m args below meth c H locs cells slots Q (F0 m pc ls (rest)) := lv_bipush hx hb hd rfl (k _ (zn_bp h1 h2))
theorem ff_sipush (hx : p.tables.exec = Jvm.exec) (hb : c.code = cc) {n : Int} (hd : decode cc pc = .ok (.sipush n, 3)) (h1 : -32768 ≤ n) (h2 : n ≤ 32767) (k : ∀ z : Int32, z.toInt = n → W p l e R s m args below meth c H locs cells slots Q (F0 m (pc + 3) ls (.int z :: rest))) : W p l e R s m args below meth c H locs cells slots Q (F0 m pc ls (rest)) := lv_sipush hx hb hd rfl (k _ (zn_sp h1 h2))
theorem ff_lconst (hx : p.tables.exec = Jvm.exec) (hb : c.code = cc) {n : Fin 2} {N : Int} (hd : decode cc pc = .ok (.lconst n, 1)) (hN : ((n : Nat) : Int) = N) (k : ∀ z : Int64, z.toInt = N → W p l e R s m args below meth c H locs cells slots Q (F0 m (pc + 1) ls (.long z :: rest))) : W p l e R s m args below meth c H locs cells slots Q (F0 m pc ls (rest)) := lv_lconst hx hb hd rfl (k _ (by
  subst hN
  match n with
  | 0 => decide
  | 1 => decide))
theorem ff_ldc (hx : p.tables.exec = Jvm.exec) (hb : c.code = cc) {own : String} {idx : Nat} {n : Int} (hown : s.vm.findClass own = some m.cls) (h2 : ∀ w ∈ gT, w.before args s = true) (hc : ∃ x : Int32, Cond.constant own idx x ∈ gT ∧ x.toInt = n) (hd : decode cc pc = .ok (.ldc idx, 2)) (k : ∀ z : Int32, z.toInt = n → W p l e R s m args below meth c H locs cells slots Q (F0 m (pc + 2) ls (.int z :: rest))) : W p l e R s m args below meth c H locs cells slots Q (F0 m pc ls (rest)) := by
  obtain ⟨x, h3, h4⟩ := hc
  exact lv_ldc hx hb hown (h2 _ h3) hd (k x h4)
theorem ff_ldcw (hx : p.tables.exec = Jvm.exec) (hb : c.code = cc) {own : String} {idx : Nat} {n : Int} (hown : s.vm.findClass own = some m.cls) (h2 : ∀ w ∈ gT, w.before args s = true) (hc : ∃ x : Int32, Cond.constant own idx x ∈ gT ∧ x.toInt = n) (hd : decode cc pc = .ok (.ldc_w idx, 3)) (k : ∀ z : Int32, z.toInt = n → W p l e R s m args below meth c H locs cells slots Q (F0 m (pc + 3) ls (.int z :: rest))) : W p l e R s m args below meth c H locs cells slots Q (F0 m pc ls (rest)) := by
  obtain ⟨x, h3, h4⟩ := hc
  exact lv_ldcw hx hb hown (h2 _ h3) hd (k x h4)
theorem ff_ldc2 (hx : p.tables.exec = Jvm.exec) (hb : c.code = cc) {own : String} {idx : Nat} {n : Int} (hown : s.vm.findClass own = some m.cls) (h2 : ∀ w ∈ gT, w.before args s = true) (hc : ∃ x : Int64, Cond.constantLong own idx x ∈ gT ∧ x.toInt = n) (hd : decode cc pc = .ok (.ldc2_w idx, 3)) (k : ∀ z : Int64, z.toInt = n → W p l e R s m args below meth c H locs cells slots Q (F0 m (pc + 3) ls (.long z :: rest))) : W p l e R s m args below meth c H locs cells slots Q (F0 m pc ls (rest)) := by
  obtain ⟨x, h3, h4⟩ := hc
  exact lv_ldc2 hx hb hown (h2 _ h3) hd (k x h4)
theorem ff_iadd (hx : p.tables.exec = Jvm.exec) (hb : c.code = cc) {x y : Int32} (hd : decode cc pc = .ok (.iadd, 1)) (h1 : -2147483648 ≤ x.toInt + y.toInt) (h2 : x.toInt + y.toInt ≤ 2147483647) (k : ∀ z : Int32, z.toInt = x.toInt + y.toInt → W p l e R s m args below meth c H locs cells slots Q (F0 m (pc + 1) ls (.int z :: rest))) : W p l e R s m args below meth c H locs cells slots Q (F0 m pc ls (.int y :: .int x :: rest)) := lv_iadd hx hb hd (k _ (zn_add h1 h2))
theorem ff_isub (hx : p.tables.exec = Jvm.exec) (hb : c.code = cc) {x y : Int32} (hd : decode cc pc = .ok (.isub, 1)) (h1 : -2147483648 ≤ x.toInt - y.toInt) (h2 : x.toInt - y.toInt ≤ 2147483647) (k : ∀ z : Int32, z.toInt = x.toInt - y.toInt → W p l e R s m args below meth c H locs cells slots Q (F0 m (pc + 1) ls (.int z :: rest))) : W p l e R s m args below meth c H locs cells slots Q (F0 m pc ls (.int y :: .int x :: rest)) := lv_isub hx hb hd (k _ (zn_sub h1 h2))
theorem ff_imul (hx : p.tables.exec = Jvm.exec) (hb : c.code = cc) {x y : Int32} (hd : decode cc pc = .ok (.imul, 1)) (h1 : -2147483648 ≤ x.toInt * y.toInt) (h2 : x.toInt * y.toInt ≤ 2147483647) (k : ∀ z : Int32, z.toInt = x.toInt * y.toInt → W p l e R s m args below meth c H locs cells slots Q (F0 m (pc + 1) ls (.int z :: rest))) : W p l e R s m args below meth c H locs cells slots Q (F0 m pc ls (.int y :: .int x :: rest)) := lv_imul hx hb hd (k _ (zn_mul h1 h2))
theorem ff_ineg (hx : p.tables.exec = Jvm.exec) (hb : c.code = cc) {x : Int32} (hd : decode cc pc = .ok (.ineg, 1)) (h1 : -2147483648 ≤ -x.toInt) (h2 : -x.toInt ≤ 2147483647) (k : ∀ z : Int32, z.toInt = -x.toInt → W p l e R s m args below meth c H locs cells slots Q (F0 m (pc + 1) ls (.int z :: rest))) : W p l e R s m args below meth c H locs cells slots Q (F0 m pc ls (.int x :: rest)) := lv_ineg hx hb hd (k _ (zn_neg h1 h2))
theorem ff_idiv (hx : p.tables.exec = Jvm.exec) (hb : c.code = cc) {x y : Int32} {n : Int} (hd : decode cc pc = .ok (.idiv, 1)) (hn : y.toInt = n) (h0 : 0 < n) (k : ∀ z : Int32, (0 ≤ x.toInt ∧ z.toInt = x.toInt / n) ∨ (x.toInt < 0 ∧ z.toInt = -((-x.toInt) / n)) → W p l e R s m args below meth c H locs cells slots Q (F0 m (pc + 1) ls (.int z :: rest))) : W p l e R s m args below meth c H locs cells slots Q (F0 m pc ls (.int y :: .int x :: rest)) := lv_idiv hx hb hd (fun g => by
  subst g
  have z0 : (0 : Int32).toInt = 0 := by decide
  omega) (k _ (by rw [zn_div (by omega), hn]; exact ff_td h0))
theorem ff_irem (hx : p.tables.exec = Jvm.exec) (hb : c.code = cc) {x y : Int32} {n : Int} (hd : decode cc pc = .ok (.irem, 1)) (hn : y.toInt = n) (h0 : 0 < n) (k : ∀ z : Int32, (0 ≤ x.toInt ∧ z.toInt = x.toInt % n) ∨ (x.toInt < 0 ∧ z.toInt = -((-x.toInt) % n)) → W p l e R s m args below meth c H locs cells slots Q (F0 m (pc + 1) ls (.int z :: rest))) : W p l e R s m args below meth c H locs cells slots Q (F0 m pc ls (.int y :: .int x :: rest)) := lv_irem hx hb hd (fun g => by
  subst g
  have z0 : (0 : Int32).toInt = 0 := by decide
  omega) (k _ (by rw [zn_rem (by omega), hn]; exact ff_tm h0))
theorem ff_ladd (hx : p.tables.exec = Jvm.exec) (hb : c.code = cc) {x y : Int64} (hd : decode cc pc = .ok (.ladd, 1)) (h1 : -9223372036854775808 ≤ x.toInt + y.toInt) (h2 : x.toInt + y.toInt ≤ 9223372036854775807) (k : ∀ z : Int64, z.toInt = x.toInt + y.toInt → W p l e R s m args below meth c H locs cells slots Q (F0 m (pc + 1) ls (.long z :: rest))) : W p l e R s m args below meth c H locs cells slots Q (F0 m pc ls (.long y :: .long x :: rest)) := lv_ladd hx hb hd (k _ (zn_addL h1 h2))
theorem ff_lsub (hx : p.tables.exec = Jvm.exec) (hb : c.code = cc) {x y : Int64} (hd : decode cc pc = .ok (.lsub, 1)) (h1 : -9223372036854775808 ≤ x.toInt - y.toInt) (h2 : x.toInt - y.toInt ≤ 9223372036854775807) (k : ∀ z : Int64, z.toInt = x.toInt - y.toInt → W p l e R s m args below meth c H locs cells slots Q (F0 m (pc + 1) ls (.long z :: rest))) : W p l e R s m args below meth c H locs cells slots Q (F0 m pc ls (.long y :: .long x :: rest)) := lv_lsub hx hb hd (k _ (zn_subL h1 h2))
theorem ff_lmul (hx : p.tables.exec = Jvm.exec) (hb : c.code = cc) {x y : Int64} (hd : decode cc pc = .ok (.lmul, 1)) (h1 : -9223372036854775808 ≤ x.toInt * y.toInt) (h2 : x.toInt * y.toInt ≤ 9223372036854775807) (k : ∀ z : Int64, z.toInt = x.toInt * y.toInt → W p l e R s m args below meth c H locs cells slots Q (F0 m (pc + 1) ls (.long z :: rest))) : W p l e R s m args below meth c H locs cells slots Q (F0 m pc ls (.long y :: .long x :: rest)) := lv_lmul hx hb hd (k _ (zn_mulL h1 h2))
theorem ff_lneg (hx : p.tables.exec = Jvm.exec) (hb : c.code = cc) {x : Int64} (hd : decode cc pc = .ok (.lneg, 1)) (h1 : -9223372036854775808 ≤ -x.toInt) (h2 : -x.toInt ≤ 9223372036854775807) (k : ∀ z : Int64, z.toInt = -x.toInt → W p l e R s m args below meth c H locs cells slots Q (F0 m (pc + 1) ls (.long z :: rest))) : W p l e R s m args below meth c H locs cells slots Q (F0 m pc ls (.long x :: rest)) := lv_lneg hx hb hd (k _ (zn_negL h1 h2))
theorem ff_ldiv (hx : p.tables.exec = Jvm.exec) (hb : c.code = cc) {x y : Int64} {n : Int} (hd : decode cc pc = .ok (.ldiv, 1)) (hn : y.toInt = n) (h0 : 0 < n) (k : ∀ z : Int64, (0 ≤ x.toInt ∧ z.toInt = x.toInt / n) ∨ (x.toInt < 0 ∧ z.toInt = -((-x.toInt) / n)) → W p l e R s m args below meth c H locs cells slots Q (F0 m (pc + 1) ls (.long z :: rest))) : W p l e R s m args below meth c H locs cells slots Q (F0 m pc ls (.long y :: .long x :: rest)) := lv_ldiv hx hb hd (fun g => by
  subst g
  have z0 : (0 : Int64).toInt = 0 := by decide
  omega) (k _ (by rw [zn_divL (by omega), hn]; exact ff_td h0))
theorem ff_lrem (hx : p.tables.exec = Jvm.exec) (hb : c.code = cc) {x y : Int64} {n : Int} (hd : decode cc pc = .ok (.lrem, 1)) (hn : y.toInt = n) (h0 : 0 < n) (k : ∀ z : Int64, (0 ≤ x.toInt ∧ z.toInt = x.toInt % n) ∨ (x.toInt < 0 ∧ z.toInt = -((-x.toInt) % n)) → W p l e R s m args below meth c H locs cells slots Q (F0 m (pc + 1) ls (.long z :: rest))) : W p l e R s m args below meth c H locs cells slots Q (F0 m pc ls (.long y :: .long x :: rest)) := lv_lrem hx hb hd (fun g => by
  subst g
  have z0 : (0 : Int64).toInt = 0 := by decide
  omega) (k _ (by rw [zn_remL (by omega), hn]; exact ff_tm h0))
theorem ff_i2l (hx : p.tables.exec = Jvm.exec) (hb : c.code = cc) {x : Int32} (hd : decode cc pc = .ok (.i2l, 1)) (k : ∀ z : Int64, z.toInt = x.toInt → W p l e R s m args below meth c H locs cells slots Q (F0 m (pc + 1) ls (.long z :: rest))) : W p l e R s m args below meth c H locs cells slots Q (F0 m pc ls (.int x :: rest)) := lv_i2l hx hb hd rfl (k _ (zn_i2l x))
theorem ff_l2i (hx : p.tables.exec = Jvm.exec) (hb : c.code = cc) {x : Int64} (hd : decode cc pc = .ok (.l2i, 1)) (h1 : -2147483648 ≤ x.toInt) (h2 : x.toInt ≤ 2147483647) (k : ∀ z : Int32, z.toInt = x.toInt → W p l e R s m args below meth c H locs cells slots Q (F0 m (pc + 1) ls (.int z :: rest))) : W p l e R s m args below meth c H locs cells slots Q (F0 m pc ls (.long x :: rest)) := lv_l2i hx hb hd rfl (k _ (zn_l2i h1 h2))
theorem ff_lcmp (hx : p.tables.exec = Jvm.exec) (hb : c.code = cc) {x y : Int64} (hd : decode cc pc = .ok (.lcmp, 1)) (k : ∀ z : Int32, (z.toInt = 1 ∧ y.toInt < x.toInt) ∨ (z.toInt = 0 ∧ x.toInt = y.toInt) ∨ (z.toInt = -1 ∧ x.toInt < y.toInt) → W p l e R s m args below meth c H locs cells slots Q (F0 m (pc + 1) ls (.int z :: rest))) : W p l e R s m args below meth c H locs cells slots Q (F0 m pc ls (.long y :: .long x :: rest)) := W.lcmp hx hb hd (k _ (by
  rw [zn_sg]
  rcases Int.lt_trichotomy x.toInt y.toInt with g | g | g
  · exact Or.inr (Or.inr ⟨Int.sign_eq_neg_one_of_neg (by omega), g⟩)
  · exact Or.inr (Or.inl ⟨by rw [g, Int.sub_self]; rfl, g⟩)
  · exact Or.inl ⟨Int.sign_eq_one_of_pos (by omega), g⟩))
theorem ff_if_eq (hx : p.tables.exec = Jvm.exec) (hb : c.code = cc) {x : Int32} {off : Int} {tgt : Nat} (hd : decode cc pc = .ok (.ifCond .eq off, 3)) (ht : (pc : Int) + off = (tgt : Int)) (k1 : x.toInt = 0 → W p l e R s m args below meth c H locs cells slots Q (F0 m tgt ls (rest))) (k2 : x.toInt ≠ 0 → W p l e R s m args below meth c H locs cells slots Q (F0 m (pc + 3) ls (rest))) : W p l e R s m args below meth c H locs cells slots Q (F0 m pc ls (.int x :: rest)) := lv_if_eq hx hb hd ht (fun g => k1 (by rw [g]; decide)) (fun g => k2 (fun q => g (Int32.toInt_inj.mp (by rw [q]; decide))))
theorem ff_icmp_eq (hx : p.tables.exec = Jvm.exec) (hb : c.code = cc) {x y : Int32} {off : Int} {tgt : Nat} (hd : decode cc pc = .ok (.if_icmp .eq off, 3)) (ht : (pc : Int) + off = (tgt : Int)) (k1 : x.toInt = y.toInt → W p l e R s m args below meth c H locs cells slots Q (F0 m tgt ls (rest))) (k2 : x.toInt ≠ y.toInt → W p l e R s m args below meth c H locs cells slots Q (F0 m (pc + 3) ls (rest))) : W p l e R s m args below meth c H locs cells slots Q (F0 m pc ls (.int y :: .int x :: rest)) := lv_icmp_eq hx hb hd ht (fun g => k1 (by rw [g])) (fun g => k2 (fun q => g (Int32.toInt_inj.mp (by rw [q]))))
theorem ff_if_ne (hx : p.tables.exec = Jvm.exec) (hb : c.code = cc) {x : Int32} {off : Int} {tgt : Nat} (hd : decode cc pc = .ok (.ifCond .ne off, 3)) (ht : (pc : Int) + off = (tgt : Int)) (k1 : x.toInt ≠ 0 → W p l e R s m args below meth c H locs cells slots Q (F0 m tgt ls (rest))) (k2 : x.toInt = 0 → W p l e R s m args below meth c H locs cells slots Q (F0 m (pc + 3) ls (rest))) : W p l e R s m args below meth c H locs cells slots Q (F0 m pc ls (.int x :: rest)) := lv_if_ne hx hb hd ht (fun g => k1 (fun q => g (Int32.toInt_inj.mp (by rw [q]; decide)))) (fun g => k2 (by rw [g]; decide))
theorem ff_icmp_ne (hx : p.tables.exec = Jvm.exec) (hb : c.code = cc) {x y : Int32} {off : Int} {tgt : Nat} (hd : decode cc pc = .ok (.if_icmp .ne off, 3)) (ht : (pc : Int) + off = (tgt : Int)) (k1 : x.toInt ≠ y.toInt → W p l e R s m args below meth c H locs cells slots Q (F0 m tgt ls (rest))) (k2 : x.toInt = y.toInt → W p l e R s m args below meth c H locs cells slots Q (F0 m (pc + 3) ls (rest))) : W p l e R s m args below meth c H locs cells slots Q (F0 m pc ls (.int y :: .int x :: rest)) := lv_icmp_ne hx hb hd ht (fun g => k1 (fun q => g (Int32.toInt_inj.mp (by rw [q])))) (fun g => k2 (by rw [g]))
theorem ff_if_lt (hx : p.tables.exec = Jvm.exec) (hb : c.code = cc) {x : Int32} {off : Int} {tgt : Nat} (hd : decode cc pc = .ok (.ifCond .lt off, 3)) (ht : (pc : Int) + off = (tgt : Int)) (k1 : x.toInt < 0 → W p l e R s m args below meth c H locs cells slots Q (F0 m tgt ls (rest))) (k2 : 0 ≤ x.toInt → W p l e R s m args below meth c H locs cells slots Q (F0 m (pc + 3) ls (rest))) : W p l e R s m args below meth c H locs cells slots Q (F0 m pc ls (.int x :: rest)) := lv_if_lt hx hb hd ht (fun g => k1 (by
    have g := Int32.lt_iff_toInt_lt.mp g
    have z0 : (0 : Int32).toInt = 0 := by decide
    omega)) (fun g => k2 (by
    have g : ¬ (x.toInt < (0 : Int32).toInt) := fun q => g (Int32.lt_iff_toInt_lt.mpr q)
    have z0 : (0 : Int32).toInt = 0 := by decide
    omega))
theorem ff_icmp_lt (hx : p.tables.exec = Jvm.exec) (hb : c.code = cc) {x y : Int32} {off : Int} {tgt : Nat} (hd : decode cc pc = .ok (.if_icmp .lt off, 3)) (ht : (pc : Int) + off = (tgt : Int)) (k1 : x.toInt < y.toInt → W p l e R s m args below meth c H locs cells slots Q (F0 m tgt ls (rest))) (k2 : y.toInt ≤ x.toInt → W p l e R s m args below meth c H locs cells slots Q (F0 m (pc + 3) ls (rest))) : W p l e R s m args below meth c H locs cells slots Q (F0 m pc ls (.int y :: .int x :: rest)) := lv_icmp_lt hx hb hd ht (fun g => k1 (by
    have g := Int32.lt_iff_toInt_lt.mp g
    have z0 : (0 : Int32).toInt = 0 := by decide
    omega)) (fun g => k2 (by
    have g : ¬ (x.toInt < y.toInt) := fun q => g (Int32.lt_iff_toInt_lt.mpr q)
    have z0 : (0 : Int32).toInt = 0 := by decide
    omega))
theorem ff_if_ge (hx : p.tables.exec = Jvm.exec) (hb : c.code = cc) {x : Int32} {off : Int} {tgt : Nat} (hd : decode cc pc = .ok (.ifCond .ge off, 3)) (ht : (pc : Int) + off = (tgt : Int)) (k1 : 0 ≤ x.toInt → W p l e R s m args below meth c H locs cells slots Q (F0 m tgt ls (rest))) (k2 : x.toInt < 0 → W p l e R s m args below meth c H locs cells slots Q (F0 m (pc + 3) ls (rest))) : W p l e R s m args below meth c H locs cells slots Q (F0 m pc ls (.int x :: rest)) := lv_if_ge hx hb hd ht (fun g => k1 (by
    have g := Int32.le_iff_toInt_le.mp g
    have z0 : (0 : Int32).toInt = 0 := by decide
    omega)) (fun g => k2 (by
    have g : ¬ ((0 : Int32).toInt ≤ x.toInt) := fun q => g (Int32.le_iff_toInt_le.mpr q)
    have z0 : (0 : Int32).toInt = 0 := by decide
    omega))
theorem ff_icmp_ge (hx : p.tables.exec = Jvm.exec) (hb : c.code = cc) {x y : Int32} {off : Int} {tgt : Nat} (hd : decode cc pc = .ok (.if_icmp .ge off, 3)) (ht : (pc : Int) + off = (tgt : Int)) (k1 : y.toInt ≤ x.toInt → W p l e R s m args below meth c H locs cells slots Q (F0 m tgt ls (rest))) (k2 : x.toInt < y.toInt → W p l e R s m args below meth c H locs cells slots Q (F0 m (pc + 3) ls (rest))) : W p l e R s m args below meth c H locs cells slots Q (F0 m pc ls (.int y :: .int x :: rest)) := lv_icmp_ge hx hb hd ht (fun g => k1 (by
    have g := Int32.le_iff_toInt_le.mp g
    have z0 : (0 : Int32).toInt = 0 := by decide
    omega)) (fun g => k2 (by
    have g : ¬ (y.toInt ≤ x.toInt) := fun q => g (Int32.le_iff_toInt_le.mpr q)
    have z0 : (0 : Int32).toInt = 0 := by decide
    omega))
theorem ff_if_gt (hx : p.tables.exec = Jvm.exec) (hb : c.code = cc) {x : Int32} {off : Int} {tgt : Nat} (hd : decode cc pc = .ok (.ifCond .gt off, 3)) (ht : (pc : Int) + off = (tgt : Int)) (k1 : 0 < x.toInt → W p l e R s m args below meth c H locs cells slots Q (F0 m tgt ls (rest))) (k2 : x.toInt ≤ 0 → W p l e R s m args below meth c H locs cells slots Q (F0 m (pc + 3) ls (rest))) : W p l e R s m args below meth c H locs cells slots Q (F0 m pc ls (.int x :: rest)) := lv_if_gt hx hb hd ht (fun g => k1 (by
    have g := Int32.lt_iff_toInt_lt.mp g
    have z0 : (0 : Int32).toInt = 0 := by decide
    omega)) (fun g => k2 (by
    have g : ¬ ((0 : Int32).toInt < x.toInt) := fun q => g (Int32.lt_iff_toInt_lt.mpr q)
    have z0 : (0 : Int32).toInt = 0 := by decide
    omega))
theorem ff_icmp_gt (hx : p.tables.exec = Jvm.exec) (hb : c.code = cc) {x y : Int32} {off : Int} {tgt : Nat} (hd : decode cc pc = .ok (.if_icmp .gt off, 3)) (ht : (pc : Int) + off = (tgt : Int)) (k1 : y.toInt < x.toInt → W p l e R s m args below meth c H locs cells slots Q (F0 m tgt ls (rest))) (k2 : x.toInt ≤ y.toInt → W p l e R s m args below meth c H locs cells slots Q (F0 m (pc + 3) ls (rest))) : W p l e R s m args below meth c H locs cells slots Q (F0 m pc ls (.int y :: .int x :: rest)) := lv_icmp_gt hx hb hd ht (fun g => k1 (by
    have g := Int32.lt_iff_toInt_lt.mp g
    have z0 : (0 : Int32).toInt = 0 := by decide
    omega)) (fun g => k2 (by
    have g : ¬ (y.toInt < x.toInt) := fun q => g (Int32.lt_iff_toInt_lt.mpr q)
    have z0 : (0 : Int32).toInt = 0 := by decide
    omega))
theorem ff_if_le (hx : p.tables.exec = Jvm.exec) (hb : c.code = cc) {x : Int32} {off : Int} {tgt : Nat} (hd : decode cc pc = .ok (.ifCond .le off, 3)) (ht : (pc : Int) + off = (tgt : Int)) (k1 : x.toInt ≤ 0 → W p l e R s m args below meth c H locs cells slots Q (F0 m tgt ls (rest))) (k2 : 0 < x.toInt → W p l e R s m args below meth c H locs cells slots Q (F0 m (pc + 3) ls (rest))) : W p l e R s m args below meth c H locs cells slots Q (F0 m pc ls (.int x :: rest)) := lv_if_le hx hb hd ht (fun g => k1 (by
    have g := Int32.le_iff_toInt_le.mp g
    have z0 : (0 : Int32).toInt = 0 := by decide
    omega)) (fun g => k2 (by
    have g : ¬ (x.toInt ≤ (0 : Int32).toInt) := fun q => g (Int32.le_iff_toInt_le.mpr q)
    have z0 : (0 : Int32).toInt = 0 := by decide
    omega))
theorem ff_icmp_le (hx : p.tables.exec = Jvm.exec) (hb : c.code = cc) {x y : Int32} {off : Int} {tgt : Nat} (hd : decode cc pc = .ok (.if_icmp .le off, 3)) (ht : (pc : Int) + off = (tgt : Int)) (k1 : x.toInt ≤ y.toInt → W p l e R s m args below meth c H locs cells slots Q (F0 m tgt ls (rest))) (k2 : y.toInt < x.toInt → W p l e R s m args below meth c H locs cells slots Q (F0 m (pc + 3) ls (rest))) : W p l e R s m args below meth c H locs cells slots Q (F0 m pc ls (.int y :: .int x :: rest)) := lv_icmp_le hx hb hd ht (fun g => k1 (by
    have g := Int32.le_iff_toInt_le.mp g
    have z0 : (0 : Int32).toInt = 0 := by decide
    omega)) (fun g => k2 (by
    have g : ¬ (x.toInt ≤ y.toInt) := fun q => g (Int32.le_iff_toInt_le.mpr q)
    have z0 : (0 : Int32).toInt = 0 := by decide
    omega))
end FF
