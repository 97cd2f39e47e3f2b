section ZBG
variable {p : Program} {l : Launch} {e : Env} {R : Room} {s : State} {m : MethodId} {args : Array Value} {below : List Frame} {meth : Method} {c : Code} {H : Heap} {locs : List Loc} {cells slots : Nat} {Q : State → Prop} {cc : ByteArray} {pc : Nat} {ls : Array Slot} {rest : List Value}
theorem zu_gs {own C n d : String} {idx : Nat} {v : Value} {A : Nat → Prop} (hx : p.tables.exec = Jvm.exec) (hb : c.code = cc) (hown : s.vm.findClass own = some m.cls) (hz : va_Z C n d v A s H) (hl : (Cond.fieldLink own idx C n d).before args s = true) (hd : decode cc pc = .ok (.getstatic idx, 3)) (k : W p l e R s m args below meth c H locs cells slots Q (F0 m (pc + 3) ls (v :: rest))) : W p l e R s m args below meth c H locs cells slots Q (F0 m pc ls rest) := by
  obtain ⟨cf, kf, fi, f, a0, cell, h1, h2, h3, h4, h5, h6, h7, -⟩ := hz
  exact W.gets hx hb hown hl h1 h2 h3 h4 h5 (fun q => by rw [q] at h6; cases h6) h7 rfl hd k
theorem zu_bm {a : Nat} {cell : Cell} {q9 : Prop} {j : Int32} {J : Int} (hx : p.tables.exec = Jvm.exec) (hb : c.code = cc) (hc : H[a]? = some cell) (hz : ∀ j, j < 13 → ∃ y : Int32, cell.slots[j]? = some (.int y) ∧ y.toInt = bm j) (hA : s.isArrayOf cell .int ∧ cell.vm ≠ .unknown ∧ 13 ≤ cell.slots.size ∧ q9) (h1 : 0 ≤ J) (h2 : J ≤ 12) (hJ : j.toInt = J) (hd : decode cc pc = .ok (.iaload, 1)) (k : ∀ y : Int32, 0 ≤ y.toInt ∧ y.toInt ≤ 365 ∧ y.toInt = bm J.toNat → W p l e R s m args below meth c H locs cells slots Q (F0 m (pc + 1) ls (.int y :: rest))) : W p l e R s m args below meth c H locs cells slots Q (F0 m pc ls (.int j :: .ref a :: rest)) := by
  have hv : vp_in j 13 := vp_in_iff.mpr ⟨by omega, by omega⟩
  have hlt : j.toNatClampNeg < 13 := Nat.not_le.mp fun q => hv (Or.inr q)
  obtain ⟨y, e1, e2⟩ := hz _ hlt
  have ej : j.toNatClampNeg = J.toNat := by show j.toInt.toNat = J.toNat; rw [hJ]
  refine W.iald hx hb hc hA.1 hA.2.1 (fun g => hv (g.imp id (Nat.le_trans hA.2.2.1))) e1 rfl rfl hd (k y ?_)
  rw [ej] at e2
  have hb : 0 ≤ bm J.toNat ∧ bm J.toNat ≤ 365 := by
    generalize J.toNat = n
    unfold bm
    split <;> omega
  exact ⟨by omega, by omega, e2⟩
theorem ff_imulL {x y : Int32} {n : Int} (hx : p.tables.exec = Jvm.exec) (hb : c.code = cc) (hd : decode cc pc = .ok (.imul, 1)) (hn : x.toInt = n) (h1 : -2147483648 ≤ n * y.toInt) (h2 : n * y.toInt ≤ 2147483647) (k : ∀ z : Int32, z.toInt = n * y.toInt → W p l e R s m args below meth c H locs cells slots Q (F0 m (pc + 1) ls (.int z :: rest))) : W p l e R s m args below meth c H locs cells slots Q (F0 m pc ls (.int y :: .int x :: rest)) := ff_imul hx hb hd (by rw [hn]; exact h1) (by rw [hn]; exact h2) (fun z e => k z (by rw [e, hn]))
theorem ff_imulR {x y : Int32} {n : Int} (hx : p.tables.exec = Jvm.exec) (hb : c.code = cc) (hd : decode cc pc = .ok (.imul, 1)) (hn : y.toInt = n) (h1 : -2147483648 ≤ x.toInt * n) (h2 : x.toInt * n ≤ 2147483647) (k : ∀ z : Int32, z.toInt = x.toInt * n → W p l e R s m args below meth c H locs cells slots Q (F0 m (pc + 1) ls (.int z :: rest))) : W p l e R s m args below meth c H locs cells slots Q (F0 m pc ls (.int y :: .int x :: rest)) := ff_imul hx hb hd (by rw [hn]; exact h1) (by rw [hn]; exact h2) (fun z e => k z (by rw [e, hn]))
theorem ff_lmulL {x y : Int64} {n : Int} (hx : p.tables.exec = Jvm.exec) (hb : c.code = cc) (hd : decode cc pc = .ok (.lmul, 1)) (hn : x.toInt = n) (h1 : -9223372036854775808 ≤ n * y.toInt) (h2 : n * y.toInt ≤ 9223372036854775807) (k : ∀ z : Int64, z.toInt = n * y.toInt → W p l e R s m args below meth c H locs cells slots Q (F0 m (pc + 1) ls (.long z :: rest))) : W p l e R s m args below meth c H locs cells slots Q (F0 m pc ls (.long y :: .long x :: rest)) := ff_lmul hx hb hd (by rw [hn]; exact h1) (by rw [hn]; exact h2) (fun z e => k z (by rw [e, hn]))
theorem ff_lmulR {x y : Int64} {n : Int} (hx : p.tables.exec = Jvm.exec) (hb : c.code = cc) (hd : decode cc pc = .ok (.lmul, 1)) (hn : y.toInt = n) (h1 : -9223372036854775808 ≤ x.toInt * n) (h2 : x.toInt * n ≤ 9223372036854775807) (k : ∀ z : Int64, z.toInt = x.toInt * n → W p l e R s m args below meth c H locs cells slots Q (F0 m (pc + 1) ls (.long z :: rest))) : W p l e R s m args below meth c H locs cells slots Q (F0 m pc ls (.long y :: .long x :: rest)) := ff_lmul hx hb hd (by rw [hn]; exact h1) (by rw [hn]; exact h2) (fun z e => k z (by rw [e, hn]))
theorem ff_ldivP {x y : Int64} {n : Int} (hx : p.tables.exec = Jvm.exec) (hb : c.code = cc) (hd : decode cc pc = .ok (.ldiv, 1)) (hp : 0 ≤ x.toInt) (hn : y.toInt = n) (h0 : 0 < n) (k : ∀ z : Int64, z.toInt = x.toInt / n → W p l e R s m args below meth c H locs cells slots Q (F0 m (pc + 1) ls (.long z :: rest))) : W p l e R s m args below meth c H locs cells slots Q (F0 m pc ls (.long y :: .long x :: rest)) := ff_ldiv hx hb hd hn h0 (fun z e => k z (by rcases e with e | e; exact e.2; exact absurd hp (by omega)))
theorem ff_idivP {x y : Int32} {n : Int} (hx : p.tables.exec = Jvm.exec) (hb : c.code = cc) (hd : decode cc pc = .ok (.idiv, 1)) (hp : 0 ≤ x.toInt) (hn : y.toInt = n) (h0 : 0 < n) (k : ∀ z : Int32, z.toInt = x.toInt / n → W p l e R s m args below meth c H locs cells slots Q (F0 m (pc + 1) ls (.int z :: rest))) : W p l e R s m args below meth c H locs cells slots Q (F0 m pc ls (.int y :: .int x :: rest)) := ff_idiv hx hb hd hn h0 (fun z e => k z (by rcases e with e | e; exact e.2; exact absurd hp (by omega)))
theorem ff_iremP {x y : Int32} {n : Int} (hx : p.tables.exec = Jvm.exec) (hb : c.code = cc) (hd : decode cc pc = .ok (.irem, 1)) (hp : 0 ≤ x.toInt) (hn : y.toInt = n) (h0 : 0 < n) (k : ∀ z : Int32, z.toInt = x.toInt % n → W p l e R s m args below meth c H locs cells slots Q (F0 m (pc + 1) ls (.int z :: rest))) : W p l e R s m args below meth c H locs cells slots Q (F0 m pc ls (.int y :: .int x :: rest)) := ff_irem hx hb hd hn h0 (fun z e => k z (by rcases e with e | e; exact e.2; exact absurd hp (by omega)))
end ZBG
set_option maxRecDepth 100000 in
set_option maxHeartbeats 4000000 in
theorem hX2_holdsYear (l : Launch) (y : Int32)  : zu_M l yX2_holdsYear (gW yX2_holdsYear cX2_holdsYear 1 (some .boolean)) { frames := 0, cells := 0, slots := 0, locals := 0 } (fun vs => vs = [.int y]) zT (fun _ w => ∃ r : Int32, w = .int r ∧ ((r.toInt = 1 ∧ -999999 ≤ y.toInt ∧ y.toInt ≤ 999999) ∨ (r.toInt = 0 ∧ (y.toInt < -999999 ∨ 999999 < y.toInt)))) := by
  refine zy_ofW (cc := cX2_holdsYear) (maxL := 1) (ret := (some .boolean)) (by decide +kernel) rfl ?_
  intro p e s m args below meth c s1 B hml hv
  obtain ⟨vs, rfl, rfl, hKp⟩ := hv
  have hx := B.exec
  have hb := B.bytes
  have hr := B.returns
  have hlk := B.notSynchronized
  have hts0 := atoms_spec (ws := gW yX2_holdsYear cX2_holdsYear 1 (some .boolean)) B.pre
  have h2 : ∀ w ∈ gT, w.before ([.int y] : List Value).toArray s = true := fun w hw => hts0 w (List.mem_cons_of_mem _ hw)
  have hown : s.vm.findClass RX2 = some m.cls := findClass_of_methodNamed B.named
  have hl := lv_entry [.int y] (n := 1) (Nat.le_of_ble_eq_true rfl)
  rw [lg_entry_eq]
  generalize (lg_sl [.int y] ++ List.replicate (1 - (lg_sl [.int y]).length) Slot.unset).toArray = ls at hl ⊢
  have b_y := zn_i32 y
  refine lv_iload_n hx hb (eX2_holdsYear (0, .iload_n 0, 1) (List.mem_of_getElem? (i := 0) rfl)) rfl (lv_at hl 0 rfl) ?_
  refine ff_ldc (n := (-999999)) hx hb hown h2 (ciX2_ok 19 (-999999) (List.mem_of_getElem? (i := 0) rfl)) (eX2_holdsYear (1, .ldc 19, 2) (List.mem_of_getElem? (i := 1) rfl)) (fun v1 e1 => ?_)
  refine ff_icmp_lt hx hb (eX2_holdsYear (3, .if_icmp .lt 13, 3) (List.mem_of_getElem? (i := 2) rfl)) (tgt := 16) rfl (fun c2 => ?_) (fun c2 => ?_)
  · skip
    refine ff_iconst hx hb (eX2_holdsYear (16, .iconst 0, 1) (List.mem_of_getElem? (i := 8) rfl)) (by decide) (by decide) (fun v3 e3 => ?_)
    exact zu_iret (y := yX2_holdsYear) (ws := []) (rm := {}) hx hb hr hlk (zn_bool (by omega) (by omega)) ⟨_, rfl, by omega⟩ (eX2_holdsYear (17, .ireturn, 1) (List.mem_of_getElem? (i := 9) rfl))
  · skip
    refine lv_iload_n hx hb (eX2_holdsYear (6, .iload_n 0, 1) (List.mem_of_getElem? (i := 3) rfl)) rfl (lv_at hl 0 rfl) ?_
    refine ff_ldc (n := 999999) hx hb hown h2 (ciX2_ok 20 999999 (List.mem_of_getElem? (i := 1) rfl)) (eX2_holdsYear (7, .ldc 20, 2) (List.mem_of_getElem? (i := 4) rfl)) (fun v4 e4 => ?_)
    refine ff_icmp_gt hx hb (eX2_holdsYear (9, .if_icmp .gt 7, 3) (List.mem_of_getElem? (i := 5) rfl)) (tgt := 16) rfl (fun c5 => ?_) (fun c5 => ?_)
    · skip
      refine ff_iconst hx hb (eX2_holdsYear (16, .iconst 0, 1) (List.mem_of_getElem? (i := 8) rfl)) (by decide) (by decide) (fun v6 e6 => ?_)
      exact zu_iret (y := yX2_holdsYear) (ws := []) (rm := {}) hx hb hr hlk (zn_bool (by omega) (by omega)) ⟨_, rfl, by omega⟩ (eX2_holdsYear (17, .ireturn, 1) (List.mem_of_getElem? (i := 9) rfl))
    · skip
      refine ff_iconst hx hb (eX2_holdsYear (12, .iconst 1, 1) (List.mem_of_getElem? (i := 6) rfl)) (by decide) (by decide) (fun v7 e7 => ?_)
      refine lv_goto hx hb (eX2_holdsYear (13, .goto 4, 3) (List.mem_of_getElem? (i := 7) rfl)) (tgt := 17) rfl ?_
      exact zu_iret (y := yX2_holdsYear) (ws := []) (rm := {}) hx hb hr hlk (zn_bool (by omega) (by omega)) ⟨_, rfl, by omega⟩ (eX2_holdsYear (17, .ireturn, 1) (List.mem_of_getElem? (i := 9) rfl))
set_option maxRecDepth 100000 in
set_option maxHeartbeats 4000000 in
theorem hX2_isLeapYear (l : Launch) (y : Int32)  : zu_M l yX2_isLeapYear (gW yX2_isLeapYear cX2_isLeapYear 1 (some .boolean)) { frames := 0, cells := 0, slots := 0, locals := 0 } (fun vs => vs = [.int y]) zT (fun _ w => ∃ r : Int32, w = .int r ∧ r.toInt = lpI y.toInt) := by
  refine zy_ofW (cc := cX2_isLeapYear) (maxL := 1) (ret := (some .boolean)) (by decide +kernel) rfl ?_
  intro p e s m args below meth c s1 B hml hv
  obtain ⟨vs, rfl, rfl, hKp⟩ := hv
  have hx := B.exec
  have hb := B.bytes
  have hr := B.returns
  have hlk := B.notSynchronized
  have hts0 := atoms_spec (ws := gW yX2_isLeapYear cX2_isLeapYear 1 (some .boolean)) B.pre
  have h2 : ∀ w ∈ gT, w.before ([.int y] : List Value).toArray s = true := fun w hw => hts0 w (List.mem_cons_of_mem _ hw)
  have hown : s.vm.findClass RX2 = some m.cls := findClass_of_methodNamed B.named
  have hl := lv_entry [.int y] (n := 1) (Nat.le_of_ble_eq_true rfl)
  rw [lg_entry_eq]
  generalize (lg_sl [.int y] ++ List.replicate (1 - (lg_sl [.int y]).length) Slot.unset).toArray = ls at hl ⊢
  have b_y := zn_i32 y
  refine lv_iload_n hx hb (eX2_isLeapYear (0, .iload_n 0, 1) (List.mem_of_getElem? (i := 0) rfl)) rfl (lv_at hl 0 rfl) ?_
  refine ff_iconst hx hb (eX2_isLeapYear (1, .iconst 4, 1) (List.mem_of_getElem? (i := 1) rfl)) (by decide) (by decide) (fun v1 e1 => ?_)
  refine ff_irem hx hb (eX2_isLeapYear (2, .irem, 1) (List.mem_of_getElem? (i := 2) rfl)) (e1) (by decide) (fun v2 e2 => ?_)
  refine ff_if_ne hx hb (eX2_isLeapYear (3, .ifCond .ne 22, 3) (List.mem_of_getElem? (i := 3) rfl)) (tgt := 25) rfl (fun c3 => ?_) (fun c3 => ?_)
  · skip
    refine ff_iconst hx hb (eX2_isLeapYear (25, .iconst 0, 1) (List.mem_of_getElem? (i := 14) rfl)) (by decide) (by decide) (fun v4 e4 => ?_)
    exact zu_iret (y := yX2_isLeapYear) (ws := []) (rm := {}) hx hb hr hlk (zn_bool (by omega) (by omega)) ⟨_, rfl, by (unfold lpI; split <;> omega)⟩ (eX2_isLeapYear (26, .ireturn, 1) (List.mem_of_getElem? (i := 15) rfl))
  · skip
    refine lv_iload_n hx hb (eX2_isLeapYear (6, .iload_n 0, 1) (List.mem_of_getElem? (i := 4) rfl)) rfl (lv_at hl 0 rfl) ?_
    refine ff_bipush hx hb (eX2_isLeapYear (7, .bipush 100, 2) (List.mem_of_getElem? (i := 5) rfl)) (by decide) (by decide) (fun v5 e5 => ?_)
    refine ff_irem hx hb (eX2_isLeapYear (9, .irem, 1) (List.mem_of_getElem? (i := 6) rfl)) (e5) (by decide) (fun v6 e6 => ?_)
    refine ff_if_ne hx hb (eX2_isLeapYear (10, .ifCond .ne 11, 3) (List.mem_of_getElem? (i := 7) rfl)) (tgt := 21) rfl (fun c7 => ?_) (fun c7 => ?_)
    · skip
      refine ff_iconst hx hb (eX2_isLeapYear (21, .iconst 1, 1) (List.mem_of_getElem? (i := 12) rfl)) (by decide) (by decide) (fun v8 e8 => ?_)
      refine lv_goto hx hb (eX2_isLeapYear (22, .goto 4, 3) (List.mem_of_getElem? (i := 13) rfl)) (tgt := 26) rfl ?_
      exact zu_iret (y := yX2_isLeapYear) (ws := []) (rm := {}) hx hb hr hlk (zn_bool (by omega) (by omega)) ⟨_, rfl, by (unfold lpI; split <;> omega)⟩ (eX2_isLeapYear (26, .ireturn, 1) (List.mem_of_getElem? (i := 15) rfl))
    · skip
      refine lv_iload_n hx hb (eX2_isLeapYear (13, .iload_n 0, 1) (List.mem_of_getElem? (i := 8) rfl)) rfl (lv_at hl 0 rfl) ?_
      refine ff_sipush hx hb (eX2_isLeapYear (14, .sipush 400, 3) (List.mem_of_getElem? (i := 9) rfl)) (by decide) (by decide) (fun v9 e9 => ?_)
      refine ff_irem hx hb (eX2_isLeapYear (17, .irem, 1) (List.mem_of_getElem? (i := 10) rfl)) (e9) (by decide) (fun v10 e10 => ?_)
      refine ff_if_ne hx hb (eX2_isLeapYear (18, .ifCond .ne 7, 3) (List.mem_of_getElem? (i := 11) rfl)) (tgt := 25) rfl (fun c11 => ?_) (fun c11 => ?_)
      · skip
        refine ff_iconst hx hb (eX2_isLeapYear (25, .iconst 0, 1) (List.mem_of_getElem? (i := 14) rfl)) (by decide) (by decide) (fun v12 e12 => ?_)
        exact zu_iret (y := yX2_isLeapYear) (ws := []) (rm := {}) hx hb hr hlk (zn_bool (by omega) (by omega)) ⟨_, rfl, by (unfold lpI; split <;> omega)⟩ (eX2_isLeapYear (26, .ireturn, 1) (List.mem_of_getElem? (i := 15) rfl))
      · skip
        refine ff_iconst hx hb (eX2_isLeapYear (21, .iconst 1, 1) (List.mem_of_getElem? (i := 12) rfl)) (by decide) (by decide) (fun v13 e13 => ?_)
        refine lv_goto hx hb (eX2_isLeapYear (22, .goto 4, 3) (List.mem_of_getElem? (i := 13) rfl)) (tgt := 26) rfl ?_
        exact zu_iret (y := yX2_isLeapYear) (ws := []) (rm := {}) hx hb hr hlk (zn_bool (by omega) (by omega)) ⟨_, rfl, by (unfold lpI; split <;> omega)⟩ (eX2_isLeapYear (26, .ireturn, 1) (List.mem_of_getElem? (i := 15) rfl))
set_option maxRecDepth 100000 in
set_option maxHeartbeats 4000000 in
theorem hX2_monthLength (l : Launch) (cA : Nat → ClassId) (y : Int32) (mo : Int32)  : zu_M l yX2_monthLength (gW yX2_monthLength cX2_monthLength 3 (some .int)) { frames := 1, cells := 0, slots := 0, locals := 20 } (fun vs => vs = [.int y, .int mo]) (zBM cA) (fun _ w => ∃ r : Int32, w = .int r ∧ r.toInt = mlI y.toInt mo.toInt) := by
  refine zy_ofW (cc := cX2_monthLength) (maxL := 3) (ret := (some .int)) (by decide +kernel) rfl ?_
  intro p e s m args below meth c s1 B hml hv
  obtain ⟨vs, rfl, rfl, hKp⟩ := hv
  have hx := B.exec
  have hb := B.bytes
  have hr := B.returns
  have hlk := B.notSynchronized
  have hts0 := atoms_spec (ws := gW yX2_monthLength cX2_monthLength 3 (some .int)) B.pre
  have h2 : ∀ w ∈ gT, w.before ([.int y, .int mo] : List Value).toArray s = true := fun w hw => hts0 w (List.mem_cons_of_mem _ hw)
  have hown : s.vm.findClass RX2 = some m.cls := findClass_of_methodNamed B.named
  have hl := lv_entry [.int y, .int mo] (n := 3) (Nat.le_of_ble_eq_true rfl)
  rw [lg_entry_eq]
  generalize (lg_sl [.int y, .int mo] ++ List.replicate (3 - (lg_sl [.int y, .int mo]).length) Slot.unset).toArray = ls at hl ⊢
  have hBM : ∀ U : State, U.heap = s.heap → s.WarmedH U.vm → zBM cA U := fun U hU hW => zBM_B.2 s U hW hU hKp
  obtain ⟨ab, zb, hz1, hz2, hz3, hz4⟩ := id hKp
  have b_y := zn_i32 y
  have b_mo := zn_i32 mo
  refine lv_iload_n hx hb (eX2_monthLength (0, .iload_n 1, 1) (List.mem_of_getElem? (i := 0) rfl)) rfl (lv_at hl 1 rfl) ?_
  refine ff_iconst hx hb (eX2_monthLength (1, .iconst 1, 1) (List.mem_of_getElem? (i := 1) rfl)) (by decide) (by decide) (fun v1 e1 => ?_)
  refine ff_icmp_lt hx hb (eX2_monthLength (2, .if_icmp .lt 9, 3) (List.mem_of_getElem? (i := 2) rfl)) (tgt := 11) rfl (fun c2 => ?_) (fun c2 => ?_)
  · skip
    refine ff_iconst hx hb (eX2_monthLength (11, .iconst 0, 1) (List.mem_of_getElem? (i := 6) rfl)) (by decide) (by decide) (fun v3 e3 => ?_)
    exact zu_iret (y := yX2_monthLength) (ws := []) (rm := {}) hx hb hr hlk rfl ⟨_, rfl, by (unfold mlI; first | (rw [if_pos (by omega)]; omega) | (rw [if_neg (by omega), if_pos (by omega)]; omega) | (rw [if_neg (by omega), if_neg (by omega)]; omega))⟩ (eX2_monthLength (12, .ireturn, 1) (List.mem_of_getElem? (i := 7) rfl))
  · skip
    refine lv_iload_n hx hb (eX2_monthLength (5, .iload_n 1, 1) (List.mem_of_getElem? (i := 3) rfl)) rfl (lv_at hl 1 rfl) ?_
    refine ff_bipush hx hb (eX2_monthLength (6, .bipush 12, 2) (List.mem_of_getElem? (i := 4) rfl)) (by decide) (by decide) (fun v4 e4 => ?_)
    refine ff_icmp_le hx hb (eX2_monthLength (8, .if_icmp .le 5, 3) (List.mem_of_getElem? (i := 5) rfl)) (tgt := 13) rfl (fun c5 => ?_) (fun c5 => ?_)
    · skip
      refine zu_gs hx hb hown hz1 (h2 _ (tb_2 116 rfl rfl)) (eX2_monthLength (13, .getstatic 25, 3) (List.mem_of_getElem? (i := 8) rfl)) ?_
      refine lv_iload_n hx hb (eX2_monthLength (16, .iload_n 1, 1) (List.mem_of_getElem? (i := 9) rfl)) rfl (lv_at hl 1 rfl) ?_
      refine zu_bm (J := mo.toInt) hx hb hz2 hz3 hz4 (by omega) (by omega) (by omega) (eX2_monthLength (17, .iaload, 1) (List.mem_of_getElem? (i := 10) rfl)) (fun v6 e6 => ?_)
      refine zu_gs hx hb hown hz1 (h2 _ (tb_2 116 rfl rfl)) (eX2_monthLength (18, .getstatic 25, 3) (List.mem_of_getElem? (i := 11) rfl)) ?_
      refine lv_iload_n hx hb (eX2_monthLength (21, .iload_n 1, 1) (List.mem_of_getElem? (i := 12) rfl)) rfl (lv_at hl 1 rfl) ?_
      refine ff_iconst hx hb (eX2_monthLength (22, .iconst 1, 1) (List.mem_of_getElem? (i := 13) rfl)) (by decide) (by decide) (fun v7 e7 => ?_)
      refine ff_isub hx hb (eX2_monthLength (23, .isub, 1) (List.mem_of_getElem? (i := 14) rfl)) (by omega) (by omega) (fun v8 e8 => ?_)
      refine zu_bm (J := mo.toInt - 1) hx hb hz2 hz3 hz4 (by omega) (by omega) (by omega) (eX2_monthLength (24, .iaload, 1) (List.mem_of_getElem? (i := 15) rfl)) (fun v9 e9 => ?_)
      refine ff_isub hx hb (eX2_monthLength (25, .isub, 1) (List.mem_of_getElem? (i := 16) rfl)) (by omega) (by omega) (fun v10 e10 => ?_)
      refine lv_istore_n hx hb (eX2_monthLength (26, .istore_n 2, 1) (List.mem_of_getElem? (i := 17) rfl)) rfl hl (by decide) rfl (fun ls11 hl11 => ?_)
      refine lv_iload_n hx hb (eX2_monthLength (27, .iload_n 1, 1) (List.mem_of_getElem? (i := 18) rfl)) rfl (lv_at hl11 2 rfl) ?_
      refine ff_iconst hx hb (eX2_monthLength (28, .iconst 2, 1) (List.mem_of_getElem? (i := 19) rfl)) (by decide) (by decide) (fun v12 e12 => ?_)
      refine ff_icmp_ne hx hb (eX2_monthLength (29, .if_icmp .ne 16, 3) (List.mem_of_getElem? (i := 20) rfl)) (tgt := 45) rfl (fun c13 => ?_) (fun c13 => ?_)
      · skip
        refine lv_iload_n hx hb (eX2_monthLength (45, .iload_n 2, 1) (List.mem_of_getElem? (i := 28) rfl)) rfl (lv_at hl11 0 rfl) ?_
        exact zu_iret (y := yX2_monthLength) (ws := []) (rm := {}) hx hb hr hlk rfl ⟨_, rfl, by (unfold mlI; first | (rw [if_pos (by omega)]; omega) | (rw [if_neg (by omega), if_pos (by omega)]; omega) | (rw [if_neg (by omega), if_neg (by omega)]; omega))⟩ (eX2_monthLength (46, .ireturn, 1) (List.mem_of_getElem? (i := 29) rfl))
      · skip
        refine lv_iload_n hx hb (eX2_monthLength (32, .iload_n 0, 1) (List.mem_of_getElem? (i := 21) rfl)) rfl (lv_at hl11 1 rfl) ?_
        refine zu_S (vs := [.int y]) (rest := []) hx hb hml hown hts0 zu_BT (hX2_isLeapYear l y) ⟨rfl, rfl⟩ ⟨by decide, by decide⟩ ⟨by decide, by decide⟩ (tb_2 120 rfl rfl) (tb_1 13 rfl rfl) (tb_2 118 rfl rfl) (tb_2 119 rfl rfl) (show yX2_isLeapYear.cls ≠ "java/lang/invoke/MethodHandle" ∧ yX2_isLeapYear.cls ≠ "java/lang/invoke/VarHandle" ∧ (parseMethodDescriptor yX2_isLeapYear.desc).map (fun d => d.parameters.length) = some 1 by decide +kernel) rfl (fun _ _ _ => trivial) hl11.1 (Nat.le_of_ble_eq_true rfl) (eX2_monthLength (33, .invokestatic 21, 3) (List.mem_of_getElem? (i := 22) rfl)) (fun w14 f14 => ?_)
        obtain ⟨v14, rfl, e14⟩ := f14
        have g14 := lpI_bd y.toInt
        refine ff_if_eq hx hb (eX2_monthLength (36, .ifCond .eq 9, 3) (List.mem_of_getElem? (i := 23) rfl)) (tgt := 45) rfl (fun c15 => ?_) (fun c15 => ?_)
        · skip
          refine lv_iload_n hx hb (eX2_monthLength (45, .iload_n 2, 1) (List.mem_of_getElem? (i := 28) rfl)) rfl (lv_at hl11 0 rfl) ?_
          exact zu_iret (y := yX2_monthLength) (ws := []) (rm := {}) hx hb hr hlk rfl ⟨_, rfl, by (unfold mlI; first | (rw [if_pos (by omega)]; omega) | (rw [if_neg (by omega), if_pos (by omega)]; omega) | (rw [if_neg (by omega), if_neg (by omega)]; omega))⟩ (eX2_monthLength (46, .ireturn, 1) (List.mem_of_getElem? (i := 29) rfl))
        · skip
          refine lv_iload_n hx hb (eX2_monthLength (39, .iload_n 2, 1) (List.mem_of_getElem? (i := 24) rfl)) rfl (lv_at hl11 0 rfl) ?_
          refine ff_iconst hx hb (eX2_monthLength (40, .iconst 1, 1) (List.mem_of_getElem? (i := 25) rfl)) (by decide) (by decide) (fun v16 e16 => ?_)
          refine ff_iadd hx hb (eX2_monthLength (41, .iadd, 1) (List.mem_of_getElem? (i := 26) rfl)) (by omega) (by omega) (fun v17 e17 => ?_)
          refine lv_goto hx hb (eX2_monthLength (42, .goto 4, 3) (List.mem_of_getElem? (i := 27) rfl)) (tgt := 46) rfl ?_
          exact zu_iret (y := yX2_monthLength) (ws := []) (rm := {}) hx hb hr hlk rfl ⟨_, rfl, by (unfold mlI; first | (rw [if_pos (by omega)]; omega) | (rw [if_neg (by omega), if_pos (by omega)]; omega) | (rw [if_neg (by omega), if_neg (by omega)]; omega))⟩ (eX2_monthLength (46, .ireturn, 1) (List.mem_of_getElem? (i := 29) rfl))
    · skip
      refine ff_iconst hx hb (eX2_monthLength (11, .iconst 0, 1) (List.mem_of_getElem? (i := 6) rfl)) (by decide) (by decide) (fun v18 e18 => ?_)
      exact zu_iret (y := yX2_monthLength) (ws := []) (rm := {}) hx hb hr hlk rfl ⟨_, rfl, by (unfold mlI; first | (rw [if_pos (by omega)]; omega) | (rw [if_neg (by omega), if_pos (by omega)]; omega) | (rw [if_neg (by omega), if_neg (by omega)]; omega))⟩ (eX2_monthLength (12, .ireturn, 1) (List.mem_of_getElem? (i := 7) rfl))
set_option maxRecDepth 100000 in
set_option maxHeartbeats 4000000 in
theorem hX2_yearStart (l : Launch) (y : Int32) (hy1 : -1999999 ≤ y.toInt) (hy2 : y.toInt ≤ 1999999) : zu_M l yX2_yearStart (gW yX2_yearStart cX2_yearStart 3 (some .long)) { frames := 0, cells := 0, slots := 0, locals := 0 } (fun vs => vs = [.int y]) zT (fun _ w => ∃ r : Int64, w = .long r ∧ r.toInt = ysI y.toInt) := by
  refine zy_ofW (cc := cX2_yearStart) (maxL := 3) (ret := (some .long)) (by decide +kernel) rfl ?_
  intro p e s m args below meth c s1 B hml hv
  obtain ⟨vs, rfl, rfl, hKp⟩ := hv
  have hx := B.exec
  have hb := B.bytes
  have hr := B.returns
  have hlk := B.notSynchronized
  have hts0 := atoms_spec (ws := gW yX2_yearStart cX2_yearStart 3 (some .long)) B.pre
  have h2 : ∀ w ∈ gT, w.before ([.int y] : List Value).toArray s = true := fun w hw => hts0 w (List.mem_cons_of_mem _ hw)
  have hown : s.vm.findClass RX2 = some m.cls := findClass_of_methodNamed B.named
  have hl := lv_entry [.int y] (n := 3) (Nat.le_of_ble_eq_true rfl)
  rw [lg_entry_eq]
  generalize (lg_sl [.int y] ++ List.replicate (3 - (lg_sl [.int y]).length) Slot.unset).toArray = ls at hl ⊢
  have b_y := zn_i32 y
  refine lv_iload_n hx hb (eX2_yearStart (0, .iload_n 0, 1) (List.mem_of_getElem? (i := 0) rfl)) rfl (lv_at hl 0 rfl) ?_
  refine ff_i2l hx hb (eX2_yearStart (1, .i2l, 1) (List.mem_of_getElem? (i := 1) rfl)) (fun v1 e1 => ?_)
  refine ff_ldc2 (n := 2000000) hx hb hown h2 (clX2_ok 29 2000000 (List.mem_of_getElem? (i := 4) rfl)) (eX2_yearStart (2, .ldc2_w 29, 3) (List.mem_of_getElem? (i := 2) rfl)) (fun v2 e2 => ?_)
  refine ff_ladd hx hb (eX2_yearStart (5, .ladd, 1) (List.mem_of_getElem? (i := 3) rfl)) (by omega) (by omega) (fun v3 e3 => ?_)
  refine lv_lstore_n hx hb (eX2_yearStart (6, .lstore_n 1, 1) (List.mem_of_getElem? (i := 4) rfl)) rfl hl (by decide) rfl (fun ls4 hl4 => ?_)
  refine ff_ldc2 (n := 365) hx hb hown h2 (clX2_ok 31 365 (List.mem_of_getElem? (i := 5) rfl)) (eX2_yearStart (7, .ldc2_w 31, 3) (List.mem_of_getElem? (i := 5) rfl)) (fun v5 e5 => ?_)
  refine lv_lload_n hx hb (eX2_yearStart (10, .lload_n 1, 1) (List.mem_of_getElem? (i := 6) rfl)) rfl (lv_at hl4 0 rfl) ?_
  refine ff_lmulL hx hb (eX2_yearStart (11, .lmul, 1) (List.mem_of_getElem? (i := 7) rfl)) (e5) (by omega) (by omega) (fun v6 e6 => ?_)
  refine lv_lload_n hx hb (eX2_yearStart (12, .lload_n 1, 1) (List.mem_of_getElem? (i := 8) rfl)) rfl (lv_at hl4 0 rfl) ?_
  refine ff_ldc2 (n := 3) hx hb hown h2 (clX2_ok 33 3 (List.mem_of_getElem? (i := 6) rfl)) (eX2_yearStart (13, .ldc2_w 33, 3) (List.mem_of_getElem? (i := 9) rfl)) (fun v7 e7 => ?_)
  refine ff_ladd hx hb (eX2_yearStart (16, .ladd, 1) (List.mem_of_getElem? (i := 10) rfl)) (by omega) (by omega) (fun v8 e8 => ?_)
  refine ff_ldc2 (n := 4) hx hb hown h2 (clX2_ok 35 4 (List.mem_of_getElem? (i := 7) rfl)) (eX2_yearStart (17, .ldc2_w 35, 3) (List.mem_of_getElem? (i := 11) rfl)) (fun v9 e9 => ?_)
  refine ff_ldivP hx hb (eX2_yearStart (20, .ldiv, 1) (List.mem_of_getElem? (i := 12) rfl)) (by omega) (e9) (by decide) (fun v10 e10 => ?_)
  refine ff_ladd hx hb (eX2_yearStart (21, .ladd, 1) (List.mem_of_getElem? (i := 13) rfl)) (by omega) (by omega) (fun v11 e11 => ?_)
  refine lv_lload_n hx hb (eX2_yearStart (22, .lload_n 1, 1) (List.mem_of_getElem? (i := 14) rfl)) rfl (lv_at hl4 0 rfl) ?_
  refine ff_ldc2 (n := 99) hx hb hown h2 (clX2_ok 37 99 (List.mem_of_getElem? (i := 8) rfl)) (eX2_yearStart (23, .ldc2_w 37, 3) (List.mem_of_getElem? (i := 15) rfl)) (fun v12 e12 => ?_)
  refine ff_ladd hx hb (eX2_yearStart (26, .ladd, 1) (List.mem_of_getElem? (i := 16) rfl)) (by omega) (by omega) (fun v13 e13 => ?_)
  refine ff_ldc2 (n := 100) hx hb hown h2 (clX2_ok 39 100 (List.mem_of_getElem? (i := 9) rfl)) (eX2_yearStart (27, .ldc2_w 39, 3) (List.mem_of_getElem? (i := 17) rfl)) (fun v14 e14 => ?_)
  refine ff_ldivP hx hb (eX2_yearStart (30, .ldiv, 1) (List.mem_of_getElem? (i := 18) rfl)) (by omega) (e14) (by decide) (fun v15 e15 => ?_)
  refine ff_lsub hx hb (eX2_yearStart (31, .lsub, 1) (List.mem_of_getElem? (i := 19) rfl)) (by omega) (by omega) (fun v16 e16 => ?_)
  refine lv_lload_n hx hb (eX2_yearStart (32, .lload_n 1, 1) (List.mem_of_getElem? (i := 20) rfl)) rfl (lv_at hl4 0 rfl) ?_
  refine ff_ldc2 (n := 399) hx hb hown h2 (clX2_ok 41 399 (List.mem_of_getElem? (i := 10) rfl)) (eX2_yearStart (33, .ldc2_w 41, 3) (List.mem_of_getElem? (i := 21) rfl)) (fun v17 e17 => ?_)
  refine ff_ladd hx hb (eX2_yearStart (36, .ladd, 1) (List.mem_of_getElem? (i := 22) rfl)) (by omega) (by omega) (fun v18 e18 => ?_)
  refine ff_ldc2 (n := 400) hx hb hown h2 (clX2_ok 43 400 (List.mem_of_getElem? (i := 11) rfl)) (eX2_yearStart (37, .ldc2_w 43, 3) (List.mem_of_getElem? (i := 23) rfl)) (fun v19 e19 => ?_)
  refine ff_ldivP hx hb (eX2_yearStart (40, .ldiv, 1) (List.mem_of_getElem? (i := 24) rfl)) (by omega) (e19) (by decide) (fun v20 e20 => ?_)
  refine ff_ladd hx hb (eX2_yearStart (41, .ladd, 1) (List.mem_of_getElem? (i := 25) rfl)) (by omega) (by omega) (fun v21 e21 => ?_)
  refine ff_ldc2 (n := 731204528) hx hb hown h2 (clX2_ok 45 731204528 (List.mem_of_getElem? (i := 12) rfl)) (eX2_yearStart (42, .ldc2_w 45, 3) (List.mem_of_getElem? (i := 26) rfl)) (fun v22 e22 => ?_)
  refine ff_lsub hx hb (eX2_yearStart (45, .lsub, 1) (List.mem_of_getElem? (i := 27) rfl)) (by omega) (by omega) (fun v23 e23 => ?_)
  exact zu_lret (y := yX2_yearStart) (ws := []) (rm := {}) hx hb hr hlk ⟨_, rfl, by (unfold ysI; omega)⟩ (eX2_yearStart (46, .lreturn, 1) (List.mem_of_getElem? (i := 28) rfl))
set_option maxRecDepth 100000 in
set_option maxHeartbeats 4000000 in
theorem hX2_numberOf (l : Launch) (cA : Nat → ClassId) (y : Int32) (mo : Int32) (dd : Int32) (hy1 : -1000001 ≤ y.toInt) (hy2 : y.toInt ≤ 1000001) (hm1 : 1 ≤ mo.toInt) (hm2 : mo.toInt ≤ 12) (hd1 : 1 ≤ dd.toInt) (hd2 : dd.toInt ≤ 31) : zu_M l yX2_numberOf (gW yX2_numberOf cX2_numberOf 5 (some .long)) { frames := 1, cells := 0, slots := 0, locals := 22 } (fun vs => vs = [.int y, .int mo, .int dd]) (zBM cA) (fun _ w => ∃ r : Int64, w = .long r ∧ r.toInt = nuI y.toInt mo.toInt dd.toInt) := by
  refine zy_ofW (cc := cX2_numberOf) (maxL := 5) (ret := (some .long)) (by decide +kernel) rfl ?_
  intro p e s m args below meth c s1 B hml hv
  obtain ⟨vs, rfl, rfl, hKp⟩ := hv
  have hx := B.exec
  have hb := B.bytes
  have hr := B.returns
  have hlk := B.notSynchronized
  have hts0 := atoms_spec (ws := gW yX2_numberOf cX2_numberOf 5 (some .long)) B.pre
  have h2 : ∀ w ∈ gT, w.before ([.int y, .int mo, .int dd] : List Value).toArray s = true := fun w hw => hts0 w (List.mem_cons_of_mem _ hw)
  have hown : s.vm.findClass RX2 = some m.cls := findClass_of_methodNamed B.named
  have hl := lv_entry [.int y, .int mo, .int dd] (n := 5) (Nat.le_of_ble_eq_true rfl)
  rw [lg_entry_eq]
  generalize (lg_sl [.int y, .int mo, .int dd] ++ List.replicate (5 - (lg_sl [.int y, .int mo, .int dd]).length) Slot.unset).toArray = ls at hl ⊢
  have hBM : ∀ U : State, U.heap = s.heap → s.WarmedH U.vm → zBM cA U := fun U hU hW => zBM_B.2 s U hW hU hKp
  obtain ⟨ab, zb, hz1, hz2, hz3, hz4⟩ := id hKp
  have b_y := zn_i32 y
  have b_mo := zn_i32 mo
  have b_dd := zn_i32 dd
  refine lv_iload_n hx hb (eX2_numberOf (0, .iload_n 1, 1) (List.mem_of_getElem? (i := 0) rfl)) rfl (lv_at hl 1 rfl) ?_
  refine ff_iconst hx hb (eX2_numberOf (1, .iconst 1, 1) (List.mem_of_getElem? (i := 1) rfl)) (by decide) (by decide) (fun v1 e1 => ?_)
  refine ff_icmp_lt hx hb (eX2_numberOf (2, .if_icmp .lt 9, 3) (List.mem_of_getElem? (i := 2) rfl)) (tgt := 11) rfl (fun c2 => (by exfalso; omega)) (fun c2 => ?_)
  refine lv_iload_n hx hb (eX2_numberOf (5, .iload_n 1, 1) (List.mem_of_getElem? (i := 3) rfl)) rfl (lv_at hl 1 rfl) ?_
  refine ff_bipush hx hb (eX2_numberOf (6, .bipush 12, 2) (List.mem_of_getElem? (i := 4) rfl)) (by decide) (by decide) (fun v3 e3 => ?_)
  refine ff_icmp_le hx hb (eX2_numberOf (8, .if_icmp .le 7, 3) (List.mem_of_getElem? (i := 5) rfl)) (tgt := 15) rfl (fun c4 => ?_) (fun c4 => (by exfalso; omega))
  refine zu_gs hx hb hown hz1 (h2 _ (tb_2 116 rfl rfl)) (eX2_numberOf (15, .getstatic 25, 3) (List.mem_of_getElem? (i := 8) rfl)) ?_
  refine lv_iload_n hx hb (eX2_numberOf (18, .iload_n 1, 1) (List.mem_of_getElem? (i := 9) rfl)) rfl (lv_at hl 1 rfl) ?_
  refine ff_iconst hx hb (eX2_numberOf (19, .iconst 1, 1) (List.mem_of_getElem? (i := 10) rfl)) (by decide) (by decide) (fun v5 e5 => ?_)
  refine ff_isub hx hb (eX2_numberOf (20, .isub, 1) (List.mem_of_getElem? (i := 11) rfl)) (by omega) (by omega) (fun v6 e6 => ?_)
  refine zu_bm (J := mo.toInt - 1) hx hb hz2 hz3 hz4 (by omega) (by omega) (by omega) (eX2_numberOf (21, .iaload, 1) (List.mem_of_getElem? (i := 12) rfl)) (fun v7 e7 => ?_)
  refine lv_istore_n hx hb (eX2_numberOf (22, .istore_n 3, 1) (List.mem_of_getElem? (i := 13) rfl)) rfl hl (by decide) rfl (fun ls8 hl8 => ?_)
  refine lv_iload_n hx hb (eX2_numberOf (23, .iload_n 1, 1) (List.mem_of_getElem? (i := 14) rfl)) rfl (lv_at hl8 2 rfl) ?_
  refine ff_iconst hx hb (eX2_numberOf (24, .iconst 2, 1) (List.mem_of_getElem? (i := 15) rfl)) (by decide) (by decide) (fun v9 e9 => ?_)
  refine ff_icmp_le hx hb (eX2_numberOf (25, .if_icmp .le 14, 3) (List.mem_of_getElem? (i := 16) rfl)) (tgt := 39) rfl (fun c10 => ?_) (fun c10 => ?_)
  · skip
    refine ff_iconst hx hb (eX2_numberOf (39, .iconst 0, 1) (List.mem_of_getElem? (i := 22) rfl)) (by decide) (by decide) (fun v11 e11 => ?_)
    refine lv_istore hx hb (eX2_numberOf (40, .istore 4, 2) (List.mem_of_getElem? (i := 23) rfl)) hl8 (by decide) rfl (fun ls12 hl12 => ?_)
    refine lv_iload_n hx hb (eX2_numberOf (42, .iload_n 0, 1) (List.mem_of_getElem? (i := 24) rfl)) rfl (lv_at hl12 2 rfl) ?_
    refine zu_S (vs := [.int y]) (rest := []) hx hb hml hown hts0 zu_BT (hX2_yearStart l y (by omega) (by omega)) ⟨rfl, rfl⟩ ⟨by decide, by decide⟩ ⟨by decide, by decide⟩ (tb_2 193 rfl rfl) (tb_1 13 rfl rfl) (tb_2 191 rfl rfl) (tb_2 192 rfl rfl) (show yX2_yearStart.cls ≠ "java/lang/invoke/MethodHandle" ∧ yX2_yearStart.cls ≠ "java/lang/invoke/VarHandle" ∧ (parseMethodDescriptor yX2_yearStart.desc).map (fun d => d.parameters.length) = some 1 by decide +kernel) rfl (fun _ _ _ => trivial) hl12.1 (Nat.le_of_ble_eq_true rfl) (eX2_numberOf (43, .invokestatic 49, 3) (List.mem_of_getElem? (i := 25) rfl)) (fun w13 f13 => ?_)
    obtain ⟨v13, rfl, e13⟩ := f13
    have g13 := ysI_bd (y := y.toInt) (by omega) (by omega)
    refine lv_iload_n hx hb (eX2_numberOf (46, .iload_n 3, 1) (List.mem_of_getElem? (i := 26) rfl)) rfl (lv_at hl12 1 rfl) ?_
    refine ff_i2l hx hb (eX2_numberOf (47, .i2l, 1) (List.mem_of_getElem? (i := 27) rfl)) (fun v14 e14 => ?_)
    refine ff_ladd hx hb (eX2_numberOf (48, .ladd, 1) (List.mem_of_getElem? (i := 28) rfl)) (by omega) (by omega) (fun v15 e15 => ?_)
    refine lv_iload hx hb (eX2_numberOf (49, .iload 4, 2) (List.mem_of_getElem? (i := 29) rfl)) (lv_at hl12 0 rfl) ?_
    refine ff_i2l hx hb (eX2_numberOf (51, .i2l, 1) (List.mem_of_getElem? (i := 30) rfl)) (fun v16 e16 => ?_)
    refine ff_ladd hx hb (eX2_numberOf (52, .ladd, 1) (List.mem_of_getElem? (i := 31) rfl)) (by omega) (by omega) (fun v17 e17 => ?_)
    refine lv_iload_n hx hb (eX2_numberOf (53, .iload_n 2, 1) (List.mem_of_getElem? (i := 32) rfl)) rfl (lv_at hl12 4 rfl) ?_
    refine ff_i2l hx hb (eX2_numberOf (54, .i2l, 1) (List.mem_of_getElem? (i := 33) rfl)) (fun v18 e18 => ?_)
    refine ff_ladd hx hb (eX2_numberOf (55, .ladd, 1) (List.mem_of_getElem? (i := 34) rfl)) (by omega) (by omega) (fun v19 e19 => ?_)
    refine ff_lconst hx hb (eX2_numberOf (56, .lconst 1, 1) (List.mem_of_getElem? (i := 35) rfl)) rfl (fun v20 e20 => ?_)
    refine ff_lsub hx hb (eX2_numberOf (57, .lsub, 1) (List.mem_of_getElem? (i := 36) rfl)) (by omega) (by omega) (fun v21 e21 => ?_)
    exact zu_lret (y := yX2_numberOf) (ws := []) (rm := {}) hx hb hr hlk ⟨_, rfl, by (unfold nuI; first | (rw [if_pos (by omega)]; omega) | (rw [if_neg (by omega)]; omega))⟩ (eX2_numberOf (58, .lreturn, 1) (List.mem_of_getElem? (i := 37) rfl))
  · skip
    refine lv_iload_n hx hb (eX2_numberOf (28, .iload_n 0, 1) (List.mem_of_getElem? (i := 17) rfl)) rfl (lv_at hl8 1 rfl) ?_
    refine zu_S (vs := [.int y]) (rest := []) hx hb hml hown hts0 zu_BT (hX2_isLeapYear l y) ⟨rfl, rfl⟩ ⟨by decide, by decide⟩ ⟨by decide, by decide⟩ (tb_2 120 rfl rfl) (tb_1 13 rfl rfl) (tb_2 118 rfl rfl) (tb_2 119 rfl rfl) (show yX2_isLeapYear.cls ≠ "java/lang/invoke/MethodHandle" ∧ yX2_isLeapYear.cls ≠ "java/lang/invoke/VarHandle" ∧ (parseMethodDescriptor yX2_isLeapYear.desc).map (fun d => d.parameters.length) = some 1 by decide +kernel) rfl (fun _ _ _ => trivial) hl8.1 (Nat.le_of_ble_eq_true rfl) (eX2_numberOf (29, .invokestatic 21, 3) (List.mem_of_getElem? (i := 18) rfl)) (fun w22 f22 => ?_)
    obtain ⟨v22, rfl, e22⟩ := f22
    have g22 := lpI_bd y.toInt
    refine ff_if_eq hx hb (eX2_numberOf (32, .ifCond .eq 7, 3) (List.mem_of_getElem? (i := 19) rfl)) (tgt := 39) rfl (fun c23 => ?_) (fun c23 => ?_)
    · skip
      refine ff_iconst hx hb (eX2_numberOf (39, .iconst 0, 1) (List.mem_of_getElem? (i := 22) rfl)) (by decide) (by decide) (fun v24 e24 => ?_)
      refine lv_istore hx hb (eX2_numberOf (40, .istore 4, 2) (List.mem_of_getElem? (i := 23) rfl)) hl8 (by decide) rfl (fun ls25 hl25 => ?_)
      refine lv_iload_n hx hb (eX2_numberOf (42, .iload_n 0, 1) (List.mem_of_getElem? (i := 24) rfl)) rfl (lv_at hl25 2 rfl) ?_
      refine zu_S (vs := [.int y]) (rest := []) hx hb hml hown hts0 zu_BT (hX2_yearStart l y (by omega) (by omega)) ⟨rfl, rfl⟩ ⟨by decide, by decide⟩ ⟨by decide, by decide⟩ (tb_2 193 rfl rfl) (tb_1 13 rfl rfl) (tb_2 191 rfl rfl) (tb_2 192 rfl rfl) (show yX2_yearStart.cls ≠ "java/lang/invoke/MethodHandle" ∧ yX2_yearStart.cls ≠ "java/lang/invoke/VarHandle" ∧ (parseMethodDescriptor yX2_yearStart.desc).map (fun d => d.parameters.length) = some 1 by decide +kernel) rfl (fun _ _ _ => trivial) hl25.1 (Nat.le_of_ble_eq_true rfl) (eX2_numberOf (43, .invokestatic 49, 3) (List.mem_of_getElem? (i := 25) rfl)) (fun w26 f26 => ?_)
      obtain ⟨v26, rfl, e26⟩ := f26
      have g26 := ysI_bd (y := y.toInt) (by omega) (by omega)
      refine lv_iload_n hx hb (eX2_numberOf (46, .iload_n 3, 1) (List.mem_of_getElem? (i := 26) rfl)) rfl (lv_at hl25 1 rfl) ?_
      refine ff_i2l hx hb (eX2_numberOf (47, .i2l, 1) (List.mem_of_getElem? (i := 27) rfl)) (fun v27 e27 => ?_)
      refine ff_ladd hx hb (eX2_numberOf (48, .ladd, 1) (List.mem_of_getElem? (i := 28) rfl)) (by omega) (by omega) (fun v28 e28 => ?_)
      refine lv_iload hx hb (eX2_numberOf (49, .iload 4, 2) (List.mem_of_getElem? (i := 29) rfl)) (lv_at hl25 0 rfl) ?_
      refine ff_i2l hx hb (eX2_numberOf (51, .i2l, 1) (List.mem_of_getElem? (i := 30) rfl)) (fun v29 e29 => ?_)
      refine ff_ladd hx hb (eX2_numberOf (52, .ladd, 1) (List.mem_of_getElem? (i := 31) rfl)) (by omega) (by omega) (fun v30 e30 => ?_)
      refine lv_iload_n hx hb (eX2_numberOf (53, .iload_n 2, 1) (List.mem_of_getElem? (i := 32) rfl)) rfl (lv_at hl25 4 rfl) ?_
      refine ff_i2l hx hb (eX2_numberOf (54, .i2l, 1) (List.mem_of_getElem? (i := 33) rfl)) (fun v31 e31 => ?_)
      refine ff_ladd hx hb (eX2_numberOf (55, .ladd, 1) (List.mem_of_getElem? (i := 34) rfl)) (by omega) (by omega) (fun v32 e32 => ?_)
      refine ff_lconst hx hb (eX2_numberOf (56, .lconst 1, 1) (List.mem_of_getElem? (i := 35) rfl)) rfl (fun v33 e33 => ?_)
      refine ff_lsub hx hb (eX2_numberOf (57, .lsub, 1) (List.mem_of_getElem? (i := 36) rfl)) (by omega) (by omega) (fun v34 e34 => ?_)
      exact zu_lret (y := yX2_numberOf) (ws := []) (rm := {}) hx hb hr hlk ⟨_, rfl, by (unfold nuI; first | (rw [if_pos (by omega)]; omega) | (rw [if_neg (by omega)]; omega))⟩ (eX2_numberOf (58, .lreturn, 1) (List.mem_of_getElem? (i := 37) rfl))
    · skip
      refine ff_iconst hx hb (eX2_numberOf (35, .iconst 1, 1) (List.mem_of_getElem? (i := 20) rfl)) (by decide) (by decide) (fun v35 e35 => ?_)
      refine lv_goto hx hb (eX2_numberOf (36, .goto 4, 3) (List.mem_of_getElem? (i := 21) rfl)) (tgt := 40) rfl ?_
      refine lv_istore hx hb (eX2_numberOf (40, .istore 4, 2) (List.mem_of_getElem? (i := 23) rfl)) hl8 (by decide) rfl (fun ls36 hl36 => ?_)
      refine lv_iload_n hx hb (eX2_numberOf (42, .iload_n 0, 1) (List.mem_of_getElem? (i := 24) rfl)) rfl (lv_at hl36 2 rfl) ?_
      refine zu_S (vs := [.int y]) (rest := []) hx hb hml hown hts0 zu_BT (hX2_yearStart l y (by omega) (by omega)) ⟨rfl, rfl⟩ ⟨by decide, by decide⟩ ⟨by decide, by decide⟩ (tb_2 193 rfl rfl) (tb_1 13 rfl rfl) (tb_2 191 rfl rfl) (tb_2 192 rfl rfl) (show yX2_yearStart.cls ≠ "java/lang/invoke/MethodHandle" ∧ yX2_yearStart.cls ≠ "java/lang/invoke/VarHandle" ∧ (parseMethodDescriptor yX2_yearStart.desc).map (fun d => d.parameters.length) = some 1 by decide +kernel) rfl (fun _ _ _ => trivial) hl36.1 (Nat.le_of_ble_eq_true rfl) (eX2_numberOf (43, .invokestatic 49, 3) (List.mem_of_getElem? (i := 25) rfl)) (fun w37 f37 => ?_)
      obtain ⟨v37, rfl, e37⟩ := f37
      have g37 := ysI_bd (y := y.toInt) (by omega) (by omega)
      refine lv_iload_n hx hb (eX2_numberOf (46, .iload_n 3, 1) (List.mem_of_getElem? (i := 26) rfl)) rfl (lv_at hl36 1 rfl) ?_
      refine ff_i2l hx hb (eX2_numberOf (47, .i2l, 1) (List.mem_of_getElem? (i := 27) rfl)) (fun v38 e38 => ?_)
      refine ff_ladd hx hb (eX2_numberOf (48, .ladd, 1) (List.mem_of_getElem? (i := 28) rfl)) (by omega) (by omega) (fun v39 e39 => ?_)
      refine lv_iload hx hb (eX2_numberOf (49, .iload 4, 2) (List.mem_of_getElem? (i := 29) rfl)) (lv_at hl36 0 rfl) ?_
      refine ff_i2l hx hb (eX2_numberOf (51, .i2l, 1) (List.mem_of_getElem? (i := 30) rfl)) (fun v40 e40 => ?_)
      refine ff_ladd hx hb (eX2_numberOf (52, .ladd, 1) (List.mem_of_getElem? (i := 31) rfl)) (by omega) (by omega) (fun v41 e41 => ?_)
      refine lv_iload_n hx hb (eX2_numberOf (53, .iload_n 2, 1) (List.mem_of_getElem? (i := 32) rfl)) rfl (lv_at hl36 4 rfl) ?_
      refine ff_i2l hx hb (eX2_numberOf (54, .i2l, 1) (List.mem_of_getElem? (i := 33) rfl)) (fun v42 e42 => ?_)
      refine ff_ladd hx hb (eX2_numberOf (55, .ladd, 1) (List.mem_of_getElem? (i := 34) rfl)) (by omega) (by omega) (fun v43 e43 => ?_)
      refine ff_lconst hx hb (eX2_numberOf (56, .lconst 1, 1) (List.mem_of_getElem? (i := 35) rfl)) rfl (fun v44 e44 => ?_)
      refine ff_lsub hx hb (eX2_numberOf (57, .lsub, 1) (List.mem_of_getElem? (i := 36) rfl)) (by omega) (by omega) (fun v45 e45 => ?_)
      exact zu_lret (y := yX2_numberOf) (ws := []) (rm := {}) hx hb hr hlk ⟨_, rfl, by (unfold nuI; first | (rw [if_pos (by omega)]; omega) | (rw [if_neg (by omega)]; omega))⟩ (eX2_numberOf (58, .lreturn, 1) (List.mem_of_getElem? (i := 37) rfl))
set_option maxRecDepth 100000 in
set_option maxHeartbeats 4000000 in
theorem hX12_isIn (l : Launch) (x : Int64) (y : Int64) (z : Int64)  : zu_M l yX12_isIn (gW yX12_isIn cX12_isIn 6 (some .boolean)) { frames := 0, cells := 0, slots := 0, locals := 0 } (fun vs => vs = [.long x, .long y, .long z]) zT (fun _ w => ∃ r : Int32, w = .int r ∧ ((r.toInt = 1 ∧ y.toInt ≤ x.toInt ∧ x.toInt ≤ z.toInt) ∨ (r.toInt = 0 ∧ (x.toInt < y.toInt ∨ z.toInt < x.toInt)))) := by
  refine zy_ofW (cc := cX12_isIn) (maxL := 6) (ret := (some .boolean)) (by decide +kernel) rfl ?_
  intro p e s m args below meth c s1 B hml hv
  obtain ⟨vs, rfl, rfl, hKp⟩ := hv
  have hx := B.exec
  have hb := B.bytes
  have hr := B.returns
  have hlk := B.notSynchronized
  have hts0 := atoms_spec (ws := gW yX12_isIn cX12_isIn 6 (some .boolean)) B.pre
  have h2 : ∀ w ∈ gT, w.before ([.long x, .long y, .long z] : List Value).toArray s = true := fun w hw => hts0 w (List.mem_cons_of_mem _ hw)
  have hown : s.vm.findClass RX12 = some m.cls := findClass_of_methodNamed B.named
  have hl := lv_entry [.long x, .long y, .long z] (n := 6) (Nat.le_of_ble_eq_true rfl)
  rw [lg_entry_eq]
  generalize (lg_sl [.long x, .long y, .long z] ++ List.replicate (6 - (lg_sl [.long x, .long y, .long z]).length) Slot.unset).toArray = ls at hl ⊢
  have b_x := zn_i64 x
  have b_y := zn_i64 y
  have b_z := zn_i64 z
  refine lv_lload_n hx hb (eX12_isIn (0, .lload_n 0, 1) (List.mem_of_getElem? (i := 0) rfl)) rfl (lv_at hl 0 rfl) ?_
  refine lv_lload_n hx hb (eX12_isIn (1, .lload_n 2, 1) (List.mem_of_getElem? (i := 1) rfl)) rfl (lv_at hl 1 rfl) ?_
  refine ff_lcmp hx hb (eX12_isIn (2, .lcmp, 1) (List.mem_of_getElem? (i := 2) rfl)) (fun v1 e1 => ?_)
  refine ff_if_lt hx hb (eX12_isIn (3, .ifCond .lt 14, 3) (List.mem_of_getElem? (i := 3) rfl)) (tgt := 17) rfl (fun c2 => ?_) (fun c2 => ?_)
  · skip
    refine ff_iconst hx hb (eX12_isIn (17, .iconst 0, 1) (List.mem_of_getElem? (i := 10) rfl)) (by decide) (by decide) (fun v3 e3 => ?_)
    exact zu_iret (y := yX12_isIn) (ws := []) (rm := {}) hx hb hr hlk (zn_bool (by omega) (by omega)) ⟨_, rfl, by omega⟩ (eX12_isIn (18, .ireturn, 1) (List.mem_of_getElem? (i := 11) rfl))
  · skip
    refine lv_lload_n hx hb (eX12_isIn (6, .lload_n 0, 1) (List.mem_of_getElem? (i := 4) rfl)) rfl (lv_at hl 0 rfl) ?_
    refine lv_lload hx hb (eX12_isIn (7, .lload 4, 2) (List.mem_of_getElem? (i := 5) rfl)) (lv_at hl 2 rfl) ?_
    refine ff_lcmp hx hb (eX12_isIn (9, .lcmp, 1) (List.mem_of_getElem? (i := 6) rfl)) (fun v4 e4 => ?_)
    refine ff_if_gt hx hb (eX12_isIn (10, .ifCond .gt 7, 3) (List.mem_of_getElem? (i := 7) rfl)) (tgt := 17) rfl (fun c5 => ?_) (fun c5 => ?_)
    · skip
      refine ff_iconst hx hb (eX12_isIn (17, .iconst 0, 1) (List.mem_of_getElem? (i := 10) rfl)) (by decide) (by decide) (fun v6 e6 => ?_)
      exact zu_iret (y := yX12_isIn) (ws := []) (rm := {}) hx hb hr hlk (zn_bool (by omega) (by omega)) ⟨_, rfl, by omega⟩ (eX12_isIn (18, .ireturn, 1) (List.mem_of_getElem? (i := 11) rfl))
    · skip
      refine ff_iconst hx hb (eX12_isIn (13, .iconst 1, 1) (List.mem_of_getElem? (i := 8) rfl)) (by decide) (by decide) (fun v7 e7 => ?_)
      refine lv_goto hx hb (eX12_isIn (14, .goto 4, 3) (List.mem_of_getElem? (i := 9) rfl)) (tgt := 18) rfl ?_
      exact zu_iret (y := yX12_isIn) (ws := []) (rm := {}) hx hb hr hlk (zn_bool (by omega) (by omega)) ⟨_, rfl, by omega⟩ (eX12_isIn (18, .ireturn, 1) (List.mem_of_getElem? (i := 11) rfl))
set_option maxRecDepth 100000 in
set_option maxHeartbeats 4000000 in
theorem hX12_isYear (l : Launch) (y : Int64)  : zu_M l yX12_isYear (gW yX12_isYear cX12_isYear 2 (some .boolean)) { frames := 1, cells := 0, slots := 0, locals := 25 } (fun vs => vs = [.long y]) zT (fun _ w => ∃ r : Int32, w = .int r ∧ ((r.toInt = 1 ∧ -999999 ≤ y.toInt ∧ y.toInt ≤ 999999) ∨ (r.toInt = 0 ∧ (y.toInt < -999999 ∨ 999999 < y.toInt)))) := by
  refine zy_ofW (cc := cX12_isYear) (maxL := 2) (ret := (some .boolean)) (by decide +kernel) rfl ?_
  intro p e s m args below meth c s1 B hml hv
  obtain ⟨vs, rfl, rfl, hKp⟩ := hv
  have hx := B.exec
  have hb := B.bytes
  have hr := B.returns
  have hlk := B.notSynchronized
  have hts0 := atoms_spec (ws := gW yX12_isYear cX12_isYear 2 (some .boolean)) B.pre
  have h2 : ∀ w ∈ gT, w.before ([.long y] : List Value).toArray s = true := fun w hw => hts0 w (List.mem_cons_of_mem _ hw)
  have hown : s.vm.findClass RX12 = some m.cls := findClass_of_methodNamed B.named
  have hl := lv_entry [.long y] (n := 2) (Nat.le_of_ble_eq_true rfl)
  rw [lg_entry_eq]
  generalize (lg_sl [.long y] ++ List.replicate (2 - (lg_sl [.long y]).length) Slot.unset).toArray = ls at hl ⊢
  have b_y := zn_i64 y
  refine lv_lload_n hx hb (eX12_isYear (0, .lload_n 0, 1) (List.mem_of_getElem? (i := 0) rfl)) rfl (lv_at hl 0 rfl) ?_
  refine ff_ldc2 (n := (-999999)) hx hb hown h2 (clX12_ok 68 (-999999) (List.mem_of_getElem? (i := 0) rfl)) (eX12_isYear (1, .ldc2_w 68, 3) (List.mem_of_getElem? (i := 1) rfl)) (fun v1 e1 => ?_)
  refine ff_ldc2 (n := 999999) hx hb hown h2 (clX12_ok 78 999999 (List.mem_of_getElem? (i := 1) rfl)) (eX12_isYear (4, .ldc2_w 78, 3) (List.mem_of_getElem? (i := 2) rfl)) (fun v2 e2 => ?_)
  refine zu_S (vs := [.long y, .long v1, .long v2]) (rest := []) hx hb hml hown hts0 zu_BT (hX12_isIn l y v1 v2) ⟨rfl, rfl⟩ ⟨by decide, by decide⟩ ⟨by decide, by decide⟩ (tb_7 47 rfl rfl) (tb_1 12 rfl rfl) (tb_7 45 rfl rfl) (tb_7 46 rfl rfl) (show yX12_isIn.cls ≠ "java/lang/invoke/MethodHandle" ∧ yX12_isIn.cls ≠ "java/lang/invoke/VarHandle" ∧ (parseMethodDescriptor yX12_isIn.desc).map (fun d => d.parameters.length) = some 3 by decide +kernel) rfl (fun _ _ _ => trivial) hl.1 (Nat.le_of_ble_eq_true rfl) (eX12_isYear (7, .invokestatic 130, 3) (List.mem_of_getElem? (i := 3) rfl)) (fun w3 f3 => ?_)
  obtain ⟨v3, rfl, e3⟩ := f3
  exact zu_iret (y := yX12_isYear) (ws := []) (rm := {}) hx hb hr hlk (zn_bool (by omega) (by omega)) ⟨_, rfl, by omega⟩ (eX12_isYear (10, .ireturn, 1) (List.mem_of_getElem? (i := 4) rfl))
set_option maxRecDepth 100000 in
set_option maxHeartbeats 4000000 in
theorem hX12_isLeapYear (l : Launch) (y : Int64)  : zu_M l yX12_isLeapYear (gW yX12_isLeapYear cX12_isLeapYear 2 (some .boolean)) { frames := 0, cells := 0, slots := 0, locals := 0 } (fun vs => vs = [.long y]) zT (fun _ w => ∃ r : Int32, w = .int r ∧ r.toInt = lpI y.toInt) := by
  refine zy_ofW (cc := cX12_isLeapYear) (maxL := 2) (ret := (some .boolean)) (by decide +kernel) rfl ?_
  intro p e s m args below meth c s1 B hml hv
  obtain ⟨vs, rfl, rfl, hKp⟩ := hv
  have hx := B.exec
  have hb := B.bytes
  have hr := B.returns
  have hlk := B.notSynchronized
  have hts0 := atoms_spec (ws := gW yX12_isLeapYear cX12_isLeapYear 2 (some .boolean)) B.pre
  have h2 : ∀ w ∈ gT, w.before ([.long y] : List Value).toArray s = true := fun w hw => hts0 w (List.mem_cons_of_mem _ hw)
  have hown : s.vm.findClass RX12 = some m.cls := findClass_of_methodNamed B.named
  have hl := lv_entry [.long y] (n := 2) (Nat.le_of_ble_eq_true rfl)
  rw [lg_entry_eq]
  generalize (lg_sl [.long y] ++ List.replicate (2 - (lg_sl [.long y]).length) Slot.unset).toArray = ls at hl ⊢
  have b_y := zn_i64 y
  refine lv_lload_n hx hb (eX12_isLeapYear (0, .lload_n 0, 1) (List.mem_of_getElem? (i := 0) rfl)) rfl (lv_at hl 0 rfl) ?_
  refine ff_ldc2 (n := 4) hx hb hown h2 (clX12_ok 89 4 (List.mem_of_getElem? (i := 3) rfl)) (eX12_isLeapYear (1, .ldc2_w 89, 3) (List.mem_of_getElem? (i := 1) rfl)) (fun v1 e1 => ?_)
  refine ff_lrem hx hb (eX12_isLeapYear (4, .lrem, 1) (List.mem_of_getElem? (i := 2) rfl)) (e1) (by decide) (fun v2 e2 => ?_)
  refine ff_lconst hx hb (eX12_isLeapYear (5, .lconst 0, 1) (List.mem_of_getElem? (i := 3) rfl)) rfl (fun v3 e3 => ?_)
  refine ff_lcmp hx hb (eX12_isLeapYear (6, .lcmp, 1) (List.mem_of_getElem? (i := 4) rfl)) (fun v4 e4 => ?_)
  refine ff_if_ne hx hb (eX12_isLeapYear (7, .ifCond .ne 27, 3) (List.mem_of_getElem? (i := 5) rfl)) (tgt := 34) rfl (fun c5 => ?_) (fun c5 => ?_)
  · skip
    refine ff_iconst hx hb (eX12_isLeapYear (34, .iconst 0, 1) (List.mem_of_getElem? (i := 20) rfl)) (by decide) (by decide) (fun v6 e6 => ?_)
    exact zu_iret (y := yX12_isLeapYear) (ws := []) (rm := {}) hx hb hr hlk (zn_bool (by omega) (by omega)) ⟨_, rfl, by (unfold lpI; split <;> omega)⟩ (eX12_isLeapYear (35, .ireturn, 1) (List.mem_of_getElem? (i := 21) rfl))
  · skip
    refine lv_lload_n hx hb (eX12_isLeapYear (10, .lload_n 0, 1) (List.mem_of_getElem? (i := 6) rfl)) rfl (lv_at hl 0 rfl) ?_
    refine ff_ldc2 (n := 100) hx hb hown h2 (clX12_ok 91 100 (List.mem_of_getElem? (i := 4) rfl)) (eX12_isLeapYear (11, .ldc2_w 91, 3) (List.mem_of_getElem? (i := 7) rfl)) (fun v7 e7 => ?_)
    refine ff_lrem hx hb (eX12_isLeapYear (14, .lrem, 1) (List.mem_of_getElem? (i := 8) rfl)) (e7) (by decide) (fun v8 e8 => ?_)
    refine ff_lconst hx hb (eX12_isLeapYear (15, .lconst 0, 1) (List.mem_of_getElem? (i := 9) rfl)) rfl (fun v9 e9 => ?_)
    refine ff_lcmp hx hb (eX12_isLeapYear (16, .lcmp, 1) (List.mem_of_getElem? (i := 10) rfl)) (fun v10 e10 => ?_)
    refine ff_if_ne hx hb (eX12_isLeapYear (17, .ifCond .ne 13, 3) (List.mem_of_getElem? (i := 11) rfl)) (tgt := 30) rfl (fun c11 => ?_) (fun c11 => ?_)
    · skip
      refine ff_iconst hx hb (eX12_isLeapYear (30, .iconst 1, 1) (List.mem_of_getElem? (i := 18) rfl)) (by decide) (by decide) (fun v12 e12 => ?_)
      refine lv_goto hx hb (eX12_isLeapYear (31, .goto 4, 3) (List.mem_of_getElem? (i := 19) rfl)) (tgt := 35) rfl ?_
      exact zu_iret (y := yX12_isLeapYear) (ws := []) (rm := {}) hx hb hr hlk (zn_bool (by omega) (by omega)) ⟨_, rfl, by (unfold lpI; split <;> omega)⟩ (eX12_isLeapYear (35, .ireturn, 1) (List.mem_of_getElem? (i := 21) rfl))
    · skip
      refine lv_lload_n hx hb (eX12_isLeapYear (20, .lload_n 0, 1) (List.mem_of_getElem? (i := 12) rfl)) rfl (lv_at hl 0 rfl) ?_
      refine ff_ldc2 (n := 400) hx hb hown h2 (clX12_ok 93 400 (List.mem_of_getElem? (i := 5) rfl)) (eX12_isLeapYear (21, .ldc2_w 93, 3) (List.mem_of_getElem? (i := 13) rfl)) (fun v13 e13 => ?_)
      refine ff_lrem hx hb (eX12_isLeapYear (24, .lrem, 1) (List.mem_of_getElem? (i := 14) rfl)) (e13) (by decide) (fun v14 e14 => ?_)
      refine ff_lconst hx hb (eX12_isLeapYear (25, .lconst 0, 1) (List.mem_of_getElem? (i := 15) rfl)) rfl (fun v15 e15 => ?_)
      refine ff_lcmp hx hb (eX12_isLeapYear (26, .lcmp, 1) (List.mem_of_getElem? (i := 16) rfl)) (fun v16 e16 => ?_)
      refine ff_if_ne hx hb (eX12_isLeapYear (27, .ifCond .ne 7, 3) (List.mem_of_getElem? (i := 17) rfl)) (tgt := 34) rfl (fun c17 => ?_) (fun c17 => ?_)
      · skip
        refine ff_iconst hx hb (eX12_isLeapYear (34, .iconst 0, 1) (List.mem_of_getElem? (i := 20) rfl)) (by decide) (by decide) (fun v18 e18 => ?_)
        exact zu_iret (y := yX12_isLeapYear) (ws := []) (rm := {}) hx hb hr hlk (zn_bool (by omega) (by omega)) ⟨_, rfl, by (unfold lpI; split <;> omega)⟩ (eX12_isLeapYear (35, .ireturn, 1) (List.mem_of_getElem? (i := 21) rfl))
      · skip
        refine ff_iconst hx hb (eX12_isLeapYear (30, .iconst 1, 1) (List.mem_of_getElem? (i := 18) rfl)) (by decide) (by decide) (fun v19 e19 => ?_)
        refine lv_goto hx hb (eX12_isLeapYear (31, .goto 4, 3) (List.mem_of_getElem? (i := 19) rfl)) (tgt := 35) rfl ?_
        exact zu_iret (y := yX12_isLeapYear) (ws := []) (rm := {}) hx hb hr hlk (zn_bool (by omega) (by omega)) ⟨_, rfl, by (unfold lpI; split <;> omega)⟩ (eX12_isLeapYear (35, .ireturn, 1) (List.mem_of_getElem? (i := 21) rfl))
set_option maxRecDepth 100000 in
set_option maxHeartbeats 4000000 in
theorem hX12_daysOf (l : Launch) (y : Int64) (mo : Int32) (hm1 : 1 ≤ mo.toInt) (hm2 : mo.toInt ≤ 12) : zu_M l yX12_daysOf (gW yX12_daysOf cX12_daysOf 3 (some .int)) { frames := 1, cells := 0, slots := 0, locals := 21 } (fun vs => vs = [.long y, .int mo]) zT (fun _ w => ∃ r : Int32, w = .int r ∧ r.toInt = mlI y.toInt mo.toInt) := by
  refine zy_ofW (cc := cX12_daysOf) (maxL := 3) (ret := (some .int)) (by decide +kernel) rfl ?_
  intro p e s m args below meth c s1 B hml hv
  obtain ⟨vs, rfl, rfl, hKp⟩ := hv
  have hx := B.exec
  have hb := B.bytes
  have hr := B.returns
  have hlk := B.notSynchronized
  have hts0 := atoms_spec (ws := gW yX12_daysOf cX12_daysOf 3 (some .int)) B.pre
  have h2 : ∀ w ∈ gT, w.before ([.long y, .int mo] : List Value).toArray s = true := fun w hw => hts0 w (List.mem_cons_of_mem _ hw)
  have hown : s.vm.findClass RX12 = some m.cls := findClass_of_methodNamed B.named
  have hl := lv_entry [.long y, .int mo] (n := 3) (Nat.le_of_ble_eq_true rfl)
  rw [lg_entry_eq]
  generalize (lg_sl [.long y, .int mo] ++ List.replicate (3 - (lg_sl [.long y, .int mo]).length) Slot.unset).toArray = ls at hl ⊢
  have b_y := zn_i64 y
  have b_mo := zn_i32 mo
  refine lv_iload_n hx hb (eX12_daysOf (0, .iload_n 2, 1) (List.mem_of_getElem? (i := 0) rfl)) rfl (lv_at hl 1 rfl) ?_
  refine ff_iconst hx hb (eX12_daysOf (1, .iconst 2, 1) (List.mem_of_getElem? (i := 1) rfl)) (by decide) (by decide) (fun v1 e1 => ?_)
  refine ff_icmp_ne hx hb (eX12_daysOf (2, .if_icmp .ne 20, 3) (List.mem_of_getElem? (i := 2) rfl)) (tgt := 22) rfl (fun c2 => ?_) (fun c2 => ?_)
  · skip
    refine lv_iload_n hx hb (eX12_daysOf (22, .iload_n 2, 1) (List.mem_of_getElem? (i := 10) rfl)) rfl (lv_at hl 1 rfl) ?_
    refine ff_iconst hx hb (eX12_daysOf (23, .iconst 4, 1) (List.mem_of_getElem? (i := 11) rfl)) (by decide) (by decide) (fun v3 e3 => ?_)
    refine ff_icmp_eq hx hb (eX12_daysOf (24, .if_icmp .eq 21, 3) (List.mem_of_getElem? (i := 12) rfl)) (tgt := 45) rfl (fun c4 => ?_) (fun c4 => ?_)
    · skip
      refine ff_bipush hx hb (eX12_daysOf (45, .bipush 30, 2) (List.mem_of_getElem? (i := 22) rfl)) (by decide) (by decide) (fun v5 e5 => ?_)
      refine lv_goto hx hb (eX12_daysOf (47, .goto 5, 3) (List.mem_of_getElem? (i := 23) rfl)) (tgt := 52) rfl ?_
      exact zu_iret (y := yX12_daysOf) (ws := []) (rm := {}) hx hb hr hlk rfl ⟨_, rfl, by (have h9 := ml_v y.toInt mo.toInt; omega)⟩ (eX12_daysOf (52, .ireturn, 1) (List.mem_of_getElem? (i := 25) rfl))
    · skip
      refine lv_iload_n hx hb (eX12_daysOf (27, .iload_n 2, 1) (List.mem_of_getElem? (i := 13) rfl)) rfl (lv_at hl 1 rfl) ?_
      refine ff_bipush hx hb (eX12_daysOf (28, .bipush 6, 2) (List.mem_of_getElem? (i := 14) rfl)) (by decide) (by decide) (fun v6 e6 => ?_)
      refine ff_icmp_eq hx hb (eX12_daysOf (30, .if_icmp .eq 15, 3) (List.mem_of_getElem? (i := 15) rfl)) (tgt := 45) rfl (fun c7 => ?_) (fun c7 => ?_)
      · skip
        refine ff_bipush hx hb (eX12_daysOf (45, .bipush 30, 2) (List.mem_of_getElem? (i := 22) rfl)) (by decide) (by decide) (fun v8 e8 => ?_)
        refine lv_goto hx hb (eX12_daysOf (47, .goto 5, 3) (List.mem_of_getElem? (i := 23) rfl)) (tgt := 52) rfl ?_
        exact zu_iret (y := yX12_daysOf) (ws := []) (rm := {}) hx hb hr hlk rfl ⟨_, rfl, by (have h9 := ml_v y.toInt mo.toInt; omega)⟩ (eX12_daysOf (52, .ireturn, 1) (List.mem_of_getElem? (i := 25) rfl))
      · skip
        refine lv_iload_n hx hb (eX12_daysOf (33, .iload_n 2, 1) (List.mem_of_getElem? (i := 16) rfl)) rfl (lv_at hl 1 rfl) ?_
        refine ff_bipush hx hb (eX12_daysOf (34, .bipush 9, 2) (List.mem_of_getElem? (i := 17) rfl)) (by decide) (by decide) (fun v9 e9 => ?_)
        refine ff_icmp_eq hx hb (eX12_daysOf (36, .if_icmp .eq 9, 3) (List.mem_of_getElem? (i := 18) rfl)) (tgt := 45) rfl (fun c10 => ?_) (fun c10 => ?_)
        · skip
          refine ff_bipush hx hb (eX12_daysOf (45, .bipush 30, 2) (List.mem_of_getElem? (i := 22) rfl)) (by decide) (by decide) (fun v11 e11 => ?_)
          refine lv_goto hx hb (eX12_daysOf (47, .goto 5, 3) (List.mem_of_getElem? (i := 23) rfl)) (tgt := 52) rfl ?_
          exact zu_iret (y := yX12_daysOf) (ws := []) (rm := {}) hx hb hr hlk rfl ⟨_, rfl, by (have h9 := ml_v y.toInt mo.toInt; omega)⟩ (eX12_daysOf (52, .ireturn, 1) (List.mem_of_getElem? (i := 25) rfl))
        · skip
          refine lv_iload_n hx hb (eX12_daysOf (39, .iload_n 2, 1) (List.mem_of_getElem? (i := 19) rfl)) rfl (lv_at hl 1 rfl) ?_
          refine ff_bipush hx hb (eX12_daysOf (40, .bipush 11, 2) (List.mem_of_getElem? (i := 20) rfl)) (by decide) (by decide) (fun v12 e12 => ?_)
          refine ff_icmp_ne hx hb (eX12_daysOf (42, .if_icmp .ne 8, 3) (List.mem_of_getElem? (i := 21) rfl)) (tgt := 50) rfl (fun c13 => ?_) (fun c13 => ?_)
          · skip
            refine ff_bipush hx hb (eX12_daysOf (50, .bipush 31, 2) (List.mem_of_getElem? (i := 24) rfl)) (by decide) (by decide) (fun v14 e14 => ?_)
            exact zu_iret (y := yX12_daysOf) (ws := []) (rm := {}) hx hb hr hlk rfl ⟨_, rfl, by (have h9 := ml_v y.toInt mo.toInt; omega)⟩ (eX12_daysOf (52, .ireturn, 1) (List.mem_of_getElem? (i := 25) rfl))
          · skip
            refine ff_bipush hx hb (eX12_daysOf (45, .bipush 30, 2) (List.mem_of_getElem? (i := 22) rfl)) (by decide) (by decide) (fun v15 e15 => ?_)
            refine lv_goto hx hb (eX12_daysOf (47, .goto 5, 3) (List.mem_of_getElem? (i := 23) rfl)) (tgt := 52) rfl ?_
            exact zu_iret (y := yX12_daysOf) (ws := []) (rm := {}) hx hb hr hlk rfl ⟨_, rfl, by (have h9 := ml_v y.toInt mo.toInt; omega)⟩ (eX12_daysOf (52, .ireturn, 1) (List.mem_of_getElem? (i := 25) rfl))
  · skip
    refine lv_lload_n hx hb (eX12_daysOf (5, .lload_n 0, 1) (List.mem_of_getElem? (i := 3) rfl)) rfl (lv_at hl 0 rfl) ?_
    refine zu_S (vs := [.long y]) (rest := []) hx hb hml hown hts0 zu_BT (hX12_isLeapYear l y) ⟨rfl, rfl⟩ ⟨by decide, by decide⟩ ⟨by decide, by decide⟩ (tb_7 54 rfl rfl) (tb_1 12 rfl rfl) (tb_7 52 rfl rfl) (tb_7 53 rfl rfl) (show yX12_isLeapYear.cls ≠ "java/lang/invoke/MethodHandle" ∧ yX12_isLeapYear.cls ≠ "java/lang/invoke/VarHandle" ∧ (parseMethodDescriptor yX12_isLeapYear.desc).map (fun d => d.parameters.length) = some 1 by decide +kernel) rfl (fun _ _ _ => trivial) hl.1 (Nat.le_of_ble_eq_true rfl) (eX12_daysOf (6, .invokestatic 95, 3) (List.mem_of_getElem? (i := 4) rfl)) (fun w16 f16 => ?_)
    obtain ⟨v16, rfl, e16⟩ := f16
    have g16 := lpI_bd y.toInt
    refine ff_if_eq hx hb (eX12_daysOf (9, .ifCond .eq 8, 3) (List.mem_of_getElem? (i := 5) rfl)) (tgt := 17) rfl (fun c17 => ?_) (fun c17 => ?_)
    · skip
      refine ff_bipush hx hb (eX12_daysOf (17, .bipush 28, 2) (List.mem_of_getElem? (i := 8) rfl)) (by decide) (by decide) (fun v18 e18 => ?_)
      refine lv_goto hx hb (eX12_daysOf (19, .goto 33, 3) (List.mem_of_getElem? (i := 9) rfl)) (tgt := 52) rfl ?_
      exact zu_iret (y := yX12_daysOf) (ws := []) (rm := {}) hx hb hr hlk rfl ⟨_, rfl, by (have h9 := ml_v y.toInt mo.toInt; omega)⟩ (eX12_daysOf (52, .ireturn, 1) (List.mem_of_getElem? (i := 25) rfl))
    · skip
      refine ff_bipush hx hb (eX12_daysOf (12, .bipush 29, 2) (List.mem_of_getElem? (i := 6) rfl)) (by decide) (by decide) (fun v19 e19 => ?_)
      refine lv_goto hx hb (eX12_daysOf (14, .goto 38, 3) (List.mem_of_getElem? (i := 7) rfl)) (tgt := 52) rfl ?_
      exact zu_iret (y := yX12_daysOf) (ws := []) (rm := {}) hx hb hr hlk rfl ⟨_, rfl, by (have h9 := ml_v y.toInt mo.toInt; omega)⟩ (eX12_daysOf (52, .ireturn, 1) (List.mem_of_getElem? (i := 25) rfl))
set_option maxRecDepth 100000 in
set_option maxHeartbeats 4000000 in
theorem hX12_down (l : Launch) (a : Int64) (v900 : Int64) (e900 : v900.toInt = 400) (ha1 : -9000000000000000000 ≤ a.toInt) (ha2 : a.toInt ≤ 9000000000000000000) : zu_M l yX12_down (gW yX12_down cX12_down 6 (some .long)) { frames := 0, cells := 0, slots := 0, locals := 0 } (fun vs => vs = [.long a, .long v900]) zT (fun _ w => ∃ r : Int64, w = .long r ∧ 400 * r.toInt ≤ a.toInt ∧ a.toInt ≤ 400 * r.toInt + 399) := by
  refine zy_ofW (cc := cX12_down) (maxL := 6) (ret := (some .long)) (by decide +kernel) rfl ?_
  intro p e s m args below meth c s1 B hml hv
  obtain ⟨vs, rfl, rfl, hKp⟩ := hv
  have hx := B.exec
  have hb := B.bytes
  have hr := B.returns
  have hlk := B.notSynchronized
  have hts0 := atoms_spec (ws := gW yX12_down cX12_down 6 (some .long)) B.pre
  have h2 : ∀ w ∈ gT, w.before ([.long a, .long v900] : List Value).toArray s = true := fun w hw => hts0 w (List.mem_cons_of_mem _ hw)
  have hown : s.vm.findClass RX12 = some m.cls := findClass_of_methodNamed B.named
  have hl := lv_entry [.long a, .long v900] (n := 6) (Nat.le_of_ble_eq_true rfl)
  rw [lg_entry_eq]
  generalize (lg_sl [.long a, .long v900] ++ List.replicate (6 - (lg_sl [.long a, .long v900]).length) Slot.unset).toArray = ls at hl ⊢
  have b_a := zn_i64 a
  have b_v900 := zn_i64 v900
  refine lv_lload_n hx hb (eX12_down (0, .lload_n 0, 1) (List.mem_of_getElem? (i := 0) rfl)) rfl (lv_at hl 0 rfl) ?_
  refine lv_lload_n hx hb (eX12_down (1, .lload_n 2, 1) (List.mem_of_getElem? (i := 1) rfl)) rfl (lv_at hl 1 rfl) ?_
  refine ff_ldiv hx hb (eX12_down (2, .ldiv, 1) (List.mem_of_getElem? (i := 2) rfl)) (e900) (by decide) (fun v1 e1 => ?_)
  refine lv_lstore hx hb (eX12_down (3, .lstore 4, 2) (List.mem_of_getElem? (i := 3) rfl)) hl (by decide) rfl (fun ls2 hl2 => ?_)
  refine lv_lload_n hx hb (eX12_down (5, .lload_n 0, 1) (List.mem_of_getElem? (i := 4) rfl)) rfl (lv_at hl2 1 rfl) ?_
  refine lv_lload_n hx hb (eX12_down (6, .lload_n 2, 1) (List.mem_of_getElem? (i := 5) rfl)) rfl (lv_at hl2 2 rfl) ?_
  refine ff_lrem hx hb (eX12_down (7, .lrem, 1) (List.mem_of_getElem? (i := 6) rfl)) (e900) (by decide) (fun v3 e3 => ?_)
  refine ff_lconst hx hb (eX12_down (8, .lconst 0, 1) (List.mem_of_getElem? (i := 7) rfl)) rfl (fun v4 e4 => ?_)
  refine ff_lcmp hx hb (eX12_down (9, .lcmp, 1) (List.mem_of_getElem? (i := 8) rfl)) (fun v5 e5 => ?_)
  refine ff_if_ge hx hb (eX12_down (10, .ifCond .ge 10, 3) (List.mem_of_getElem? (i := 9) rfl)) (tgt := 20) rfl (fun c6 => ?_) (fun c6 => ?_)
  · skip
    refine lv_lload hx hb (eX12_down (20, .lload 4, 2) (List.mem_of_getElem? (i := 14) rfl)) (lv_at hl2 0 rfl) ?_
    exact zu_lret (y := yX12_down) (ws := []) (rm := {}) hx hb hr hlk ⟨_, rfl, by omega⟩ (eX12_down (22, .lreturn, 1) (List.mem_of_getElem? (i := 15) rfl))
  · skip
    refine lv_lload hx hb (eX12_down (13, .lload 4, 2) (List.mem_of_getElem? (i := 10) rfl)) (lv_at hl2 0 rfl) ?_
    refine ff_lconst hx hb (eX12_down (15, .lconst 1, 1) (List.mem_of_getElem? (i := 11) rfl)) rfl (fun v7 e7 => ?_)
    refine ff_lsub hx hb (eX12_down (16, .lsub, 1) (List.mem_of_getElem? (i := 12) rfl)) (by omega) (by omega) (fun v8 e8 => ?_)
    refine lv_goto hx hb (eX12_down (17, .goto 5, 3) (List.mem_of_getElem? (i := 13) rfl)) (tgt := 22) rfl ?_
    exact zu_lret (y := yX12_down) (ws := []) (rm := {}) hx hb hr hlk ⟨_, rfl, by omega⟩ (eX12_down (22, .lreturn, 1) (List.mem_of_getElem? (i := 15) rfl))
set_option maxRecDepth 100000 in
set_option maxHeartbeats 4000000 in
theorem hX12_dayOf (l : Launch) (y : Int64) (mo : Int32) (dd : Int32) (hy1 : -1000001 ≤ y.toInt) (hy2 : y.toInt ≤ 1000001) (hm1 : 1 ≤ mo.toInt) (hm2 : mo.toInt ≤ 12) (hd1 : 1 ≤ dd.toInt) (hd2 : dd.toInt ≤ 31) : zu_M l yX12_dayOf (gW yX12_dayOf cX12_dayOf 12 (some .long)) { frames := 1, cells := 0, slots := 0, locals := 25 } (fun vs => vs = [.long y, .int mo, .int dd]) zT (fun _ w => ∃ r : Int64, w = .long r ∧ r.toInt = nuI y.toInt mo.toInt dd.toInt) := by
  refine zy_ofW (cc := cX12_dayOf) (maxL := 12) (ret := (some .long)) (by decide +kernel) rfl ?_
  intro p e s m args below meth c s1 B hml hv
  obtain ⟨vs, rfl, rfl, hKp⟩ := hv
  have hx := B.exec
  have hb := B.bytes
  have hr := B.returns
  have hlk := B.notSynchronized
  have hts0 := atoms_spec (ws := gW yX12_dayOf cX12_dayOf 12 (some .long)) B.pre
  have h2 : ∀ w ∈ gT, w.before ([.long y, .int mo, .int dd] : List Value).toArray s = true := fun w hw => hts0 w (List.mem_cons_of_mem _ hw)
  have hown : s.vm.findClass RX12 = some m.cls := findClass_of_methodNamed B.named
  have hl := lv_entry [.long y, .int mo, .int dd] (n := 12) (Nat.le_of_ble_eq_true rfl)
  rw [lg_entry_eq]
  generalize (lg_sl [.long y, .int mo, .int dd] ++ List.replicate (12 - (lg_sl [.long y, .int mo, .int dd]).length) Slot.unset).toArray = ls at hl ⊢
  have b_y := zn_i64 y
  have b_mo := zn_i32 mo
  have b_dd := zn_i32 dd
  refine lv_iload_n hx hb (eX12_dayOf (0, .iload_n 2, 1) (List.mem_of_getElem? (i := 0) rfl)) rfl (lv_at hl 1 rfl) ?_
  refine ff_iconst hx hb (eX12_dayOf (1, .iconst 2, 1) (List.mem_of_getElem? (i := 1) rfl)) (by decide) (by decide) (fun v1 e1 => ?_)
  refine ff_icmp_gt hx hb (eX12_dayOf (2, .if_icmp .gt 9, 3) (List.mem_of_getElem? (i := 2) rfl)) (tgt := 11) rfl (fun c2 => ?_) (fun c2 => ?_)
  · skip
    refine lv_lload_n hx hb (eX12_dayOf (11, .lload_n 0, 1) (List.mem_of_getElem? (i := 7) rfl)) rfl (lv_at hl 0 rfl) ?_
    refine lv_lstore hx hb (eX12_dayOf (12, .lstore 4, 2) (List.mem_of_getElem? (i := 8) rfl)) hl (by decide) rfl (fun ls3 hl3 => ?_)
    refine lv_lload hx hb (eX12_dayOf (14, .lload 4, 2) (List.mem_of_getElem? (i := 9) rfl)) (lv_at hl3 0 rfl) ?_
    refine ff_ldc2 (n := 400) hx hb hown h2 (clX12_ok 93 400 (List.mem_of_getElem? (i := 5) rfl)) (eX12_dayOf (16, .ldc2_w 93, 3) (List.mem_of_getElem? (i := 10) rfl)) (fun v4 e4 => ?_)
    refine zu_S (vs := [.long y, .long v4]) (rest := []) hx hb hml hown hts0 zu_BT (hX12_down l y v4 (by omega) (by omega) (by omega)) ⟨rfl, rfl⟩ ⟨by decide, by decide⟩ ⟨by decide, by decide⟩ (tb_6 139 rfl rfl) (tb_1 12 rfl rfl) (tb_6 137 rfl rfl) (tb_6 138 rfl rfl) (show yX12_down.cls ≠ "java/lang/invoke/MethodHandle" ∧ yX12_down.cls ≠ "java/lang/invoke/VarHandle" ∧ (parseMethodDescriptor yX12_down.desc).map (fun d => d.parameters.length) = some 2 by decide +kernel) rfl (fun _ _ _ => trivial) hl3.1 (Nat.le_of_ble_eq_true rfl) (eX12_dayOf (19, .invokestatic 99, 3) (List.mem_of_getElem? (i := 11) rfl)) (fun w5 f5 => ?_)
    obtain ⟨v5, rfl, e5⟩ := f5
    refine lv_lstore hx hb (eX12_dayOf (22, .lstore 6, 2) (List.mem_of_getElem? (i := 12) rfl)) hl3 (by decide) rfl (fun ls6 hl6 => ?_)
    refine lv_lload hx hb (eX12_dayOf (24, .lload 4, 2) (List.mem_of_getElem? (i := 13) rfl)) (lv_at hl6 1 rfl) ?_
    refine lv_lload hx hb (eX12_dayOf (26, .lload 6, 2) (List.mem_of_getElem? (i := 14) rfl)) (lv_at hl6 0 rfl) ?_
    refine ff_ldc2 (n := 400) hx hb hown h2 (clX12_ok 93 400 (List.mem_of_getElem? (i := 5) rfl)) (eX12_dayOf (28, .ldc2_w 93, 3) (List.mem_of_getElem? (i := 15) rfl)) (fun v7 e7 => ?_)
    refine ff_lmulR hx hb (eX12_dayOf (31, .lmul, 1) (List.mem_of_getElem? (i := 16) rfl)) (e7) (by omega) (by omega) (fun v8 e8 => ?_)
    refine ff_lsub hx hb (eX12_dayOf (32, .lsub, 1) (List.mem_of_getElem? (i := 17) rfl)) (by omega) (by omega) (fun v9 e9 => ?_)
    refine lv_lstore hx hb (eX12_dayOf (33, .lstore 8, 2) (List.mem_of_getElem? (i := 18) rfl)) hl6 (by decide) rfl (fun ls10 hl10 => ?_)
    refine ff_ldc2 (n := 153) hx hb hown h2 (clX12_ok 103 153 (List.mem_of_getElem? (i := 6) rfl)) (eX12_dayOf (35, .ldc2_w 103, 3) (List.mem_of_getElem? (i := 19) rfl)) (fun v11 e11 => ?_)
    refine lv_iload_n hx hb (eX12_dayOf (38, .iload_n 2, 1) (List.mem_of_getElem? (i := 20) rfl)) rfl (lv_at hl10 4 rfl) ?_
    refine lv_iload_n hx hb (eX12_dayOf (39, .iload_n 2, 1) (List.mem_of_getElem? (i := 21) rfl)) rfl (lv_at hl10 4 rfl) ?_
    refine ff_iconst hx hb (eX12_dayOf (40, .iconst 2, 1) (List.mem_of_getElem? (i := 22) rfl)) (by decide) (by decide) (fun v12 e12 => ?_)
    refine ff_icmp_le hx hb (eX12_dayOf (41, .if_icmp .le 8, 3) (List.mem_of_getElem? (i := 23) rfl)) (tgt := 49) rfl (fun c13 => ?_) (fun c13 => ?_)
    · skip
      refine ff_bipush hx hb (eX12_dayOf (49, .bipush 9, 2) (List.mem_of_getElem? (i := 26) rfl)) (by decide) (by decide) (fun v14 e14 => ?_)
      refine ff_iadd hx hb (eX12_dayOf (51, .iadd, 1) (List.mem_of_getElem? (i := 27) rfl)) (by omega) (by omega) (fun v15 e15 => ?_)
      refine ff_i2l hx hb (eX12_dayOf (52, .i2l, 1) (List.mem_of_getElem? (i := 28) rfl)) (fun v16 e16 => ?_)
      refine ff_lmulL hx hb (eX12_dayOf (53, .lmul, 1) (List.mem_of_getElem? (i := 29) rfl)) (e11) (by omega) (by omega) (fun v17 e17 => ?_)
      refine ff_ldc2 (n := 2) hx hb hown h2 (clX12_ok 105 2 (List.mem_of_getElem? (i := 7) rfl)) (eX12_dayOf (54, .ldc2_w 105, 3) (List.mem_of_getElem? (i := 30) rfl)) (fun v18 e18 => ?_)
      refine ff_ladd hx hb (eX12_dayOf (57, .ladd, 1) (List.mem_of_getElem? (i := 31) rfl)) (by omega) (by omega) (fun v19 e19 => ?_)
      refine ff_ldc2 (n := 5) hx hb hown h2 (clX12_ok 107 5 (List.mem_of_getElem? (i := 8) rfl)) (eX12_dayOf (58, .ldc2_w 107, 3) (List.mem_of_getElem? (i := 32) rfl)) (fun v20 e20 => ?_)
      refine ff_ldivP hx hb (eX12_dayOf (61, .ldiv, 1) (List.mem_of_getElem? (i := 33) rfl)) (by omega) (e20) (by decide) (fun v21 e21 => ?_)
      refine lv_iload_n hx hb (eX12_dayOf (62, .iload_n 3, 1) (List.mem_of_getElem? (i := 34) rfl)) rfl (lv_at hl10 5 rfl) ?_
      refine ff_i2l hx hb (eX12_dayOf (63, .i2l, 1) (List.mem_of_getElem? (i := 35) rfl)) (fun v22 e22 => ?_)
      refine ff_ladd hx hb (eX12_dayOf (64, .ladd, 1) (List.mem_of_getElem? (i := 36) rfl)) (by omega) (by omega) (fun v23 e23 => ?_)
      refine ff_lconst hx hb (eX12_dayOf (65, .lconst 1, 1) (List.mem_of_getElem? (i := 37) rfl)) rfl (fun v24 e24 => ?_)
      refine ff_lsub hx hb (eX12_dayOf (66, .lsub, 1) (List.mem_of_getElem? (i := 38) rfl)) (by omega) (by omega) (fun v25 e25 => ?_)
      refine lv_lstore hx hb (eX12_dayOf (67, .lstore 10, 2) (List.mem_of_getElem? (i := 39) rfl)) hl10 (by decide) rfl (fun ls26 hl26 => ?_)
      refine lv_lload hx hb (eX12_dayOf (69, .lload 6, 2) (List.mem_of_getElem? (i := 40) rfl)) (lv_at hl26 2 rfl) ?_
      refine ff_ldc2 (n := 146097) hx hb hown h2 (clX12_ok 109 146097 (List.mem_of_getElem? (i := 9) rfl)) (eX12_dayOf (71, .ldc2_w 109, 3) (List.mem_of_getElem? (i := 41) rfl)) (fun v27 e27 => ?_)
      refine ff_lmulR hx hb (eX12_dayOf (74, .lmul, 1) (List.mem_of_getElem? (i := 42) rfl)) (e27) (by omega) (by omega) (fun v28 e28 => ?_)
      refine lv_lload hx hb (eX12_dayOf (75, .lload 8, 2) (List.mem_of_getElem? (i := 43) rfl)) (lv_at hl26 1 rfl) ?_
      refine ff_ldc2 (n := 365) hx hb hown h2 (clX12_ok 111 365 (List.mem_of_getElem? (i := 10) rfl)) (eX12_dayOf (77, .ldc2_w 111, 3) (List.mem_of_getElem? (i := 44) rfl)) (fun v29 e29 => ?_)
      refine ff_lmulR hx hb (eX12_dayOf (80, .lmul, 1) (List.mem_of_getElem? (i := 45) rfl)) (e29) (by omega) (by omega) (fun v30 e30 => ?_)
      refine ff_ladd hx hb (eX12_dayOf (81, .ladd, 1) (List.mem_of_getElem? (i := 46) rfl)) (by omega) (by omega) (fun v31 e31 => ?_)
      refine lv_lload hx hb (eX12_dayOf (82, .lload 8, 2) (List.mem_of_getElem? (i := 47) rfl)) (lv_at hl26 1 rfl) ?_
      refine ff_ldc2 (n := 4) hx hb hown h2 (clX12_ok 89 4 (List.mem_of_getElem? (i := 3) rfl)) (eX12_dayOf (84, .ldc2_w 89, 3) (List.mem_of_getElem? (i := 48) rfl)) (fun v32 e32 => ?_)
      refine ff_ldivP hx hb (eX12_dayOf (87, .ldiv, 1) (List.mem_of_getElem? (i := 49) rfl)) (by omega) (e32) (by decide) (fun v33 e33 => ?_)
      refine ff_ladd hx hb (eX12_dayOf (88, .ladd, 1) (List.mem_of_getElem? (i := 50) rfl)) (by omega) (by omega) (fun v34 e34 => ?_)
      refine lv_lload hx hb (eX12_dayOf (89, .lload 8, 2) (List.mem_of_getElem? (i := 51) rfl)) (lv_at hl26 1 rfl) ?_
      refine ff_ldc2 (n := 100) hx hb hown h2 (clX12_ok 91 100 (List.mem_of_getElem? (i := 4) rfl)) (eX12_dayOf (91, .ldc2_w 91, 3) (List.mem_of_getElem? (i := 52) rfl)) (fun v35 e35 => ?_)
      refine ff_ldivP hx hb (eX12_dayOf (94, .ldiv, 1) (List.mem_of_getElem? (i := 53) rfl)) (by omega) (e35) (by decide) (fun v36 e36 => ?_)
      refine ff_lsub hx hb (eX12_dayOf (95, .lsub, 1) (List.mem_of_getElem? (i := 54) rfl)) (by omega) (by omega) (fun v37 e37 => ?_)
      refine lv_lload hx hb (eX12_dayOf (96, .lload 10, 2) (List.mem_of_getElem? (i := 55) rfl)) (lv_at hl26 0 rfl) ?_
      refine ff_ladd hx hb (eX12_dayOf (98, .ladd, 1) (List.mem_of_getElem? (i := 56) rfl)) (by omega) (by omega) (fun v38 e38 => ?_)
      refine ff_ldc2 (n := 719468) hx hb hown h2 (clX12_ok 113 719468 (List.mem_of_getElem? (i := 11) rfl)) (eX12_dayOf (99, .ldc2_w 113, 3) (List.mem_of_getElem? (i := 57) rfl)) (fun v39 e39 => ?_)
      refine ff_lsub hx hb (eX12_dayOf (102, .lsub, 1) (List.mem_of_getElem? (i := 58) rfl)) (by omega) (by omega) (fun v40 e40 => ?_)
      exact zu_lret (y := yX12_dayOf) (ws := []) (rm := {}) hx hb hr hlk ⟨_, rfl, by (have h9 := nu_ref (y := y.toInt) (m := mo.toInt) (d := dd.toInt) (era := v5.toInt) (yo := v9.toInt) (pl := v25.toInt) hm1 hm2 (by omega) (by omega) (fun _ => ⟨by omega, by omega⟩) (fun _ => ⟨by omega, by omega⟩); omega)⟩ (eX12_dayOf (103, .lreturn, 1) (List.mem_of_getElem? (i := 59) rfl))
    · skip
      refine ff_bipush hx hb (eX12_dayOf (44, .bipush (-3), 2) (List.mem_of_getElem? (i := 24) rfl)) (by decide) (by decide) (fun v41 e41 => ?_)
      refine lv_goto hx hb (eX12_dayOf (46, .goto 5, 3) (List.mem_of_getElem? (i := 25) rfl)) (tgt := 51) rfl ?_
      refine ff_iadd hx hb (eX12_dayOf (51, .iadd, 1) (List.mem_of_getElem? (i := 27) rfl)) (by omega) (by omega) (fun v42 e42 => ?_)
      refine ff_i2l hx hb (eX12_dayOf (52, .i2l, 1) (List.mem_of_getElem? (i := 28) rfl)) (fun v43 e43 => ?_)
      refine ff_lmulL hx hb (eX12_dayOf (53, .lmul, 1) (List.mem_of_getElem? (i := 29) rfl)) (e11) (by omega) (by omega) (fun v44 e44 => ?_)
      refine ff_ldc2 (n := 2) hx hb hown h2 (clX12_ok 105 2 (List.mem_of_getElem? (i := 7) rfl)) (eX12_dayOf (54, .ldc2_w 105, 3) (List.mem_of_getElem? (i := 30) rfl)) (fun v45 e45 => ?_)
      refine ff_ladd hx hb (eX12_dayOf (57, .ladd, 1) (List.mem_of_getElem? (i := 31) rfl)) (by omega) (by omega) (fun v46 e46 => ?_)
      refine ff_ldc2 (n := 5) hx hb hown h2 (clX12_ok 107 5 (List.mem_of_getElem? (i := 8) rfl)) (eX12_dayOf (58, .ldc2_w 107, 3) (List.mem_of_getElem? (i := 32) rfl)) (fun v47 e47 => ?_)
      refine ff_ldivP hx hb (eX12_dayOf (61, .ldiv, 1) (List.mem_of_getElem? (i := 33) rfl)) (by omega) (e47) (by decide) (fun v48 e48 => ?_)
      refine lv_iload_n hx hb (eX12_dayOf (62, .iload_n 3, 1) (List.mem_of_getElem? (i := 34) rfl)) rfl (lv_at hl10 5 rfl) ?_
      refine ff_i2l hx hb (eX12_dayOf (63, .i2l, 1) (List.mem_of_getElem? (i := 35) rfl)) (fun v49 e49 => ?_)
      refine ff_ladd hx hb (eX12_dayOf (64, .ladd, 1) (List.mem_of_getElem? (i := 36) rfl)) (by omega) (by omega) (fun v50 e50 => ?_)
      refine ff_lconst hx hb (eX12_dayOf (65, .lconst 1, 1) (List.mem_of_getElem? (i := 37) rfl)) rfl (fun v51 e51 => ?_)
      refine ff_lsub hx hb (eX12_dayOf (66, .lsub, 1) (List.mem_of_getElem? (i := 38) rfl)) (by omega) (by omega) (fun v52 e52 => ?_)
      refine lv_lstore hx hb (eX12_dayOf (67, .lstore 10, 2) (List.mem_of_getElem? (i := 39) rfl)) hl10 (by decide) rfl (fun ls53 hl53 => ?_)
      refine lv_lload hx hb (eX12_dayOf (69, .lload 6, 2) (List.mem_of_getElem? (i := 40) rfl)) (lv_at hl53 2 rfl) ?_
      refine ff_ldc2 (n := 146097) hx hb hown h2 (clX12_ok 109 146097 (List.mem_of_getElem? (i := 9) rfl)) (eX12_dayOf (71, .ldc2_w 109, 3) (List.mem_of_getElem? (i := 41) rfl)) (fun v54 e54 => ?_)
      refine ff_lmulR hx hb (eX12_dayOf (74, .lmul, 1) (List.mem_of_getElem? (i := 42) rfl)) (e54) (by omega) (by omega) (fun v55 e55 => ?_)
      refine lv_lload hx hb (eX12_dayOf (75, .lload 8, 2) (List.mem_of_getElem? (i := 43) rfl)) (lv_at hl53 1 rfl) ?_
      refine ff_ldc2 (n := 365) hx hb hown h2 (clX12_ok 111 365 (List.mem_of_getElem? (i := 10) rfl)) (eX12_dayOf (77, .ldc2_w 111, 3) (List.mem_of_getElem? (i := 44) rfl)) (fun v56 e56 => ?_)
      refine ff_lmulR hx hb (eX12_dayOf (80, .lmul, 1) (List.mem_of_getElem? (i := 45) rfl)) (e56) (by omega) (by omega) (fun v57 e57 => ?_)
      refine ff_ladd hx hb (eX12_dayOf (81, .ladd, 1) (List.mem_of_getElem? (i := 46) rfl)) (by omega) (by omega) (fun v58 e58 => ?_)
      refine lv_lload hx hb (eX12_dayOf (82, .lload 8, 2) (List.mem_of_getElem? (i := 47) rfl)) (lv_at hl53 1 rfl) ?_
      refine ff_ldc2 (n := 4) hx hb hown h2 (clX12_ok 89 4 (List.mem_of_getElem? (i := 3) rfl)) (eX12_dayOf (84, .ldc2_w 89, 3) (List.mem_of_getElem? (i := 48) rfl)) (fun v59 e59 => ?_)
      refine ff_ldivP hx hb (eX12_dayOf (87, .ldiv, 1) (List.mem_of_getElem? (i := 49) rfl)) (by omega) (e59) (by decide) (fun v60 e60 => ?_)
      refine ff_ladd hx hb (eX12_dayOf (88, .ladd, 1) (List.mem_of_getElem? (i := 50) rfl)) (by omega) (by omega) (fun v61 e61 => ?_)
      refine lv_lload hx hb (eX12_dayOf (89, .lload 8, 2) (List.mem_of_getElem? (i := 51) rfl)) (lv_at hl53 1 rfl) ?_
      refine ff_ldc2 (n := 100) hx hb hown h2 (clX12_ok 91 100 (List.mem_of_getElem? (i := 4) rfl)) (eX12_dayOf (91, .ldc2_w 91, 3) (List.mem_of_getElem? (i := 52) rfl)) (fun v62 e62 => ?_)
      refine ff_ldivP hx hb (eX12_dayOf (94, .ldiv, 1) (List.mem_of_getElem? (i := 53) rfl)) (by omega) (e62) (by decide) (fun v63 e63 => ?_)
      refine ff_lsub hx hb (eX12_dayOf (95, .lsub, 1) (List.mem_of_getElem? (i := 54) rfl)) (by omega) (by omega) (fun v64 e64 => ?_)
      refine lv_lload hx hb (eX12_dayOf (96, .lload 10, 2) (List.mem_of_getElem? (i := 55) rfl)) (lv_at hl53 0 rfl) ?_
      refine ff_ladd hx hb (eX12_dayOf (98, .ladd, 1) (List.mem_of_getElem? (i := 56) rfl)) (by omega) (by omega) (fun v65 e65 => ?_)
      refine ff_ldc2 (n := 719468) hx hb hown h2 (clX12_ok 113 719468 (List.mem_of_getElem? (i := 11) rfl)) (eX12_dayOf (99, .ldc2_w 113, 3) (List.mem_of_getElem? (i := 57) rfl)) (fun v66 e66 => ?_)
      refine ff_lsub hx hb (eX12_dayOf (102, .lsub, 1) (List.mem_of_getElem? (i := 58) rfl)) (by omega) (by omega) (fun v67 e67 => ?_)
      exact zu_lret (y := yX12_dayOf) (ws := []) (rm := {}) hx hb hr hlk ⟨_, rfl, by (have h9 := nu_ref (y := y.toInt) (m := mo.toInt) (d := dd.toInt) (era := v5.toInt) (yo := v9.toInt) (pl := v52.toInt) hm1 hm2 (by omega) (by omega) (fun _ => ⟨by omega, by omega⟩) (fun _ => ⟨by omega, by omega⟩); omega)⟩ (eX12_dayOf (103, .lreturn, 1) (List.mem_of_getElem? (i := 59) rfl))
  · skip
    refine lv_lload_n hx hb (eX12_dayOf (5, .lload_n 0, 1) (List.mem_of_getElem? (i := 3) rfl)) rfl (lv_at hl 0 rfl) ?_
    refine ff_lconst hx hb (eX12_dayOf (6, .lconst 1, 1) (List.mem_of_getElem? (i := 4) rfl)) rfl (fun v68 e68 => ?_)
    refine ff_lsub hx hb (eX12_dayOf (7, .lsub, 1) (List.mem_of_getElem? (i := 5) rfl)) (by omega) (by omega) (fun v69 e69 => ?_)
    refine lv_goto hx hb (eX12_dayOf (8, .goto 4, 3) (List.mem_of_getElem? (i := 6) rfl)) (tgt := 12) rfl ?_
    refine lv_lstore hx hb (eX12_dayOf (12, .lstore 4, 2) (List.mem_of_getElem? (i := 8) rfl)) hl (by decide) rfl (fun ls70 hl70 => ?_)
    refine lv_lload hx hb (eX12_dayOf (14, .lload 4, 2) (List.mem_of_getElem? (i := 9) rfl)) (lv_at hl70 0 rfl) ?_
    refine ff_ldc2 (n := 400) hx hb hown h2 (clX12_ok 93 400 (List.mem_of_getElem? (i := 5) rfl)) (eX12_dayOf (16, .ldc2_w 93, 3) (List.mem_of_getElem? (i := 10) rfl)) (fun v71 e71 => ?_)
    refine zu_S (vs := [.long v69, .long v71]) (rest := []) hx hb hml hown hts0 zu_BT (hX12_down l v69 v71 (by omega) (by omega) (by omega)) ⟨rfl, rfl⟩ ⟨by decide, by decide⟩ ⟨by decide, by decide⟩ (tb_6 139 rfl rfl) (tb_1 12 rfl rfl) (tb_6 137 rfl rfl) (tb_6 138 rfl rfl) (show yX12_down.cls ≠ "java/lang/invoke/MethodHandle" ∧ yX12_down.cls ≠ "java/lang/invoke/VarHandle" ∧ (parseMethodDescriptor yX12_down.desc).map (fun d => d.parameters.length) = some 2 by decide +kernel) rfl (fun _ _ _ => trivial) hl70.1 (Nat.le_of_ble_eq_true rfl) (eX12_dayOf (19, .invokestatic 99, 3) (List.mem_of_getElem? (i := 11) rfl)) (fun w72 f72 => ?_)
    obtain ⟨v72, rfl, e72⟩ := f72
    refine lv_lstore hx hb (eX12_dayOf (22, .lstore 6, 2) (List.mem_of_getElem? (i := 12) rfl)) hl70 (by decide) rfl (fun ls73 hl73 => ?_)
    refine lv_lload hx hb (eX12_dayOf (24, .lload 4, 2) (List.mem_of_getElem? (i := 13) rfl)) (lv_at hl73 1 rfl) ?_
    refine lv_lload hx hb (eX12_dayOf (26, .lload 6, 2) (List.mem_of_getElem? (i := 14) rfl)) (lv_at hl73 0 rfl) ?_
    refine ff_ldc2 (n := 400) hx hb hown h2 (clX12_ok 93 400 (List.mem_of_getElem? (i := 5) rfl)) (eX12_dayOf (28, .ldc2_w 93, 3) (List.mem_of_getElem? (i := 15) rfl)) (fun v74 e74 => ?_)
    refine ff_lmulR hx hb (eX12_dayOf (31, .lmul, 1) (List.mem_of_getElem? (i := 16) rfl)) (e74) (by omega) (by omega) (fun v75 e75 => ?_)
    refine ff_lsub hx hb (eX12_dayOf (32, .lsub, 1) (List.mem_of_getElem? (i := 17) rfl)) (by omega) (by omega) (fun v76 e76 => ?_)
    refine lv_lstore hx hb (eX12_dayOf (33, .lstore 8, 2) (List.mem_of_getElem? (i := 18) rfl)) hl73 (by decide) rfl (fun ls77 hl77 => ?_)
    refine ff_ldc2 (n := 153) hx hb hown h2 (clX12_ok 103 153 (List.mem_of_getElem? (i := 6) rfl)) (eX12_dayOf (35, .ldc2_w 103, 3) (List.mem_of_getElem? (i := 19) rfl)) (fun v78 e78 => ?_)
    refine lv_iload_n hx hb (eX12_dayOf (38, .iload_n 2, 1) (List.mem_of_getElem? (i := 20) rfl)) rfl (lv_at hl77 4 rfl) ?_
    refine lv_iload_n hx hb (eX12_dayOf (39, .iload_n 2, 1) (List.mem_of_getElem? (i := 21) rfl)) rfl (lv_at hl77 4 rfl) ?_
    refine ff_iconst hx hb (eX12_dayOf (40, .iconst 2, 1) (List.mem_of_getElem? (i := 22) rfl)) (by decide) (by decide) (fun v79 e79 => ?_)
    refine ff_icmp_le hx hb (eX12_dayOf (41, .if_icmp .le 8, 3) (List.mem_of_getElem? (i := 23) rfl)) (tgt := 49) rfl (fun c80 => ?_) (fun c80 => ?_)
    · skip
      refine ff_bipush hx hb (eX12_dayOf (49, .bipush 9, 2) (List.mem_of_getElem? (i := 26) rfl)) (by decide) (by decide) (fun v81 e81 => ?_)
      refine ff_iadd hx hb (eX12_dayOf (51, .iadd, 1) (List.mem_of_getElem? (i := 27) rfl)) (by omega) (by omega) (fun v82 e82 => ?_)
      refine ff_i2l hx hb (eX12_dayOf (52, .i2l, 1) (List.mem_of_getElem? (i := 28) rfl)) (fun v83 e83 => ?_)
      refine ff_lmulL hx hb (eX12_dayOf (53, .lmul, 1) (List.mem_of_getElem? (i := 29) rfl)) (e78) (by omega) (by omega) (fun v84 e84 => ?_)
      refine ff_ldc2 (n := 2) hx hb hown h2 (clX12_ok 105 2 (List.mem_of_getElem? (i := 7) rfl)) (eX12_dayOf (54, .ldc2_w 105, 3) (List.mem_of_getElem? (i := 30) rfl)) (fun v85 e85 => ?_)
      refine ff_ladd hx hb (eX12_dayOf (57, .ladd, 1) (List.mem_of_getElem? (i := 31) rfl)) (by omega) (by omega) (fun v86 e86 => ?_)
      refine ff_ldc2 (n := 5) hx hb hown h2 (clX12_ok 107 5 (List.mem_of_getElem? (i := 8) rfl)) (eX12_dayOf (58, .ldc2_w 107, 3) (List.mem_of_getElem? (i := 32) rfl)) (fun v87 e87 => ?_)
      refine ff_ldivP hx hb (eX12_dayOf (61, .ldiv, 1) (List.mem_of_getElem? (i := 33) rfl)) (by omega) (e87) (by decide) (fun v88 e88 => ?_)
      refine lv_iload_n hx hb (eX12_dayOf (62, .iload_n 3, 1) (List.mem_of_getElem? (i := 34) rfl)) rfl (lv_at hl77 5 rfl) ?_
      refine ff_i2l hx hb (eX12_dayOf (63, .i2l, 1) (List.mem_of_getElem? (i := 35) rfl)) (fun v89 e89 => ?_)
      refine ff_ladd hx hb (eX12_dayOf (64, .ladd, 1) (List.mem_of_getElem? (i := 36) rfl)) (by omega) (by omega) (fun v90 e90 => ?_)
      refine ff_lconst hx hb (eX12_dayOf (65, .lconst 1, 1) (List.mem_of_getElem? (i := 37) rfl)) rfl (fun v91 e91 => ?_)
      refine ff_lsub hx hb (eX12_dayOf (66, .lsub, 1) (List.mem_of_getElem? (i := 38) rfl)) (by omega) (by omega) (fun v92 e92 => ?_)
      refine lv_lstore hx hb (eX12_dayOf (67, .lstore 10, 2) (List.mem_of_getElem? (i := 39) rfl)) hl77 (by decide) rfl (fun ls93 hl93 => ?_)
      refine lv_lload hx hb (eX12_dayOf (69, .lload 6, 2) (List.mem_of_getElem? (i := 40) rfl)) (lv_at hl93 2 rfl) ?_
      refine ff_ldc2 (n := 146097) hx hb hown h2 (clX12_ok 109 146097 (List.mem_of_getElem? (i := 9) rfl)) (eX12_dayOf (71, .ldc2_w 109, 3) (List.mem_of_getElem? (i := 41) rfl)) (fun v94 e94 => ?_)
      refine ff_lmulR hx hb (eX12_dayOf (74, .lmul, 1) (List.mem_of_getElem? (i := 42) rfl)) (e94) (by omega) (by omega) (fun v95 e95 => ?_)
      refine lv_lload hx hb (eX12_dayOf (75, .lload 8, 2) (List.mem_of_getElem? (i := 43) rfl)) (lv_at hl93 1 rfl) ?_
      refine ff_ldc2 (n := 365) hx hb hown h2 (clX12_ok 111 365 (List.mem_of_getElem? (i := 10) rfl)) (eX12_dayOf (77, .ldc2_w 111, 3) (List.mem_of_getElem? (i := 44) rfl)) (fun v96 e96 => ?_)
      refine ff_lmulR hx hb (eX12_dayOf (80, .lmul, 1) (List.mem_of_getElem? (i := 45) rfl)) (e96) (by omega) (by omega) (fun v97 e97 => ?_)
      refine ff_ladd hx hb (eX12_dayOf (81, .ladd, 1) (List.mem_of_getElem? (i := 46) rfl)) (by omega) (by omega) (fun v98 e98 => ?_)
      refine lv_lload hx hb (eX12_dayOf (82, .lload 8, 2) (List.mem_of_getElem? (i := 47) rfl)) (lv_at hl93 1 rfl) ?_
      refine ff_ldc2 (n := 4) hx hb hown h2 (clX12_ok 89 4 (List.mem_of_getElem? (i := 3) rfl)) (eX12_dayOf (84, .ldc2_w 89, 3) (List.mem_of_getElem? (i := 48) rfl)) (fun v99 e99 => ?_)
      refine ff_ldivP hx hb (eX12_dayOf (87, .ldiv, 1) (List.mem_of_getElem? (i := 49) rfl)) (by omega) (e99) (by decide) (fun v100 e100 => ?_)
      refine ff_ladd hx hb (eX12_dayOf (88, .ladd, 1) (List.mem_of_getElem? (i := 50) rfl)) (by omega) (by omega) (fun v101 e101 => ?_)
      refine lv_lload hx hb (eX12_dayOf (89, .lload 8, 2) (List.mem_of_getElem? (i := 51) rfl)) (lv_at hl93 1 rfl) ?_
      refine ff_ldc2 (n := 100) hx hb hown h2 (clX12_ok 91 100 (List.mem_of_getElem? (i := 4) rfl)) (eX12_dayOf (91, .ldc2_w 91, 3) (List.mem_of_getElem? (i := 52) rfl)) (fun v102 e102 => ?_)
      refine ff_ldivP hx hb (eX12_dayOf (94, .ldiv, 1) (List.mem_of_getElem? (i := 53) rfl)) (by omega) (e102) (by decide) (fun v103 e103 => ?_)
      refine ff_lsub hx hb (eX12_dayOf (95, .lsub, 1) (List.mem_of_getElem? (i := 54) rfl)) (by omega) (by omega) (fun v104 e104 => ?_)
      refine lv_lload hx hb (eX12_dayOf (96, .lload 10, 2) (List.mem_of_getElem? (i := 55) rfl)) (lv_at hl93 0 rfl) ?_
      refine ff_ladd hx hb (eX12_dayOf (98, .ladd, 1) (List.mem_of_getElem? (i := 56) rfl)) (by omega) (by omega) (fun v105 e105 => ?_)
      refine ff_ldc2 (n := 719468) hx hb hown h2 (clX12_ok 113 719468 (List.mem_of_getElem? (i := 11) rfl)) (eX12_dayOf (99, .ldc2_w 113, 3) (List.mem_of_getElem? (i := 57) rfl)) (fun v106 e106 => ?_)
      refine ff_lsub hx hb (eX12_dayOf (102, .lsub, 1) (List.mem_of_getElem? (i := 58) rfl)) (by omega) (by omega) (fun v107 e107 => ?_)
      exact zu_lret (y := yX12_dayOf) (ws := []) (rm := {}) hx hb hr hlk ⟨_, rfl, by (have h9 := nu_ref (y := y.toInt) (m := mo.toInt) (d := dd.toInt) (era := v72.toInt) (yo := v76.toInt) (pl := v92.toInt) hm1 hm2 (by omega) (by omega) (fun _ => ⟨by omega, by omega⟩) (fun _ => ⟨by omega, by omega⟩); omega)⟩ (eX12_dayOf (103, .lreturn, 1) (List.mem_of_getElem? (i := 59) rfl))
    · skip
      refine ff_bipush hx hb (eX12_dayOf (44, .bipush (-3), 2) (List.mem_of_getElem? (i := 24) rfl)) (by decide) (by decide) (fun v108 e108 => ?_)
      refine lv_goto hx hb (eX12_dayOf (46, .goto 5, 3) (List.mem_of_getElem? (i := 25) rfl)) (tgt := 51) rfl ?_
      refine ff_iadd hx hb (eX12_dayOf (51, .iadd, 1) (List.mem_of_getElem? (i := 27) rfl)) (by omega) (by omega) (fun v109 e109 => ?_)
      refine ff_i2l hx hb (eX12_dayOf (52, .i2l, 1) (List.mem_of_getElem? (i := 28) rfl)) (fun v110 e110 => ?_)
      refine ff_lmulL hx hb (eX12_dayOf (53, .lmul, 1) (List.mem_of_getElem? (i := 29) rfl)) (e78) (by omega) (by omega) (fun v111 e111 => ?_)
      refine ff_ldc2 (n := 2) hx hb hown h2 (clX12_ok 105 2 (List.mem_of_getElem? (i := 7) rfl)) (eX12_dayOf (54, .ldc2_w 105, 3) (List.mem_of_getElem? (i := 30) rfl)) (fun v112 e112 => ?_)
      refine ff_ladd hx hb (eX12_dayOf (57, .ladd, 1) (List.mem_of_getElem? (i := 31) rfl)) (by omega) (by omega) (fun v113 e113 => ?_)
      refine ff_ldc2 (n := 5) hx hb hown h2 (clX12_ok 107 5 (List.mem_of_getElem? (i := 8) rfl)) (eX12_dayOf (58, .ldc2_w 107, 3) (List.mem_of_getElem? (i := 32) rfl)) (fun v114 e114 => ?_)
      refine ff_ldivP hx hb (eX12_dayOf (61, .ldiv, 1) (List.mem_of_getElem? (i := 33) rfl)) (by omega) (e114) (by decide) (fun v115 e115 => ?_)
      refine lv_iload_n hx hb (eX12_dayOf (62, .iload_n 3, 1) (List.mem_of_getElem? (i := 34) rfl)) rfl (lv_at hl77 5 rfl) ?_
      refine ff_i2l hx hb (eX12_dayOf (63, .i2l, 1) (List.mem_of_getElem? (i := 35) rfl)) (fun v116 e116 => ?_)
      refine ff_ladd hx hb (eX12_dayOf (64, .ladd, 1) (List.mem_of_getElem? (i := 36) rfl)) (by omega) (by omega) (fun v117 e117 => ?_)
      refine ff_lconst hx hb (eX12_dayOf (65, .lconst 1, 1) (List.mem_of_getElem? (i := 37) rfl)) rfl (fun v118 e118 => ?_)
      refine ff_lsub hx hb (eX12_dayOf (66, .lsub, 1) (List.mem_of_getElem? (i := 38) rfl)) (by omega) (by omega) (fun v119 e119 => ?_)
      refine lv_lstore hx hb (eX12_dayOf (67, .lstore 10, 2) (List.mem_of_getElem? (i := 39) rfl)) hl77 (by decide) rfl (fun ls120 hl120 => ?_)
      refine lv_lload hx hb (eX12_dayOf (69, .lload 6, 2) (List.mem_of_getElem? (i := 40) rfl)) (lv_at hl120 2 rfl) ?_
      refine ff_ldc2 (n := 146097) hx hb hown h2 (clX12_ok 109 146097 (List.mem_of_getElem? (i := 9) rfl)) (eX12_dayOf (71, .ldc2_w 109, 3) (List.mem_of_getElem? (i := 41) rfl)) (fun v121 e121 => ?_)
      refine ff_lmulR hx hb (eX12_dayOf (74, .lmul, 1) (List.mem_of_getElem? (i := 42) rfl)) (e121) (by omega) (by omega) (fun v122 e122 => ?_)
      refine lv_lload hx hb (eX12_dayOf (75, .lload 8, 2) (List.mem_of_getElem? (i := 43) rfl)) (lv_at hl120 1 rfl) ?_
      refine ff_ldc2 (n := 365) hx hb hown h2 (clX12_ok 111 365 (List.mem_of_getElem? (i := 10) rfl)) (eX12_dayOf (77, .ldc2_w 111, 3) (List.mem_of_getElem? (i := 44) rfl)) (fun v123 e123 => ?_)
      refine ff_lmulR hx hb (eX12_dayOf (80, .lmul, 1) (List.mem_of_getElem? (i := 45) rfl)) (e123) (by omega) (by omega) (fun v124 e124 => ?_)
      refine ff_ladd hx hb (eX12_dayOf (81, .ladd, 1) (List.mem_of_getElem? (i := 46) rfl)) (by omega) (by omega) (fun v125 e125 => ?_)
      refine lv_lload hx hb (eX12_dayOf (82, .lload 8, 2) (List.mem_of_getElem? (i := 47) rfl)) (lv_at hl120 1 rfl) ?_
      refine ff_ldc2 (n := 4) hx hb hown h2 (clX12_ok 89 4 (List.mem_of_getElem? (i := 3) rfl)) (eX12_dayOf (84, .ldc2_w 89, 3) (List.mem_of_getElem? (i := 48) rfl)) (fun v126 e126 => ?_)
      refine ff_ldivP hx hb (eX12_dayOf (87, .ldiv, 1) (List.mem_of_getElem? (i := 49) rfl)) (by omega) (e126) (by decide) (fun v127 e127 => ?_)
      refine ff_ladd hx hb (eX12_dayOf (88, .ladd, 1) (List.mem_of_getElem? (i := 50) rfl)) (by omega) (by omega) (fun v128 e128 => ?_)
      refine lv_lload hx hb (eX12_dayOf (89, .lload 8, 2) (List.mem_of_getElem? (i := 51) rfl)) (lv_at hl120 1 rfl) ?_
      refine ff_ldc2 (n := 100) hx hb hown h2 (clX12_ok 91 100 (List.mem_of_getElem? (i := 4) rfl)) (eX12_dayOf (91, .ldc2_w 91, 3) (List.mem_of_getElem? (i := 52) rfl)) (fun v129 e129 => ?_)
      refine ff_ldivP hx hb (eX12_dayOf (94, .ldiv, 1) (List.mem_of_getElem? (i := 53) rfl)) (by omega) (e129) (by decide) (fun v130 e130 => ?_)
      refine ff_lsub hx hb (eX12_dayOf (95, .lsub, 1) (List.mem_of_getElem? (i := 54) rfl)) (by omega) (by omega) (fun v131 e131 => ?_)
      refine lv_lload hx hb (eX12_dayOf (96, .lload 10, 2) (List.mem_of_getElem? (i := 55) rfl)) (lv_at hl120 0 rfl) ?_
      refine ff_ladd hx hb (eX12_dayOf (98, .ladd, 1) (List.mem_of_getElem? (i := 56) rfl)) (by omega) (by omega) (fun v132 e132 => ?_)
      refine ff_ldc2 (n := 719468) hx hb hown h2 (clX12_ok 113 719468 (List.mem_of_getElem? (i := 11) rfl)) (eX12_dayOf (99, .ldc2_w 113, 3) (List.mem_of_getElem? (i := 57) rfl)) (fun v133 e133 => ?_)
      refine ff_lsub hx hb (eX12_dayOf (102, .lsub, 1) (List.mem_of_getElem? (i := 58) rfl)) (by omega) (by omega) (fun v134 e134 => ?_)
      exact zu_lret (y := yX12_dayOf) (ws := []) (rm := {}) hx hb hr hlk ⟨_, rfl, by (have h9 := nu_ref (y := y.toInt) (m := mo.toInt) (d := dd.toInt) (era := v72.toInt) (yo := v76.toInt) (pl := v119.toInt) hm1 hm2 (by omega) (by omega) (fun _ => ⟨by omega, by omega⟩) (fun _ => ⟨by omega, by omega⟩); omega)⟩ (eX12_dayOf (103, .lreturn, 1) (List.mem_of_getElem? (i := 59) rfl))
