set_option maxRecDepth 100000 in
set_option maxHeartbeats 4000000 in
theorem hJ9_fd12 (l : Launch) (x : Int64) (v900 : Int64) (e900 : v900.toInt = 12) (hx1 : -100000000000000000 ≤ x.toInt) (hx2 : x.toInt ≤ 100000000000000000) : zu_M l yJ9_floorDiv_f86c9 (gW yJ9_floorDiv_f86c9 cJ9_floorDiv_f86c9 6 (some .long)) { frames := 0, cells := 0, slots := 0, locals := 0 } (fun vs => vs = [.long x, .long v900]) zT (fun _ w => ∃ r : Int64, w = .long r ∧ r.toInt = x.toInt / 12) := by
  refine zy_ofW (cc := cJ9_floorDiv_f86c9) (maxL := 6) (ret := (some .long)) (by decide +kernel) rfl ?_
  intro p e s m args below meth c s1 B hml hv
  obtain ⟨vs, rfl, rfl, hKp⟩ := hv
  have hx := B.exec
  have hb := B.bytes
  have hr := B.returns
  have hlk := B.notSynchronized
  have hts0 := atoms_spec (ws := gW yJ9_floorDiv_f86c9 cJ9_floorDiv_f86c9 6 (some .long)) B.pre
  have h2 : ∀ w ∈ gT, w.before ([.long x, .long v900] : List Value).toArray s = true := fun w hw => hts0 w (List.mem_cons_of_mem _ hw)
  have hown : s.vm.findClass RJ9 = some m.cls := findClass_of_methodNamed B.named
  have hl := lv_entry [.long x, .long v900] (n := 6) (Nat.le_of_ble_eq_true rfl)
  rw [lg_entry_eq]
  generalize (lg_sl [.long x, .long v900] ++ List.replicate (6 - (lg_sl [.long x, .long v900]).length) Slot.unset).toArray = ls at hl ⊢
  have b_x := zn_i64 x
  have b_v900 := zn_i64 v900
  refine lv_lload_n hx hb (eJ9_floorDiv_f86c9 (0, .lload_n 0, 1) (List.mem_of_getElem? (i := 0) rfl)) rfl (lv_at hl 0 rfl) ?_
  refine lv_lload_n hx hb (eJ9_floorDiv_f86c9 (1, .lload_n 2, 1) (List.mem_of_getElem? (i := 1) rfl)) rfl (lv_at hl 1 rfl) ?_
  refine ff_ldiv hx hb (eJ9_floorDiv_f86c9 (2, .ldiv, 1) (List.mem_of_getElem? (i := 2) rfl)) (e900) (by decide) (fun v1 e1 => ?_)
  refine lv_lstore hx hb (eJ9_floorDiv_f86c9 (3, .lstore 4, 2) (List.mem_of_getElem? (i := 3) rfl)) hl (by decide) rfl (fun ls2 hl2 => ?_)
  refine lv_lload_n hx hb (eJ9_floorDiv_f86c9 (5, .lload_n 0, 1) (List.mem_of_getElem? (i := 4) rfl)) rfl (lv_at hl2 1 rfl) ?_
  refine lv_lload_n hx hb (eJ9_floorDiv_f86c9 (6, .lload_n 2, 1) (List.mem_of_getElem? (i := 5) rfl)) rfl (lv_at hl2 2 rfl) ?_
  refine lv_lxor hx hb (eJ9_floorDiv_f86c9 (7, .lxor, 1) (List.mem_of_getElem? (i := 6) rfl)) ?_
  generalize hxo : x ^^^ v900 = v3
  have e3 : (v3.toInt < 0 ∧ x.toInt < 0) ∨ (0 ≤ v3.toInt ∧ 0 ≤ x.toInt) := by have h9 := xor_neg x v900; rw [hxo] at h9; omega
  refine ff_lconst hx hb (eJ9_floorDiv_f86c9 (8, .lconst 0, 1) (List.mem_of_getElem? (i := 7) rfl)) rfl (fun v4 e4 => ?_)
  refine ff_lcmp hx hb (eJ9_floorDiv_f86c9 (9, .lcmp, 1) (List.mem_of_getElem? (i := 8) rfl)) (fun v5 e5 => ?_)
  refine ff_if_ge hx hb (eJ9_floorDiv_f86c9 (10, .ifCond .ge 17, 3) (List.mem_of_getElem? (i := 9) rfl)) (tgt := 27) rfl (fun c6 => ?_) (fun c6 => ?_)
  · skip
    refine lv_lload hx hb (eJ9_floorDiv_f86c9 (27, .lload 4, 2) (List.mem_of_getElem? (i := 20) rfl)) (lv_at hl2 0 rfl) ?_
    exact zu_lret (y := yJ9_floorDiv_f86c9) (ws := []) (rm := {}) hx hb hr hlk ⟨_, rfl, by omega⟩ (eJ9_floorDiv_f86c9 (29, .lreturn, 1) (List.mem_of_getElem? (i := 21) rfl))
  · skip
    refine lv_lload hx hb (eJ9_floorDiv_f86c9 (13, .lload 4, 2) (List.mem_of_getElem? (i := 10) rfl)) (lv_at hl2 0 rfl) ?_
    refine lv_lload_n hx hb (eJ9_floorDiv_f86c9 (15, .lload_n 2, 1) (List.mem_of_getElem? (i := 11) rfl)) rfl (lv_at hl2 2 rfl) ?_
    refine ff_lmulR hx hb (eJ9_floorDiv_f86c9 (16, .lmul, 1) (List.mem_of_getElem? (i := 12) rfl)) (e900) (by omega) (by omega) (fun v7 e7 => ?_)
    refine lv_lload_n hx hb (eJ9_floorDiv_f86c9 (17, .lload_n 0, 1) (List.mem_of_getElem? (i := 13) rfl)) rfl (lv_at hl2 1 rfl) ?_
    refine ff_lcmp hx hb (eJ9_floorDiv_f86c9 (18, .lcmp, 1) (List.mem_of_getElem? (i := 14) rfl)) (fun v8 e8 => ?_)
    refine ff_if_eq hx hb (eJ9_floorDiv_f86c9 (19, .ifCond .eq 8, 3) (List.mem_of_getElem? (i := 15) rfl)) (tgt := 27) rfl (fun c9 => ?_) (fun c9 => ?_)
    · skip
      refine lv_lload hx hb (eJ9_floorDiv_f86c9 (27, .lload 4, 2) (List.mem_of_getElem? (i := 20) rfl)) (lv_at hl2 0 rfl) ?_
      exact zu_lret (y := yJ9_floorDiv_f86c9) (ws := []) (rm := {}) hx hb hr hlk ⟨_, rfl, by omega⟩ (eJ9_floorDiv_f86c9 (29, .lreturn, 1) (List.mem_of_getElem? (i := 21) rfl))
    · skip
      refine lv_lload hx hb (eJ9_floorDiv_f86c9 (22, .lload 4, 2) (List.mem_of_getElem? (i := 16) rfl)) (lv_at hl2 0 rfl) ?_
      refine ff_lconst hx hb (eJ9_floorDiv_f86c9 (24, .lconst 1, 1) (List.mem_of_getElem? (i := 17) rfl)) rfl (fun v10 e10 => ?_)
      refine ff_lsub hx hb (eJ9_floorDiv_f86c9 (25, .lsub, 1) (List.mem_of_getElem? (i := 18) rfl)) (by omega) (by omega) (fun v11 e11 => ?_)
      exact zu_lret (y := yJ9_floorDiv_f86c9) (ws := []) (rm := {}) hx hb hr hlk ⟨_, rfl, by omega⟩ (eJ9_floorDiv_f86c9 (26, .lreturn, 1) (List.mem_of_getElem? (i := 19) rfl))
set_option maxRecDepth 100000 in
set_option maxHeartbeats 4000000 in
theorem hJ9_fm12 (l : Launch) (x : Int64) (v900 : Int64) (e900 : v900.toInt = 12) (hx1 : -100000000000000000 ≤ x.toInt) (hx2 : x.toInt ≤ 100000000000000000) : zu_M l yJ9_floorMod_f86c9 (gW yJ9_floorMod_f86c9 cJ9_floorMod_f86c9 6 (some .long)) { frames := 0, cells := 0, slots := 0, locals := 0 } (fun vs => vs = [.long x, .long v900]) zT (fun _ w => ∃ r : Int64, w = .long r ∧ r.toInt = x.toInt % 12) := by
  refine zy_ofW (cc := cJ9_floorMod_f86c9) (maxL := 6) (ret := (some .long)) (by decide +kernel) rfl ?_
  intro p e s m args below meth c s1 B hml hv
  obtain ⟨vs, rfl, rfl, hKp⟩ := hv
  have hx := B.exec
  have hb := B.bytes
  have hr := B.returns
  have hlk := B.notSynchronized
  have hts0 := atoms_spec (ws := gW yJ9_floorMod_f86c9 cJ9_floorMod_f86c9 6 (some .long)) B.pre
  have h2 : ∀ w ∈ gT, w.before ([.long x, .long v900] : List Value).toArray s = true := fun w hw => hts0 w (List.mem_cons_of_mem _ hw)
  have hown : s.vm.findClass RJ9 = some m.cls := findClass_of_methodNamed B.named
  have hl := lv_entry [.long x, .long v900] (n := 6) (Nat.le_of_ble_eq_true rfl)
  rw [lg_entry_eq]
  generalize (lg_sl [.long x, .long v900] ++ List.replicate (6 - (lg_sl [.long x, .long v900]).length) Slot.unset).toArray = ls at hl ⊢
  have b_x := zn_i64 x
  have b_v900 := zn_i64 v900
  refine lv_lload_n hx hb (eJ9_floorMod_f86c9 (0, .lload_n 0, 1) (List.mem_of_getElem? (i := 0) rfl)) rfl (lv_at hl 0 rfl) ?_
  refine lv_lload_n hx hb (eJ9_floorMod_f86c9 (1, .lload_n 2, 1) (List.mem_of_getElem? (i := 1) rfl)) rfl (lv_at hl 1 rfl) ?_
  refine ff_lrem hx hb (eJ9_floorMod_f86c9 (2, .lrem, 1) (List.mem_of_getElem? (i := 2) rfl)) (e900) (by decide) (fun v1 e1 => ?_)
  refine lv_lstore hx hb (eJ9_floorMod_f86c9 (3, .lstore 4, 2) (List.mem_of_getElem? (i := 3) rfl)) hl (by decide) rfl (fun ls2 hl2 => ?_)
  refine lv_lload_n hx hb (eJ9_floorMod_f86c9 (5, .lload_n 0, 1) (List.mem_of_getElem? (i := 4) rfl)) rfl (lv_at hl2 1 rfl) ?_
  refine lv_lload_n hx hb (eJ9_floorMod_f86c9 (6, .lload_n 2, 1) (List.mem_of_getElem? (i := 5) rfl)) rfl (lv_at hl2 2 rfl) ?_
  refine lv_lxor hx hb (eJ9_floorMod_f86c9 (7, .lxor, 1) (List.mem_of_getElem? (i := 6) rfl)) ?_
  generalize hxo : x ^^^ v900 = v3
  have e3 : (v3.toInt < 0 ∧ x.toInt < 0) ∨ (0 ≤ v3.toInt ∧ 0 ≤ x.toInt) := by have h9 := xor_neg x v900; rw [hxo] at h9; omega
  refine ff_lconst hx hb (eJ9_floorMod_f86c9 (8, .lconst 0, 1) (List.mem_of_getElem? (i := 7) rfl)) rfl (fun v4 e4 => ?_)
  refine ff_lcmp hx hb (eJ9_floorMod_f86c9 (9, .lcmp, 1) (List.mem_of_getElem? (i := 8) rfl)) (fun v5 e5 => ?_)
  refine ff_if_ge hx hb (eJ9_floorMod_f86c9 (10, .ifCond .ge 15, 3) (List.mem_of_getElem? (i := 9) rfl)) (tgt := 25) rfl (fun c6 => ?_) (fun c6 => ?_)
  · skip
    refine lv_lload hx hb (eJ9_floorMod_f86c9 (25, .lload 4, 2) (List.mem_of_getElem? (i := 18) rfl)) (lv_at hl2 0 rfl) ?_
    exact zu_lret (y := yJ9_floorMod_f86c9) (ws := []) (rm := {}) hx hb hr hlk ⟨_, rfl, by omega⟩ (eJ9_floorMod_f86c9 (27, .lreturn, 1) (List.mem_of_getElem? (i := 19) rfl))
  · skip
    refine lv_lload hx hb (eJ9_floorMod_f86c9 (13, .lload 4, 2) (List.mem_of_getElem? (i := 10) rfl)) (lv_at hl2 0 rfl) ?_
    refine ff_lconst hx hb (eJ9_floorMod_f86c9 (15, .lconst 0, 1) (List.mem_of_getElem? (i := 11) rfl)) rfl (fun v7 e7 => ?_)
    refine ff_lcmp hx hb (eJ9_floorMod_f86c9 (16, .lcmp, 1) (List.mem_of_getElem? (i := 12) rfl)) (fun v8 e8 => ?_)
    refine ff_if_eq hx hb (eJ9_floorMod_f86c9 (17, .ifCond .eq 8, 3) (List.mem_of_getElem? (i := 13) rfl)) (tgt := 25) rfl (fun c9 => ?_) (fun c9 => ?_)
    · skip
      refine lv_lload hx hb (eJ9_floorMod_f86c9 (25, .lload 4, 2) (List.mem_of_getElem? (i := 18) rfl)) (lv_at hl2 0 rfl) ?_
      exact zu_lret (y := yJ9_floorMod_f86c9) (ws := []) (rm := {}) hx hb hr hlk ⟨_, rfl, by omega⟩ (eJ9_floorMod_f86c9 (27, .lreturn, 1) (List.mem_of_getElem? (i := 19) rfl))
    · skip
      refine lv_lload hx hb (eJ9_floorMod_f86c9 (20, .lload 4, 2) (List.mem_of_getElem? (i := 14) rfl)) (lv_at hl2 0 rfl) ?_
      refine lv_lload_n hx hb (eJ9_floorMod_f86c9 (22, .lload_n 2, 1) (List.mem_of_getElem? (i := 15) rfl)) rfl (lv_at hl2 2 rfl) ?_
      refine ff_ladd hx hb (eJ9_floorMod_f86c9 (23, .ladd, 1) (List.mem_of_getElem? (i := 16) rfl)) (by omega) (by omega) (fun v10 e10 => ?_)
      exact zu_lret (y := yJ9_floorMod_f86c9) (ws := []) (rm := {}) hx hb hr hlk ⟨_, rfl, by omega⟩ (eJ9_floorMod_f86c9 (24, .lreturn, 1) (List.mem_of_getElem? (i := 17) rfl))
set_option maxRecDepth 100000 in
set_option maxHeartbeats 4000000 in
theorem hJ9_min (l : Launch) (x : Int32) (y : Int32)  : zu_M l yJ9_min_7cf53 (gW yJ9_min_7cf53 cJ9_min_7cf53 2 (some .int)) { frames := 0, cells := 0, slots := 0, locals := 0 } (fun vs => vs = [.int x, .int y]) zT (fun _ w => ∃ r : Int32, w = .int r ∧ ((x.toInt ≤ y.toInt ∧ r.toInt = x.toInt) ∨ (y.toInt < x.toInt ∧ r.toInt = y.toInt))) := by
  refine zy_ofW (cc := cJ9_min_7cf53) (maxL := 2) (ret := (some .int)) (by decide +kernel) rfl ?_
  intro p e s m args below meth c s1 B hml hv
  obtain ⟨vs, rfl, rfl, hKp⟩ := hv
  have hx := B.exec
  have hb := B.bytes
  have hr := B.returns
  have hlk := B.notSynchronized
  have hts0 := atoms_spec (ws := gW yJ9_min_7cf53 cJ9_min_7cf53 2 (some .int)) B.pre
  have h2 : ∀ w ∈ gT, w.before ([.int x, .int y] : List Value).toArray s = true := fun w hw => hts0 w (List.mem_cons_of_mem _ hw)
  have hown : s.vm.findClass RJ9 = some m.cls := findClass_of_methodNamed B.named
  have hl := lv_entry [.int x, .int y] (n := 2) (Nat.le_of_ble_eq_true rfl)
  rw [lg_entry_eq]
  generalize (lg_sl [.int x, .int y] ++ List.replicate (2 - (lg_sl [.int x, .int y]).length) Slot.unset).toArray = ls at hl ⊢
  have b_x := zn_i32 x
  have b_y := zn_i32 y
  refine lv_iload_n hx hb (eJ9_min_7cf53 (0, .iload_n 0, 1) (List.mem_of_getElem? (i := 0) rfl)) rfl (lv_at hl 0 rfl) ?_
  refine lv_iload_n hx hb (eJ9_min_7cf53 (1, .iload_n 1, 1) (List.mem_of_getElem? (i := 1) rfl)) rfl (lv_at hl 1 rfl) ?_
  refine ff_icmp_gt hx hb (eJ9_min_7cf53 (2, .if_icmp .gt 7, 3) (List.mem_of_getElem? (i := 2) rfl)) (tgt := 9) rfl (fun c1 => ?_) (fun c1 => ?_)
  · skip
    refine lv_iload_n hx hb (eJ9_min_7cf53 (9, .iload_n 1, 1) (List.mem_of_getElem? (i := 5) rfl)) rfl (lv_at hl 1 rfl) ?_
    exact zu_iret (y := yJ9_min_7cf53) (ws := []) (rm := {}) hx hb hr hlk rfl ⟨_, rfl, by omega⟩ (eJ9_min_7cf53 (10, .ireturn, 1) (List.mem_of_getElem? (i := 6) rfl))
  · skip
    refine lv_iload_n hx hb (eJ9_min_7cf53 (5, .iload_n 0, 1) (List.mem_of_getElem? (i := 3) rfl)) rfl (lv_at hl 0 rfl) ?_
    refine lv_goto hx hb (eJ9_min_7cf53 (6, .goto 4, 3) (List.mem_of_getElem? (i := 4) rfl)) (tgt := 10) rfl ?_
    exact zu_iret (y := yJ9_min_7cf53) (ws := []) (rm := {}) hx hb hr hlk rfl ⟨_, rfl, by omega⟩ (eJ9_min_7cf53 (10, .ireturn, 1) (List.mem_of_getElem? (i := 6) rfl))
set_option maxRecDepth 100000 in
set_option maxHeartbeats 4000000 in
theorem hX2_monthNumber (l : Launch) (cA : Nat → ClassId) (n : Int64) (hn1 : -365961662 ≤ n.toInt) (hn2 : n.toInt ≤ 364522971) : zu_M l yX2_monthNumber (gW yX2_monthNumber cX2_monthNumber 2 (some .int)) { frames := 3, cells := 0, slots := 0, locals := 69 } (fun vs => vs = [.long n]) (zBM cA) (fun _ w => ∃ r : Int32, w = .int r ∧ -12000000 ≤ r.toInt ∧ r.toInt ≤ 12000000 ∧ ∃ y m d : Int, cvP n.toInt y m d ∧ r.toInt = y * 12 + m - 1) := by
  refine zy_ofW (cc := cX2_monthNumber) (maxL := 2) (ret := (some .int)) (by decide +kernel) rfl ?_
  intro p e s m args below meth c s1 B hml hv
  obtain ⟨vs, rfl, rfl, hKp⟩ := hv
  have hx := B.exec
  have hb := B.bytes
  have hr := B.returns
  have hlk := B.notSynchronized
  have hts0 := atoms_spec (ws := gW yX2_monthNumber cX2_monthNumber 2 (some .int)) B.pre
  have h2 : ∀ w ∈ gT, w.before ([.long n] : List Value).toArray s = true := fun w hw => hts0 w (List.mem_cons_of_mem _ hw)
  have hown : s.vm.findClass RX2 = some m.cls := findClass_of_methodNamed B.named
  have hl := lv_entry [.long n] (n := 2) (Nat.le_of_ble_eq_true rfl)
  rw [lg_entry_eq]
  generalize (lg_sl [.long n] ++ List.replicate (2 - (lg_sl [.long n]).length) Slot.unset).toArray = ls at hl ⊢
  have hBM : ∀ U : State, U.heap = s.heap → s.WarmedH U.vm → zBM cA U := fun U hU hW => zBM_B.2 s U hW hU hKp
  obtain ⟨ab, zb, hz1, hz2, hz3, hz4⟩ := id hKp
  have b_n := zn_i64 n
  refine lv_lload_n hx hb (eX2_monthNumber (0, .lload_n 0, 1) (List.mem_of_getElem? (i := 0) rfl)) rfl (lv_at hl 0 rfl) ?_
  refine zu_S (vs := [.long n]) (rest := []) hx hb hml hown hts0 zu_BT (hX2_yearOf l n (by omega) (by omega)) ⟨rfl, rfl⟩ ⟨by decide, by decide⟩ ⟨by decide, by decide⟩ (tb_2 218 rfl rfl) (tb_1 13 rfl rfl) (tb_2 223 rfl rfl) (tb_2 217 rfl rfl) (show yX2_yearOf.cls ≠ "java/lang/invoke/MethodHandle" ∧ yX2_yearOf.cls ≠ "java/lang/invoke/VarHandle" ∧ (parseMethodDescriptor yX2_yearOf.desc).map (fun d => d.parameters.length) = some 1 by decide +kernel) rfl (fun _ _ _ => trivial) hl.1 (Nat.le_of_ble_eq_true rfl) (eX2_monthNumber (1, .invokestatic 53, 3) (List.mem_of_getElem? (i := 1) rfl)) (fun w1 f1 => ?_)
  obtain ⟨v1, rfl, e1⟩ := f1
  have g1 := isY_in e1.1 (by omega) (by omega)
  refine ff_bipush hx hb (eX2_monthNumber (4, .bipush 12, 2) (List.mem_of_getElem? (i := 2) rfl)) (by decide) (by decide) (fun v2 e2 => ?_)
  refine ff_imulR hx hb (eX2_monthNumber (6, .imul, 1) (List.mem_of_getElem? (i := 3) rfl)) (e2) (by omega) (by omega) (fun v3 e3 => ?_)
  refine lv_lload_n hx hb (eX2_monthNumber (7, .lload_n 0, 1) (List.mem_of_getElem? (i := 4) rfl)) rfl (lv_at hl 0 rfl) ?_
  refine zu_S (vs := [.long n]) (rest := [.int v3]) hx hb hml hown hts0 zBM_B (hX2_monthOf l cA n (by omega) (by omega)) ⟨rfl, rfl⟩ ⟨by decide, by decide⟩ ⟨by decide, by decide⟩ (tb_2 222 rfl rfl) (tb_1 13 rfl rfl) (tb_2 228 rfl rfl) (tb_2 221 rfl rfl) (show yX2_monthOf.cls ≠ "java/lang/invoke/MethodHandle" ∧ yX2_monthOf.cls ≠ "java/lang/invoke/VarHandle" ∧ (parseMethodDescriptor yX2_monthOf.desc).map (fun d => d.parameters.length) = some 1 by decide +kernel) rfl hBM hl.1 (Nat.le_of_ble_eq_true rfl) (eX2_monthNumber (8, .invokestatic 61, 3) (List.mem_of_getElem? (i := 5) rfl)) (fun w4 f4 => ?_)
  obtain ⟨v4, rfl, e4⟩ := f4
  have g4 := mo_y e1.1 e4
  refine ff_iadd hx hb (eX2_monthNumber (11, .iadd, 1) (List.mem_of_getElem? (i := 6) rfl)) (by omega) (by omega) (fun v5 e5 => ?_)
  refine ff_iconst hx hb (eX2_monthNumber (12, .iconst 1, 1) (List.mem_of_getElem? (i := 7) rfl)) (by decide) (by decide) (fun v6 e6 => ?_)
  refine ff_isub hx hb (eX2_monthNumber (13, .isub, 1) (List.mem_of_getElem? (i := 8) rfl)) (by omega) (by omega) (fun v7 e7 => ?_)
  exact zu_iret (y := yX2_monthNumber) (ws := []) (rm := {}) hx hb hr hlk rfl ⟨_, rfl, by (refine ⟨by omega, by omega, v1.toInt, v4.toInt, _, cv_days g4.1 g4.2.1 g4.2.2.1 g4.2.2.2.1, ?_⟩; omega)⟩ (eX2_monthNumber (14, .ireturn, 1) (List.mem_of_getElem? (i := 9) rfl))
set_option maxRecDepth 100000 in
set_option maxHeartbeats 4000000 in
theorem hX2_monthsLater (l : Launch) (cA : Nat → ClassId) (n : Int64) (k : Int32)  : zu_M l yX2_monthsLater (gW yX2_monthsLater cX2_monthsLater 9 (some .long)) { frames := 4, cells := 0, slots := 0, locals := 90 } (fun vs => vs = [.long n, .int k]) (zBM cA) (fun _ w => ∃ r : Int64, w = .long r ∧ ((mtV n.toInt k.toInt ∧ mtG n.toInt k.toInt r.toInt ∧ -370000000 ≤ r.toInt ∧ r.toInt ≤ 370000000) ∨ (r.toInt = -9223372036854775808 ∧ ¬ mtV n.toInt k.toInt))) := by
  refine zy_ofW (cc := cX2_monthsLater) (maxL := 9) (ret := (some .long)) (by decide +kernel) rfl ?_
  intro p e s m args below meth c s1 B hml hv
  obtain ⟨vs, rfl, rfl, hKp⟩ := hv
  have hx := B.exec
  have hb := B.bytes
  have hr := B.returns
  have hlk := B.notSynchronized
  have hts0 := atoms_spec (ws := gW yX2_monthsLater cX2_monthsLater 9 (some .long)) B.pre
  have h2 : ∀ w ∈ gT, w.before ([.long n, .int k] : List Value).toArray s = true := fun w hw => hts0 w (List.mem_cons_of_mem _ hw)
  have hown : s.vm.findClass RX2 = some m.cls := findClass_of_methodNamed B.named
  have hl := lv_entry [.long n, .int k] (n := 9) (Nat.le_of_ble_eq_true rfl)
  rw [lg_entry_eq]
  generalize (lg_sl [.long n, .int k] ++ List.replicate (9 - (lg_sl [.long n, .int k]).length) Slot.unset).toArray = ls at hl ⊢
  have hBM : ∀ U : State, U.heap = s.heap → s.WarmedH U.vm → zBM cA U := fun U hU hW => zBM_B.2 s U hW hU hKp
  obtain ⟨ab, zb, hz1, hz2, hz3, hz4⟩ := id hKp
  have b_n := zn_i64 n
  have b_k := zn_i32 k
  refine lv_lload_n hx hb (eX2_monthsLater (0, .lload_n 0, 1) (List.mem_of_getElem? (i := 0) rfl)) rfl (lv_at hl 0 rfl) ?_
  refine zu_S (vs := [.long n]) (rest := []) hx hb hml hown hts0 zu_BT (hX2_holds l n) ⟨rfl, rfl⟩ ⟨by decide, by decide⟩ ⟨by decide, by decide⟩ (tb_2 212 rfl rfl) (tb_1 13 rfl rfl) (tb_3 31 rfl rfl) (tb_2 211 rfl rfl) (show yX2_holds.cls ≠ "java/lang/invoke/MethodHandle" ∧ yX2_holds.cls ≠ "java/lang/invoke/VarHandle" ∧ (parseMethodDescriptor yX2_holds.desc).map (fun d => d.parameters.length) = some 1 by decide +kernel) rfl (fun _ _ _ => trivial) hl.1 (Nat.le_of_ble_eq_true rfl) (eX2_monthsLater (1, .invokestatic 64, 3) (List.mem_of_getElem? (i := 1) rfl)) (fun w1 f1 => ?_)
  obtain ⟨v1, rfl, e1⟩ := f1
  refine ff_if_ne hx hb (eX2_monthsLater (4, .ifCond .ne 7, 3) (List.mem_of_getElem? (i := 2) rfl)) (tgt := 11) rfl (fun c2 => ?_) (fun c2 => ?_)
  · skip
    refine lv_lload_n hx hb (eX2_monthsLater (11, .lload_n 0, 1) (List.mem_of_getElem? (i := 5) rfl)) rfl (lv_at hl 0 rfl) ?_
    refine zu_S (vs := [.long n]) (rest := []) hx hb hml hown hts0 zBM_B (hX2_monthNumber l cA n (by omega) (by omega)) ⟨rfl, rfl⟩ ⟨by decide, by decide⟩ ⟨by decide, by decide⟩ (tb_3 35 rfl rfl) (tb_1 13 rfl rfl) (tb_3 33 rfl rfl) (tb_3 34 rfl rfl) (show yX2_monthNumber.cls ≠ "java/lang/invoke/MethodHandle" ∧ yX2_monthNumber.cls ≠ "java/lang/invoke/VarHandle" ∧ (parseMethodDescriptor yX2_monthNumber.desc).map (fun d => d.parameters.length) = some 1 by decide +kernel) rfl hBM hl.1 (Nat.le_of_ble_eq_true rfl) (eX2_monthsLater (12, .invokestatic 70, 3) (List.mem_of_getElem? (i := 6) rfl)) (fun w3 f3 => ?_)
    obtain ⟨v3, rfl, e3⟩ := f3
    obtain ⟨bm1, bm2, yy, mm, dd, hcv, hmn⟩ := e3
    refine ff_i2l hx hb (eX2_monthsLater (15, .i2l, 1) (List.mem_of_getElem? (i := 7) rfl)) (fun v4 e4 => ?_)
    refine lv_iload_n hx hb (eX2_monthsLater (16, .iload_n 2, 1) (List.mem_of_getElem? (i := 8) rfl)) rfl (lv_at hl 1 rfl) ?_
    refine ff_i2l hx hb (eX2_monthsLater (17, .i2l, 1) (List.mem_of_getElem? (i := 9) rfl)) (fun v5 e5 => ?_)
    refine ff_ladd hx hb (eX2_monthsLater (18, .ladd, 1) (List.mem_of_getElem? (i := 10) rfl)) (by omega) (by omega) (fun v6 e6 => ?_)
    have hM : v6.toInt = mtM yy mm k.toInt := by unfold mtM; omega
    refine lv_lstore_n hx hb (eX2_monthsLater (19, .lstore_n 3, 1) (List.mem_of_getElem? (i := 11) rfl)) rfl hl (by decide) rfl (fun ls7 hl7 => ?_)
    refine lv_lload_n hx hb (eX2_monthsLater (20, .lload_n 3, 1) (List.mem_of_getElem? (i := 12) rfl)) rfl (lv_at hl7 0 rfl) ?_
    refine ff_ldc2 (n := 12) hx hb hown h2 (clX2_ok 73 12 (List.mem_of_getElem? (i := 15) rfl)) (eX2_monthsLater (21, .ldc2_w 73, 3) (List.mem_of_getElem? (i := 13) rfl)) (fun v8 e8 => ?_)
    refine zu_S (vs := [.long v6, .long v8]) (rest := []) hx hb hml hown hts0 zu_BT (hJ9_fd12 l v6 v8 (by omega) (by omega) (by omega)) ⟨rfl, rfl⟩ ⟨by decide, by decide⟩ ⟨by decide, by decide⟩ (tb_3 39 rfl rfl) (tb_1 18 rfl rfl) (tb_3 37 rfl rfl) (tb_3 38 rfl rfl) (show yJ9_floorDiv_f86c9.cls ≠ "java/lang/invoke/MethodHandle" ∧ yJ9_floorDiv_f86c9.cls ≠ "java/lang/invoke/VarHandle" ∧ (parseMethodDescriptor yJ9_floorDiv_f86c9.desc).map (fun d => d.parameters.length) = some 2 by decide +kernel) rfl (fun _ _ _ => trivial) hl7.1 (Nat.le_of_ble_eq_true rfl) (eX2_monthsLater (24, .invokestatic 75, 3) (List.mem_of_getElem? (i := 14) rfl)) (fun w9 f9 => ?_)
    obtain ⟨v9, rfl, e9⟩ := f9
    have g9 := (show v9.toInt = mtM yy mm k.toInt / 12 by rw [e9, hM])
    refine lv_lstore hx hb (eX2_monthsLater (27, .lstore 5, 2) (List.mem_of_getElem? (i := 15) rfl)) hl7 (by decide) rfl (fun ls10 hl10 => ?_)
    refine lv_lload hx hb (eX2_monthsLater (29, .lload 5, 2) (List.mem_of_getElem? (i := 16) rfl)) (lv_at hl10 0 rfl) ?_
    refine ff_ldc2 (n := (-999999)) hx hb hown h2 (clX2_ok 81 (-999999) (List.mem_of_getElem? (i := 16) rfl)) (eX2_monthsLater (31, .ldc2_w 81, 3) (List.mem_of_getElem? (i := 17) rfl)) (fun v11 e11 => ?_)
    refine ff_lcmp hx hb (eX2_monthsLater (34, .lcmp, 1) (List.mem_of_getElem? (i := 18) rfl)) (fun v12 e12 => ?_)
    refine ff_if_lt hx hb (eX2_monthsLater (35, .ifCond .lt 12, 3) (List.mem_of_getElem? (i := 19) rfl)) (tgt := 47) rfl (fun c13 => ?_) (fun c13 => ?_)
    · skip
      refine ff_ldc2 (n := (-9223372036854775808)) hx hb hown h2 (clX2_ok 68 (-9223372036854775808) (List.mem_of_getElem? (i := 14) rfl)) (eX2_monthsLater (47, .ldc2_w 68, 3) (List.mem_of_getElem? (i := 24) rfl)) (fun v14 e14 => ?_)
      exact zu_lret (y := yX2_monthsLater) (ws := []) (rm := {}) hx hb hr hlk ⟨_, rfl, by (exact Or.inr ⟨by omega, mtV_out hcv (by omega)⟩)⟩ (eX2_monthsLater (50, .lreturn, 1) (List.mem_of_getElem? (i := 25) rfl))
    · skip
      refine lv_lload hx hb (eX2_monthsLater (38, .lload 5, 2) (List.mem_of_getElem? (i := 20) rfl)) (lv_at hl10 0 rfl) ?_
      refine ff_ldc2 (n := 999999) hx hb hown h2 (clX2_ok 83 999999 (List.mem_of_getElem? (i := 17) rfl)) (eX2_monthsLater (40, .ldc2_w 83, 3) (List.mem_of_getElem? (i := 21) rfl)) (fun v15 e15 => ?_)
      refine ff_lcmp hx hb (eX2_monthsLater (43, .lcmp, 1) (List.mem_of_getElem? (i := 22) rfl)) (fun v16 e16 => ?_)
      refine ff_if_le hx hb (eX2_monthsLater (44, .ifCond .le 7, 3) (List.mem_of_getElem? (i := 23) rfl)) (tgt := 51) rfl (fun c17 => ?_) (fun c17 => ?_)
      · skip
        refine lv_lload_n hx hb (eX2_monthsLater (51, .lload_n 3, 1) (List.mem_of_getElem? (i := 26) rfl)) rfl (lv_at hl10 1 rfl) ?_
        refine ff_ldc2 (n := 12) hx hb hown h2 (clX2_ok 73 12 (List.mem_of_getElem? (i := 15) rfl)) (eX2_monthsLater (52, .ldc2_w 73, 3) (List.mem_of_getElem? (i := 27) rfl)) (fun v18 e18 => ?_)
        refine zu_S (vs := [.long v6, .long v18]) (rest := []) hx hb hml hown hts0 zu_BT (hJ9_fm12 l v6 v18 (by omega) (by omega) (by omega)) ⟨rfl, rfl⟩ ⟨by decide, by decide⟩ ⟨by decide, by decide⟩ (tb_3 44 rfl rfl) (tb_1 18 rfl rfl) (tb_3 42 rfl rfl) (tb_3 43 rfl rfl) (show yJ9_floorMod_f86c9.cls ≠ "java/lang/invoke/MethodHandle" ∧ yJ9_floorMod_f86c9.cls ≠ "java/lang/invoke/VarHandle" ∧ (parseMethodDescriptor yJ9_floorMod_f86c9.desc).map (fun d => d.parameters.length) = some 2 by decide +kernel) rfl (fun _ _ _ => trivial) hl10.1 (Nat.le_of_ble_eq_true rfl) (eX2_monthsLater (55, .invokestatic 85, 3) (List.mem_of_getElem? (i := 28) rfl)) (fun w19 f19 => ?_)
        obtain ⟨v19, rfl, e19⟩ := f19
        have g19 := (show v19.toInt = mtM yy mm k.toInt % 12 by rw [e19, hM])
        refine ff_l2i hx hb (eX2_monthsLater (58, .l2i, 1) (List.mem_of_getElem? (i := 29) rfl)) (by omega) (by omega) (fun v20 e20 => ?_)
        refine ff_iconst hx hb (eX2_monthsLater (59, .iconst 1, 1) (List.mem_of_getElem? (i := 30) rfl)) (by decide) (by decide) (fun v21 e21 => ?_)
        refine ff_iadd hx hb (eX2_monthsLater (60, .iadd, 1) (List.mem_of_getElem? (i := 31) rfl)) (by omega) (by omega) (fun v22 e22 => ?_)
        refine lv_istore hx hb (eX2_monthsLater (61, .istore 7, 2) (List.mem_of_getElem? (i := 32) rfl)) hl10 (by decide) rfl (fun ls23 hl23 => ?_)
        refine lv_lload hx hb (eX2_monthsLater (63, .lload 5, 2) (List.mem_of_getElem? (i := 33) rfl)) (lv_at hl23 1 rfl) ?_
        refine ff_l2i hx hb (eX2_monthsLater (65, .l2i, 1) (List.mem_of_getElem? (i := 34) rfl)) (by omega) (by omega) (fun v24 e24 => ?_)
        refine lv_iload hx hb (eX2_monthsLater (66, .iload 7, 2) (List.mem_of_getElem? (i := 35) rfl)) (lv_at hl23 0 rfl) ?_
        refine zu_S (vs := [.int v24, .int v22]) (rest := []) hx hb hml hown hts0 zBM_B (hX2_monthLength l cA v24 v22) ⟨rfl, rfl⟩ ⟨by decide, by decide⟩ ⟨by decide, by decide⟩ (tb_2 115 rfl rfl) (tb_1 13 rfl rfl) (tb_3 45 rfl rfl) (tb_2 114 rfl rfl) (show yX2_monthLength.cls ≠ "java/lang/invoke/MethodHandle" ∧ yX2_monthLength.cls ≠ "java/lang/invoke/VarHandle" ∧ (parseMethodDescriptor yX2_monthLength.desc).map (fun d => d.parameters.length) = some 2 by decide +kernel) rfl hBM hl23.1 (Nat.le_of_ble_eq_true rfl) (eX2_monthsLater (68, .invokestatic 88, 3) (List.mem_of_getElem? (i := 36) rfl)) (fun w25 f25 => ?_)
        obtain ⟨v25, rfl, e25⟩ := f25
        have g25 := (show v25.toInt = mlI (mtM yy mm k.toInt / 12) (mtM yy mm k.toInt % 12 + 1) ∧ 28 ≤ v25.toInt ∧ v25.toInt ≤ 31 by have h9 : v25.toInt = mlI (mtM yy mm k.toInt / 12) (mtM yy mm k.toInt % 12 + 1) := by { rw [e25, show v24.toInt = mtM yy mm k.toInt / 12 by omega, show v22.toInt = mtM yy mm k.toInt % 12 + 1 by omega] }; have h8 := ml_lo (y := mtM yy mm k.toInt / 12) (m := mtM yy mm k.toInt % 12 + 1) (by omega) (by omega); omega)
        refine lv_istore hx hb (eX2_monthsLater (71, .istore 8, 2) (List.mem_of_getElem? (i := 37) rfl)) hl23 (by decide) rfl (fun ls26 hl26 => ?_)
        refine lv_lload hx hb (eX2_monthsLater (73, .lload 5, 2) (List.mem_of_getElem? (i := 38) rfl)) (lv_at hl26 2 rfl) ?_
        refine ff_l2i hx hb (eX2_monthsLater (75, .l2i, 1) (List.mem_of_getElem? (i := 39) rfl)) (by omega) (by omega) (fun v27 e27 => ?_)
        refine lv_iload hx hb (eX2_monthsLater (76, .iload 7, 2) (List.mem_of_getElem? (i := 40) rfl)) (lv_at hl26 1 rfl) ?_
        refine lv_lload_n hx hb (eX2_monthsLater (78, .lload_n 0, 1) (List.mem_of_getElem? (i := 41) rfl)) rfl (lv_at hl26 4 rfl) ?_
        refine zu_S (vs := [.long n]) (rest := [.int v22, .int v27]) hx hb hml hown hts0 zBM_B (hX2_dayOfMonth l cA n (by omega) (by omega)) ⟨rfl, rfl⟩ ⟨by decide, by decide⟩ ⟨by decide, by decide⟩ (tb_2 227 rfl rfl) (tb_1 13 rfl rfl) (tb_3 46 rfl rfl) (tb_2 226 rfl rfl) (show yX2_dayOfMonth.cls ≠ "java/lang/invoke/MethodHandle" ∧ yX2_dayOfMonth.cls ≠ "java/lang/invoke/VarHandle" ∧ (parseMethodDescriptor yX2_dayOfMonth.desc).map (fun d => d.parameters.length) = some 1 by decide +kernel) rfl hBM hl26.1 (Nat.le_of_ble_eq_true rfl) (eX2_monthsLater (79, .invokestatic 92, 3) (List.mem_of_getElem? (i := 42) rfl)) (fun w28 f28 => ?_)
        obtain ⟨v28, rfl, e28⟩ := f28
        obtain ⟨y2, m2, hcv2⟩ := e28
        obtain ⟨-, -, hdd⟩ := cvP_one hcv hcv2
        have hd1 : 1 ≤ v28.toInt := hcv2.2.2.1
        have hd2 : v28.toInt ≤ 31 := Int.le_trans hcv2.2.2.2.1 (mlI_bd _ _).2
        refine lv_iload hx hb (eX2_monthsLater (82, .iload 8, 2) (List.mem_of_getElem? (i := 43) rfl)) (lv_at hl26 0 rfl) ?_
        refine zu_S (vs := [.int v28, .int v25]) (rest := [.int v22, .int v27]) hx hb hml hown hts0 zu_BT (hJ9_min l v28 v25) ⟨rfl, rfl⟩ ⟨by decide, by decide⟩ ⟨by decide, by decide⟩ (tb_3 49 rfl rfl) (tb_1 18 rfl rfl) (tb_3 47 rfl rfl) (tb_3 48 rfl rfl) (show yJ9_min_7cf53.cls ≠ "java/lang/invoke/MethodHandle" ∧ yJ9_min_7cf53.cls ≠ "java/lang/invoke/VarHandle" ∧ (parseMethodDescriptor yJ9_min_7cf53.desc).map (fun d => d.parameters.length) = some 2 by decide +kernel) rfl (fun _ _ _ => trivial) hl26.1 (Nat.le_of_ble_eq_true rfl) (eX2_monthsLater (84, .invokestatic 95, 3) (List.mem_of_getElem? (i := 44) rfl)) (fun w29 f29 => ?_)
        obtain ⟨v29, rfl, e29⟩ := f29
        refine zu_S (vs := [.int v27, .int v22, .int v29]) (rest := []) hx hb hml hown hts0 zBM_B (hX2_numberOf l cA v27 v22 v29 (by omega) (by omega) (by omega) (by omega) (by omega) (by omega)) ⟨rfl, rfl⟩ ⟨by decide, by decide⟩ ⟨by decide, by decide⟩ (tb_2 190 rfl rfl) (tb_1 13 rfl rfl) (tb_2 224 rfl rfl) (tb_2 189 rfl rfl) (show yX2_numberOf.cls ≠ "java/lang/invoke/MethodHandle" ∧ yX2_numberOf.cls ≠ "java/lang/invoke/VarHandle" ∧ (parseMethodDescriptor yX2_numberOf.desc).map (fun d => d.parameters.length) = some 3 by decide +kernel) rfl hBM hl26.1 (Nat.le_of_ble_eq_true rfl) (eX2_monthsLater (87, .invokestatic 57, 3) (List.mem_of_getElem? (i := 45) rfl)) (fun w30 f30 => ?_)
        obtain ⟨v30, rfl, e30⟩ := f30
        exact zu_lret (y := yX2_monthsLater) (ws := []) (rm := {}) hx hb hr hlk ⟨_, rfl, by (left; have h9 : v29.toInt = if dd < mlI (mtM yy mm k.toInt / 12) (mtM yy mm k.toInt % 12 + 1) then dd else mlI (mtM yy mm k.toInt / 12) (mtM yy mm k.toInt % 12 + 1) := by { rw [hdd]; split <;> omega }; have h8 : v30.toInt = nuI (mtM yy mm k.toInt / 12) (mtM yy mm k.toInt % 12 + 1) (if dd < mlI (mtM yy mm k.toInt / 12) (mtM yy mm k.toInt % 12 + 1) then dd else mlI (mtM yy mm k.toInt / 12) (mtM yy mm k.toInt % 12 + 1)) := by { rw [e30, h9, show v27.toInt = mtM yy mm k.toInt / 12 by omega, show v22.toInt = mtM yy mm k.toInt % 12 + 1 by omega] }; refine ⟨mtV_in (by omega) (by omega) hcv (by omega) (by omega), ⟨yy, mm, dd, hcv, h8⟩, ?_⟩; rw [e30]; exact mt_bd (by omega) (by omega) (by omega) (by omega) (by omega) (by omega))⟩ (eX2_monthsLater (90, .lreturn, 1) (List.mem_of_getElem? (i := 46) rfl))
      · skip
        refine ff_ldc2 (n := (-9223372036854775808)) hx hb hown h2 (clX2_ok 68 (-9223372036854775808) (List.mem_of_getElem? (i := 14) rfl)) (eX2_monthsLater (47, .ldc2_w 68, 3) (List.mem_of_getElem? (i := 24) rfl)) (fun v31 e31 => ?_)
        exact zu_lret (y := yX2_monthsLater) (ws := []) (rm := {}) hx hb hr hlk ⟨_, rfl, by (exact Or.inr ⟨by omega, mtV_out hcv (by omega)⟩)⟩ (eX2_monthsLater (50, .lreturn, 1) (List.mem_of_getElem? (i := 25) rfl))
  · skip
    refine ff_ldc2 (n := (-9223372036854775808)) hx hb hown h2 (clX2_ok 68 (-9223372036854775808) (List.mem_of_getElem? (i := 14) rfl)) (eX2_monthsLater (7, .ldc2_w 68, 3) (List.mem_of_getElem? (i := 3) rfl)) (fun v32 e32 => ?_)
    exact zu_lret (y := yX2_monthsLater) (ws := []) (rm := {}) hx hb hr hlk ⟨_, rfl, by (exact Or.inr ⟨by omega, fun h => by have h1 := h.1; have h2 := h.2.1; omega⟩)⟩ (eX2_monthsLater (10, .lreturn, 1) (List.mem_of_getElem? (i := 4) rfl))
