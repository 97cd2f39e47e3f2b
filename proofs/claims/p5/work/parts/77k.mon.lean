set_option maxRecDepth 100000 in
set_option maxHeartbeats 4000000 in
theorem hJ9_fd12 (l : Launch) (x : Int64) (v900 : Int64) (e900 : v900.toInt = 12) (hx1 : -100000000000000000 ≤ x.toInt) (hx2 : x.toInt ≤ 100000000000000000) : zu_M l yJ9_floorDiv_f86c9 (gW yJ9_floorDiv_f86c9 cJ9_floorDiv_f86c9 6 (some .long)) { frames := 0, cells := 0, slots := 0, locals := 0 } (fun vs => vs = [.long x, .long v900]) zT (fun _ w => ∃ r : Int64, w = .long r ∧ r.toInt = x.toInt / 12) := by
  refine zy_ofW (cc := cJ9_floorDiv_f86c9) (maxL := 6) (ret := (some .long)) (by decide +kernel) rfl ?_
  intro p e s m args below meth c s1 B hml hv
  obtain ⟨vs, rfl, rfl, hKp⟩ := hv
  have hx := B.exec
  have hb := B.bytes
  have hr := B.returns
  have hlk := B.notSynchronized
  have hts0 := atoms_spec (ws := gW yJ9_floorDiv_f86c9 cJ9_floorDiv_f86c9 6 (some .long)) B.pre
  have h2 : ∀ w ∈ gT, w.before ([.long x, .long v900] : List Value).toArray s = true := fun w hw => hts0 w (List.mem_cons_of_mem _ hw)
  have hown : s.vm.findClass RJ9 = some m.cls := findClass_of_methodNamed B.named
  have hl := lv_entry [.long x, .long v900] (n := 6) (Nat.le_of_ble_eq_true rfl)
  rw [lg_entry_eq]
  generalize (lg_sl [.long x, .long v900] ++ List.replicate (6 - (lg_sl [.long x, .long v900]).length) Slot.unset).toArray = ls at hl ⊢
  have b_x := zn_i64 x
  have b_v900 := zn_i64 v900
  refine lv_lload_n hx hb (eJ9_floorDiv_f86c9 (0, .lload_n 0, 1) (List.mem_of_getElem? (i := 0) rfl)) rfl (lv_at hl 0 rfl) ?_
  refine lv_lload_n hx hb (eJ9_floorDiv_f86c9 (1, .lload_n 2, 1) (List.mem_of_getElem? (i := 1) rfl)) rfl (lv_at hl 1 rfl) ?_
  refine ff_ldiv hx hb (eJ9_floorDiv_f86c9 (2, .ldiv, 1) (List.mem_of_getElem? (i := 2) rfl)) (e900) (by decide) (fun v1 e1 => ?_)
  refine lv_lstore hx hb (eJ9_floorDiv_f86c9 (3, .lstore 4, 2) (List.mem_of_getElem? (i := 3) rfl)) hl (by decide) rfl (fun ls2 hl2 => ?_)
  refine lv_lload_n hx hb (eJ9_floorDiv_f86c9 (5, .lload_n 0, 1) (List.mem_of_getElem? (i := 4) rfl)) rfl (lv_at hl2 1 rfl) ?_
  refine lv_lload_n hx hb (eJ9_floorDiv_f86c9 (6, .lload_n 2, 1) (List.mem_of_getElem? (i := 5) rfl)) rfl (lv_at hl2 2 rfl) ?_
  refine lv_lxor hx hb (eJ9_floorDiv_f86c9 (7, .lxor, 1) (List.mem_of_getElem? (i := 6) rfl)) ?_
  generalize hxo : x ^^^ v900 = v3
  have e3 : (v3.toInt < 0 ∧ x.toInt < 0) ∨ (0 ≤ v3.toInt ∧ 0 ≤ x.toInt) := by have h9 := xor_neg x v900; rw [hxo] at h9; omega
  refine ff_lconst hx hb (eJ9_floorDiv_f86c9 (8, .lconst 0, 1) (List.mem_of_getElem? (i := 7) rfl)) rfl (fun v4 e4 => ?_)
  refine ff_lcmp hx hb (eJ9_floorDiv_f86c9 (9, .lcmp, 1) (List.mem_of_getElem? (i := 8) rfl)) (fun v5 e5 => ?_)
  refine ff_if_ge hx hb (eJ9_floorDiv_f86c9 (10, .ifCond .ge 17, 3) (List.mem_of_getElem? (i := 9) rfl)) (tgt := 27) rfl (fun c6 => ?_) (fun c6 => ?_)
  · skip
    refine lv_lload hx hb (eJ9_floorDiv_f86c9 (27, .lload 4, 2) (List.mem_of_getElem? (i := 20) rfl)) (lv_at hl2 0 rfl) ?_
    exact zu_lret (y := yJ9_floorDiv_f86c9) (ws := []) (rm := {}) hx hb hr hlk ⟨_, rfl, by omega⟩ (eJ9_floorDiv_f86c9 (29, .lreturn, 1) (List.mem_of_getElem? (i := 21) rfl))
  · skip
    refine lv_lload hx hb (eJ9_floorDiv_f86c9 (13, .lload 4, 2) (List.mem_of_getElem? (i := 10) rfl)) (lv_at hl2 0 rfl) ?_
    refine lv_lload_n hx hb (eJ9_floorDiv_f86c9 (15, .lload_n 2, 1) (List.mem_of_getElem? (i := 11) rfl)) rfl (lv_at hl2 2 rfl) ?_
    refine ff_lmulR hx hb (eJ9_floorDiv_f86c9 (16, .lmul, 1) (List.mem_of_getElem? (i := 12) rfl)) (e900) (by omega) (by omega) (fun v7 e7 => ?_)
    refine lv_lload_n hx hb (eJ9_floorDiv_f86c9 (17, .lload_n 0, 1) (List.mem_of_getElem? (i := 13) rfl)) rfl (lv_at hl2 1 rfl) ?_
    refine ff_lcmp hx hb (eJ9_floorDiv_f86c9 (18, .lcmp, 1) (List.mem_of_getElem? (i := 14) rfl)) (fun v8 e8 => ?_)
    refine ff_if_eq hx hb (eJ9_floorDiv_f86c9 (19, .ifCond .eq 8, 3) (List.mem_of_getElem? (i := 15) rfl)) (tgt := 27) rfl (fun c9 => ?_) (fun c9 => ?_)
    · skip
      refine lv_lload hx hb (eJ9_floorDiv_f86c9 (27, .lload 4, 2) (List.mem_of_getElem? (i := 20) rfl)) (lv_at hl2 0 rfl) ?_
      exact zu_lret (y := yJ9_floorDiv_f86c9) (ws := []) (rm := {}) hx hb hr hlk ⟨_, rfl, by omega⟩ (eJ9_floorDiv_f86c9 (29, .lreturn, 1) (List.mem_of_getElem? (i := 21) rfl))
    · skip
      refine lv_lload hx hb (eJ9_floorDiv_f86c9 (22, .lload 4, 2) (List.mem_of_getElem? (i := 16) rfl)) (lv_at hl2 0 rfl) ?_
      refine ff_lconst hx hb (eJ9_floorDiv_f86c9 (24, .lconst 1, 1) (List.mem_of_getElem? (i := 17) rfl)) rfl (fun v10 e10 => ?_)
      refine ff_lsub hx hb (eJ9_floorDiv_f86c9 (25, .lsub, 1) (List.mem_of_getElem? (i := 18) rfl)) (by omega) (by omega) (fun v11 e11 => ?_)
      exact zu_lret (y := yJ9_floorDiv_f86c9) (ws := []) (rm := {}) hx hb hr hlk ⟨_, rfl, by omega⟩ (eJ9_floorDiv_f86c9 (26, .lreturn, 1) (List.mem_of_getElem? (i := 19) rfl))
set_option maxRecDepth 100000 in
set_option maxHeartbeats 4000000 in
theorem hJ9_fm12 (l : Launch) (x : Int64) (v900 : Int64) (e900 : v900.toInt = 12) (hx1 : -100000000000000000 ≤ x.toInt) (hx2 : x.toInt ≤ 100000000000000000) : zu_M l yJ9_floorMod_f86c9 (gW yJ9_floorMod_f86c9 cJ9_floorMod_f86c9 6 (some .long)) { frames := 0, cells := 0, slots := 0, locals := 0 } (fun vs => vs = [.long x, .long v900]) zT (fun _ w => ∃ r : Int64, w = .long r ∧ r.toInt = x.toInt % 12) := by
  refine zy_ofW (cc := cJ9_floorMod_f86c9) (maxL := 6) (ret := (some .long)) (by decide +kernel) rfl ?_
  intro p e s m args below meth c s1 B hml hv
  obtain ⟨vs, rfl, rfl, hKp⟩ := hv
  have hx := B.exec
  have hb := B.bytes
  have hr := B.returns
  have hlk := B.notSynchronized
  have hts0 := atoms_spec (ws := gW yJ9_floorMod_f86c9 cJ9_floorMod_f86c9 6 (some .long)) B.pre
  have h2 : ∀ w ∈ gT, w.before ([.long x, .long v900] : List Value).toArray s = true := fun w hw => hts0 w (List.mem_cons_of_mem _ hw)
  have hown : s.vm.findClass RJ9 = some m.cls := findClass_of_methodNamed B.named
  have hl := lv_entry [.long x, .long v900] (n := 6) (Nat.le_of_ble_eq_true rfl)
  rw [lg_entry_eq]
  generalize (lg_sl [.long x, .long v900] ++ List.replicate (6 - (lg_sl [.long x, .long v900]).length) Slot.unset).toArray = ls at hl ⊢
  have b_x := zn_i64 x
  have b_v900 := zn_i64 v900
  refine lv_lload_n hx hb (eJ9_floorMod_f86c9 (0, .lload_n 0, 1) (List.mem_of_getElem? (i := 0) rfl)) rfl (lv_at hl 0 rfl) ?_
  refine lv_lload_n hx hb (eJ9_floorMod_f86c9 (1, .lload_n 2, 1) (List.mem_of_getElem? (i := 1) rfl)) rfl (lv_at hl 1 rfl) ?_
  refine ff_lrem hx hb (eJ9_floorMod_f86c9 (2, .lrem, 1) (List.mem_of_getElem? (i := 2) rfl)) (e900) (by decide) (fun v1 e1 => ?_)
  refine lv_lstore hx hb (eJ9_floorMod_f86c9 (3, .lstore 4, 2) (List.mem_of_getElem? (i := 3) rfl)) hl (by decide) rfl (fun ls2 hl2 => ?_)
  refine lv_lload_n hx hb (eJ9_floorMod_f86c9 (5, .lload_n 0, 1) (List.mem_of_getElem? (i := 4) rfl)) rfl (lv_at hl2 1 rfl) ?_
  refine lv_lload_n hx hb (eJ9_floorMod_f86c9 (6, .lload_n 2, 1) (List.mem_of_getElem? (i := 5) rfl)) rfl (lv_at hl2 2 rfl) ?_
  refine lv_lxor hx hb (eJ9_floorMod_f86c9 (7, .lxor, 1) (List.mem_of_getElem? (i := 6) rfl)) ?_
  generalize hxo : x ^^^ v900 = v3
  have e3 : (v3.toInt < 0 ∧ x.toInt < 0) ∨ (0 ≤ v3.toInt ∧ 0 ≤ x.toInt) := by have h9 := xor_neg x v900; rw [hxo] at h9; omega
  refine ff_lconst hx hb (eJ9_floorMod_f86c9 (8, .lconst 0, 1) (List.mem_of_getElem? (i := 7) rfl)) rfl (fun v4 e4 => ?_)
  refine ff_lcmp hx hb (eJ9_floorMod_f86c9 (9, .lcmp, 1) (List.mem_of_getElem? (i := 8) rfl)) (fun v5 e5 => ?_)
  refine ff_if_ge hx hb (eJ9_floorMod_f86c9 (10, .ifCond .ge 15, 3) (List.mem_of_getElem? (i := 9) rfl)) (tgt := 25) rfl (fun c6 => ?_) (fun c6 => ?_)
  · skip
    refine lv_lload hx hb (eJ9_floorMod_f86c9 (25, .lload 4, 2) (List.mem_of_getElem? (i := 18) rfl)) (lv_at hl2 0 rfl) ?_
    exact zu_lret (y := yJ9_floorMod_f86c9) (ws := []) (rm := {}) hx hb hr hlk ⟨_, rfl, by omega⟩ (eJ9_floorMod_f86c9 (27, .lreturn, 1) (List.mem_of_getElem? (i := 19) rfl))
  · skip
    refine lv_lload hx hb (eJ9_floorMod_f86c9 (13, .lload 4, 2) (List.mem_of_getElem? (i := 10) rfl)) (lv_at hl2 0 rfl) ?_
    refine ff_lconst hx hb (eJ9_floorMod_f86c9 (15, .lconst 0, 1) (List.mem_of_getElem? (i := 11) rfl)) rfl (fun v7 e7 => ?_)
    refine ff_lcmp hx hb (eJ9_floorMod_f86c9 (16, .lcmp, 1) (List.mem_of_getElem? (i := 12) rfl)) (fun v8 e8 => ?_)
    refine ff_if_eq hx hb (eJ9_floorMod_f86c9 (17, .ifCond .eq 8, 3) (List.mem_of_getElem? (i := 13) rfl)) (tgt := 25) rfl (fun c9 => ?_) (fun c9 => ?_)
    · skip
      refine lv_lload hx hb (eJ9_floorMod_f86c9 (25, .lload 4, 2) (List.mem_of_getElem? (i := 18) rfl)) (lv_at hl2 0 rfl) ?_
      exact zu_lret (y := yJ9_floorMod_f86c9) (ws := []) (rm := {}) hx hb hr hlk ⟨_, rfl, by omega⟩ (eJ9_floorMod_f86c9 (27, .lreturn, 1) (List.mem_of_getElem? (i := 19) rfl))
    · skip
      refine lv_lload hx hb (eJ9_floorMod_f86c9 (20, .lload 4, 2) (List.mem_of_getElem? (i := 14) rfl)) (lv_at hl2 0 rfl) ?_
      refine lv_lload_n hx hb (eJ9_floorMod_f86c9 (22, .lload_n 2, 1) (List.mem_of_getElem? (i := 15) rfl)) rfl (lv_at hl2 2 rfl) ?_
      refine ff_ladd hx hb (eJ9_floorMod_f86c9 (23, .ladd, 1) (List.mem_of_getElem? (i := 16) rfl)) (by omega) (by omega) (fun v10 e10 => ?_)
      exact zu_lret (y := yJ9_floorMod_f86c9) (ws := []) (rm := {}) hx hb hr hlk ⟨_, rfl, by omega⟩ (eJ9_floorMod_f86c9 (24, .lreturn, 1) (List.mem_of_getElem? (i := 17) rfl))
set_option maxRecDepth 100000 in
set_option maxHeartbeats 4000000 in
theorem hJ9_min (l : Launch) (x : Int32) (y : Int32)  : zu_M l yJ9_min_7cf53 (gW yJ9_min_7cf53 cJ9_min_7cf53 2 (some .int)) { frames := 0, cells := 0, slots := 0, locals := 0 } (fun vs => vs = [.int x, .int y]) zT (fun _ w => ∃ r : Int32, w = .int r ∧ ((x.toInt ≤ y.toInt ∧ r.toInt = x.toInt) ∨ (y.toInt < x.toInt ∧ r.toInt = y.toInt))) := by
  refine zy_ofW (cc := cJ9_min_7cf53) (maxL := 2) (ret := (some .int)) (by decide +kernel) rfl ?_
  intro p e s m args below meth c s1 B hml hv
  obtain ⟨vs, rfl, rfl, hKp⟩ := hv
  have hx := B.exec
  have hb := B.bytes
  have hr := B.returns
  have hlk := B.notSynchronized
  have hts0 := atoms_spec (ws := gW yJ9_min_7cf53 cJ9_min_7cf53 2 (some .int)) B.pre
  have h2 : ∀ w ∈ gT, w.before ([.int x, .int y] : List Value).toArray s = true := fun w hw => hts0 w (List.mem_cons_of_mem _ hw)
  have hown : s.vm.findClass RJ9 = some m.cls := findClass_of_methodNamed B.named
  have hl := lv_entry [.int x, .int y] (n := 2) (Nat.le_of_ble_eq_true rfl)
  rw [lg_entry_eq]
  generalize (lg_sl [.int x, .int y] ++ List.replicate (2 - (lg_sl [.int x, .int y]).length) Slot.unset).toArray = ls at hl ⊢
  have b_x := zn_i32 x
  have b_y := zn_i32 y
  refine lv_iload_n hx hb (eJ9_min_7cf53 (0, .iload_n 0, 1) (List.mem_of_getElem? (i := 0) rfl)) rfl (lv_at hl 0 rfl) ?_
  refine lv_iload_n hx hb (eJ9_min_7cf53 (1, .iload_n 1, 1) (List.mem_of_getElem? (i := 1) rfl)) rfl (lv_at hl 1 rfl) ?_
  refine ff_icmp_gt hx hb (eJ9_min_7cf53 (2, .if_icmp .gt 7, 3) (List.mem_of_getElem? (i := 2) rfl)) (tgt := 9) rfl (fun c1 => ?_) (fun c1 => ?_)
  · skip
    refine lv_iload_n hx hb (eJ9_min_7cf53 (9, .iload_n 1, 1) (List.mem_of_getElem? (i := 5) rfl)) rfl (lv_at hl 1 rfl) ?_
    exact zu_iret (y := yJ9_min_7cf53) (ws := []) (rm := {}) hx hb hr hlk rfl ⟨_, rfl, by omega⟩ (eJ9_min_7cf53 (10, .ireturn, 1) (List.mem_of_getElem? (i := 6) rfl))
  · skip
    refine lv_iload_n hx hb (eJ9_min_7cf53 (5, .iload_n 0, 1) (List.mem_of_getElem? (i := 3) rfl)) rfl (lv_at hl 0 rfl) ?_
    refine lv_goto hx hb (eJ9_min_7cf53 (6, .goto 4, 3) (List.mem_of_getElem? (i := 4) rfl)) (tgt := 10) rfl ?_
    exact zu_iret (y := yJ9_min_7cf53) (ws := []) (rm := {}) hx hb hr hlk rfl ⟨_, rfl, by omega⟩ (eJ9_min_7cf53 (10, .ireturn, 1) (List.mem_of_getElem? (i := 6) rfl))
set_option maxRecDepth 100000 in
set_option maxHeartbeats 4000000 in
theorem hX2_monthNumber (l : Launch) (cA : Nat → ClassId) (n : Int64) (hn1 : -365961662 ≤ n.toInt) (hn2 : n.toInt ≤ 364522971) : zu_M l yX2_monthNumber (gW yX2_monthNumber cX2_monthNumber 2 (some .int)) { frames := 3, cells := 0, slots := 0, locals := 69 } (fun vs => vs = [.long n]) (zBM cA) (fun _ w => ∃ r : Int32, w = .int r ∧ -12000000 ≤ r.toInt ∧ r.toInt ≤ 12000000 ∧ ∃ y m d : Int, cvP n.toInt y m d ∧ r.toInt = y * 12 + m - 1) := by
  refine zy_ofW (cc := cX2_monthNumber) (maxL := 2) (ret := (some .int)) (by decide +kernel) rfl ?_
  intro p e s m args below meth c s1 B hml hv
  obtain ⟨vs, rfl, rfl, hKp⟩ := hv
  have hx := B.exec
  have hb := B.bytes
  have hr := B.returns
  have hlk := B.notSynchronized
  have hts0 := atoms_spec (ws := gW yX2_monthNumber cX2_monthNumber 2 (some .int)) B.pre
  have h2 : ∀ w ∈ gT, w.before ([.long n] : List Value).toArray s = true := fun w hw => hts0 w (List.mem_cons_of_mem _ hw)
  have hown : s.vm.findClass RX2 = some m.cls := findClass_of_methodNamed B.named
  have hl := lv_entry [.long n] (n := 2) (Nat.le_of_ble_eq_true rfl)
  rw [lg_entry_eq]
  generalize (lg_sl [.long n] ++ List.replicate (2 - (lg_sl [.long n]).length) Slot.unset).toArray = ls at hl ⊢
  have hBM : ∀ U : State, U.heap = s.heap → s.WarmedH U.vm → zBM cA U := fun U hU hW => zBM_B.2 s U hW hU hKp
  obtain ⟨ab, zb, hz1, hz2, hz3, hz4⟩ := id hKp
  have b_n := zn_i64 n
  refine lv_lload_n hx hb (eX2_monthNumber (0, .lload_n 0, 1) (List.mem_of_getElem? (i := 0) rfl)) rfl (lv_at hl 0 rfl) ?_
  refine zu_S (vs := [.long n]) (rest := []) hx hb hml hown hts0 zu_BT (hX2_yearOf l n (by omega) (by omega)) ⟨rfl, rfl⟩ ⟨by decide, by decide⟩ ⟨by decide, by decide⟩ (tb_2 218 rfl rfl) (tb_1 13 rfl rfl) (tb_2 223 rfl rfl) (tb_2 217 rfl rfl) (show yX2_yearOf.cls ≠ "java/lang/invoke/MethodHandle" ∧ yX2_yearOf.cls ≠ "java/lang/invoke/VarHandle" ∧ (parseMethodDescriptor yX2_yearOf.desc).map (fun d => d.parameters.length) = some 1 by decide +kernel) rfl (fun _ _ _ => trivial) hl.1 (Nat.le_of_ble_eq_true rfl) (eX2_monthNumber (1, .invokestatic 53, 3) (List.mem_of_getElem? (i := 1) rfl)) (fun w1 f1 => ?_)
  obtain ⟨v1, rfl, e1⟩ := f1
  have g1 := isY_in e1.1 (by omega) (by omega)
  refine ff_bipush hx hb (eX2_monthNumber (4, .bipush 12, 2) (List.mem_of_getElem? (i := 2) rfl)) (by decide) (by decide) (fun v2 e2 => ?_)
  refine ff_imulR hx hb (eX2_monthNumber (6, .imul, 1) (List.mem_of_getElem? (i := 3) rfl)) (e2) (by omega) (by omega) (fun v3 e3 => ?_)
  refine lv_lload_n hx hb (eX2_monthNumber (7, .lload_n 0, 1) (List.mem_of_getElem? (i := 4) rfl)) rfl (lv_at hl 0 rfl) ?_
  refine zu_S (vs := [.long n]) (rest := [.int v3]) hx hb hml hown hts0 zBM_B (hX2_monthOf l cA n (by omega) (by omega)) ⟨rfl, rfl⟩ ⟨by decide, by decide⟩ ⟨by decide, by decide⟩ (tb_2 222 rfl rfl) (tb_1 13 rfl rfl) (tb_2 228 rfl rfl) (tb_2 221 rfl rfl) (show yX2_monthOf.cls ≠ "java/lang/invoke/MethodHandle" ∧ yX2_monthOf.cls ≠ "java/lang/invoke/VarHandle" ∧ (parseMethodDescriptor yX2_monthOf.desc).map (fun d => d.parameters.length) = some 1 by decide +kernel) rfl hBM hl.1 (Nat.le_of_ble_eq_true rfl) (eX2_monthNumber (8, .invokestatic 61, 3) (List.mem_of_getElem? (i := 5) rfl)) (fun w4 f4 => ?_)
  obtain ⟨v4, rfl, e4⟩ := f4
  have g4 := mo_y e1.1 e4
  refine ff_iadd hx hb (eX2_monthNumber (11, .iadd, 1) (List.mem_of_getElem? (i := 6) rfl)) (by omega) (by omega) (fun v5 e5 => ?_)
  refine ff_iconst hx hb (eX2_monthNumber (12, .iconst 1, 1) (List.mem_of_getElem? (i := 7) rfl)) (by decide) (by decide) (fun v6 e6 => ?_)
  refine ff_isub hx hb (eX2_monthNumber (13, .isub, 1) (List.mem_of_getElem? (i := 8) rfl)) (by omega) (by omega) (fun v7 e7 => ?_)
  exact zu_iret (y := yX2_monthNumber) (ws := []) (rm := {}) hx hb hr hlk rfl ⟨_, rfl, by (refine ⟨by omega, by omega, v1.toInt, v4.toInt, _, cv_days g4.1 g4.2.1 g4.2.2.1 g4.2.2.2.1, ?_⟩; omega)⟩ (eX2_monthNumber (14, .ireturn, 1) (List.mem_of_getElem? (i := 9) rfl))
set_option maxRecDepth 100000 in
set_option maxHeartbeats 4000000 in
theorem hX2_monthsLater (l : Launch) (cA : Nat → ClassId) (n : Int64) (k : Int32)  : zu_M l yX2_monthsLater (gW yX2_monthsLater cX2_monthsLater 9 (some .long)) { frames := 4, cells := 0, slots := 0, locals := 90 } (fun vs => vs = [.long n, .int k]) (zBM cA) (fun _ w => ∃ r : Int64, w = .long r ∧ ((mtV n.toInt k.toInt ∧ mtG n.toInt k.toInt r.toInt ∧ -370000000 ≤ r.toInt ∧ r.toInt ≤ 370000000) ∨ (r.toInt = -9223372036854775808 ∧ ¬ mtV n.toInt k.toInt))) := by
  refine zy_ofW (cc := cX2_monthsLater) (maxL := 9) (ret := (some .long)) (by decide +kernel) rfl ?_
  intro p e s m args below meth c s1 B hml hv
  obtain ⟨vs, rfl, rfl, hKp⟩ := hv
  have hx := B.exec
  have hb := B.bytes
  have hr := B.returns
  have hlk := B.notSynchronized
  have hts0 := atoms_spec (ws := gW yX2_monthsLater cX2_monthsLater 9 (some .long)) B.pre
  have h2 : ∀ w ∈ gT, w.before ([.long n, .int k] : List Value).toArray s = true := fun w hw => hts0 w (List.mem_cons_of_mem _ hw)
  have hown : s.vm.findClass RX2 = some m.cls := findClass_of_methodNamed B.named
  have hl := lv_entry [.long n, .int k] (n := 9) (Nat.le_of_ble_eq_true rfl)
  rw [lg_entry_eq]
  generalize (lg_sl [.long n, .int k] ++ List.replicate (9 - (lg_sl [.long n, .int k]).length) Slot.unset).toArray = ls at hl ⊢
  have hBM : ∀ U : State, U.heap = s.heap → s.WarmedH U.vm → zBM cA U := fun U hU hW => zBM_B.2 s U hW hU hKp
  obtain ⟨ab, zb, hz1, hz2, hz3, hz4⟩ := id hKp
  have b_n := zn_i64 n
  have b_k := zn_i32 k
  refine lv_lload_n hx hb (eX2_monthsLater (0, .lload_n 0, 1) (List.mem_of_getElem? (i := 0) rfl)) rfl (lv_at hl 0 rfl) ?_
  refine zu_S (vs := [.long n]) (rest := []) hx hb hml hown hts0 zu_BT (hX2_holds l n) ⟨rfl, rfl⟩ ⟨by decide, by decide⟩ ⟨by decide, by decide⟩ (tb_2 212 rfl rfl) (tb_1 13 rfl rfl) (tb_3 31 rfl rfl) (tb_2 211 rfl rfl) (show yX2_holds.cls ≠ "java/lang/invoke/MethodHandle" ∧ yX2_holds.cls ≠ "java/lang/invoke/VarHandle" ∧ (parseMethodDescriptor yX2_holds.desc).map (fun d => d.parameters.length) = some 1 by decide +kernel) rfl (fun _ _ _ => trivial) hl.1 (Nat.le_of_ble_eq_true rfl) (eX2_monthsLater (1, .invokestatic 64, 3) (List.mem_of_getElem? (i := 1) rfl)) (fun w1 f1 => ?_)
  obtain ⟨v1, rfl, e1⟩ := f1
  refine ff_if_ne hx hb (eX2_monthsLater (4, .ifCond .ne 7, 3) (List.mem_of_getElem? (i := 2) rfl)) (tgt := 11) rfl (fun c2 => ?_) (fun c2 => ?_)
  · skip
    refine lv_lload_n hx hb (eX2_monthsLater (11, .lload_n 0, 1) (List.mem_of_getElem? (i := 5) rfl)) rfl (lv_at hl 0 rfl) ?_
    refine zu_S (vs := [.long n]) (rest := []) hx hb hml hown hts0 zBM_B (hX2_monthNumber l cA n (by omega) (by omega)) ⟨rfl, rfl⟩ ⟨by decide, by decide⟩ ⟨by decide, by decide⟩ (tb_3 35 rfl rfl) (tb_1 13 rfl rfl) (tb_3 33 rfl rfl) (tb_3 34 rfl rfl) (show yX2_monthNumber.cls ≠ "java/lang/invoke/MethodHandle" ∧ yX2_monthNumber.cls ≠ "java/lang/invoke/VarHandle" ∧ (parseMethodDescriptor yX2_monthNumber.desc).map (fun d => d.parameters.length) = some 1 by decide +kernel) rfl hBM hl.1 (Nat.le_of_ble_eq_true rfl) (eX2_monthsLater (12, .invokestatic 70, 3) (List.mem_of_getElem? (i := 6) rfl)) (fun w3 f3 => ?_)
    obtain ⟨v3, rfl, e3⟩ := f3
    obtain ⟨bm1, bm2, yy, mm, dd, hcv, hmn⟩ := e3
    refine ff_i2l hx hb (eX2_monthsLater (15, .i2l, 1) (List.mem_of_getElem? (i := 7) rfl)) (fun v4 e4 => ?_)
    refine lv_iload_n hx hb (eX2_monthsLater (16, .iload_n 2, 1) (List.mem_of_getElem? (i := 8) rfl)) rfl (lv_at hl 1 rfl) ?_
    refine ff_i2l hx hb (eX2_monthsLater (17, .i2l, 1) (List.mem_of_getElem? (i := 9) rfl)) (fun v5 e5 => ?_)
    refine ff_ladd hx hb (eX2_monthsLater (18, .ladd, 1) (List.mem_of_getElem? (i := 10) rfl)) (by omega) (by omega) (fun v6 e6 => ?_)
    have hM : v6.toInt = mtM yy mm k.toInt := by unfold mtM; omega
    refine lv_lstore_n hx hb (eX2_monthsLater (19, .lstore_n 3, 1) (List.mem_of_getElem? (i := 11) rfl)) rfl hl (by decide) rfl (fun ls7 hl7 => ?_)
    refine lv_lload_n hx hb (eX2_monthsLater (20, .lload_n 3, 1) (List.mem_of_getElem? (i := 12) rfl)) rfl (lv_at hl7 0 rfl) ?_
    refine ff_ldc2 (n := 12) hx hb hown h2 (clX2_ok 73 12 (List.mem_of_getElem? (i := 15) rfl)) (eX2_monthsLater (21, .ldc2_w 73, 3) (List.mem_of_getElem? (i := 13) rfl)) (fun v8 e8 => ?_)
    refine zu_S (vs := [.long v6, .long v8]) (rest := []) hx hb hml hown hts0 zu_BT (hJ9_fd12 l v6 v8 (by omega) (by omega) (by omega)) ⟨rfl, rfl⟩ ⟨by decide, by decide⟩ ⟨by decide, by decide⟩ (tb_3 39 rfl rfl) (tb_1 18 rfl rfl) (tb_3 37 rfl rfl) (tb_3 38 rfl rfl) (show yJ9_floorDiv_f86c9.cls ≠ "java/lang/invoke/MethodHandle" ∧ yJ9_floorDiv_f86c9.cls ≠ "java/lang/invoke/VarHandle" ∧ (parseMethodDescriptor yJ9_floorDiv_f86c9.desc).map (fun d => d.parameters.length) = some 2 by decide +kernel) rfl (fun _ _ _ => trivial) hl7.1 (Nat.le_of_ble_eq_true rfl) (eX2_monthsLater (24, .invokestatic 75, 3) (List.mem_of_getElem? (i := 14) rfl)) (fun w9 f9 => ?_)
    obtain ⟨v9, rfl, e9⟩ := f9
    have g9 := (show v9.toInt = mtM yy mm k.toInt / 12 by rw [e9, hM])
    refine lv_lstore hx hb (eX2_monthsLater (27, .lstore 5, 2) (List.mem_of_getElem? (i := 15) rfl)) hl7 (by decide) rfl (fun ls10 hl10 => ?_)
    refine lv_lload hx hb (eX2_monthsLater (29, .lload 5, 2) (List.mem_of_getElem? (i := 16) rfl)) (lv_at hl10 0 rfl) ?_
    refine ff_ldc2 (n := (-999999)) hx hb hown h2 (clX2_ok 81 (-999999) (List.mem_of_getElem? (i := 16) rfl)) (eX2_monthsLater (31, .ldc2_w 81, 3) (List.mem_of_getElem? (i := 17) rfl)) (fun v11 e11 => ?_)
    refine ff_lcmp hx hb (eX2_monthsLater (34, .lcmp, 1) (List.mem_of_getElem? (i := 18) rfl)) (fun v12 e12 => ?_)
    refine ff_if_lt hx hb (eX2_monthsLater (35, .ifCond .lt 12, 3) (List.mem_of_getElem? (i := 19) rfl)) (tgt := 47) rfl (fun c13 => ?_) (fun c13 => ?_)
    · skip
      refine ff_ldc2 (n := (-9223372036854775808)) hx hb hown h2 (clX2_ok 68 (-9223372036854775808) (List.mem_of_getElem? (i := 14) rfl)) (eX2_monthsLater (47, .ldc2_w 68, 3) (List.mem_of_getElem? (i := 24) rfl)) (fun v14 e14 => ?_)
      exact zu_lret (y := yX2_monthsLater) (ws := []) (rm := {}) hx hb hr hlk ⟨_, rfl, by (exact Or.inr ⟨by omega, mtV_out hcv (by omega)⟩)⟩ (eX2_monthsLater (50, .lreturn, 1) (List.mem_of_getElem? (i := 25) rfl))
    · skip
      refine lv_lload hx hb (eX2_monthsLater (38, .lload 5, 2) (List.mem_of_getElem? (i := 20) rfl)) (lv_at hl10 0 rfl) ?_
      refine ff_ldc2 (n := 999999) hx hb hown h2 (clX2_ok 83 999999 (List.mem_of_getElem? (i := 17) rfl)) (eX2_monthsLater (40, .ldc2_w 83, 3) (List.mem_of_getElem? (i := 21) rfl)) (fun v15 e15 => ?_)
      refine ff_lcmp hx hb (eX2_monthsLater (43, .lcmp, 1) (List.mem_of_getElem? (i := 22) rfl)) (fun v16 e16 => ?_)
      refine ff_if_le hx hb (eX2_monthsLater (44, .ifCond .le 7, 3) (List.mem_of_getElem? (i := 23) rfl)) (tgt := 51) rfl (fun c17 => ?_) (fun c17 => ?_)
      · skip
        refine lv_lload_n hx hb (eX2_monthsLater (51, .lload_n 3, 1) (List.mem_of_getElem? (i := 26) rfl)) rfl (lv_at hl10 1 rfl) ?_
        refine ff_ldc2 (n := 12) hx hb hown h2 (clX2_ok 73 12 (List.mem_of_getElem? (i := 15) rfl)) (eX2_monthsLater (52, .ldc2_w 73, 3) (List.mem_of_getElem? (i := 27) rfl)) (fun v18 e18 => ?_)
        refine zu_S (vs := [.long v6, .long v18]) (rest := []) hx hb hml hown hts0 zu_BT (hJ9_fm12 l v6 v18 (by omega) (by omega) (by omega)) ⟨rfl, rfl⟩ ⟨by decide, by decide⟩ ⟨by decide, by decide⟩ (tb_3 44 rfl rfl) (tb_1 18 rfl rfl) (tb_3 42 rfl rfl) (tb_3 43 rfl rfl) (show yJ9_floorMod_f86c9.cls ≠ "java/lang/invoke/MethodHandle" ∧ yJ9_floorMod_f86c9.cls ≠ "java/lang/invoke/VarHandle" ∧ (parseMethodDescriptor yJ9_floorMod_f86c9.desc).map (fun d => d.parameters.length) = some 2 by decide +kernel) rfl (fun _ _ _ => trivial) hl10.1 (Nat.le_of_ble_eq_true rfl) (eX2_monthsLater (55, .invokestatic 85, 3) (List.mem_of_getElem? (i := 28) rfl)) (fun w19 f19 => ?_)
        obtain ⟨v19, rfl, e19⟩ := f19
        have g19 := (show v19.toInt = mtM yy mm k.toInt % 12 by rw [e19, hM])
        refine ff_l2i hx hb (eX2_monthsLater (58, .l2i, 1) (List.mem_of_getElem? (i := 29) rfl)) (by omega) (by omega) (fun v20 e20 => ?_)
        refine ff_iconst hx hb (eX2_monthsLater (59, .iconst 1, 1) (List.mem_of_getElem? (i := 30) rfl)) (by decide) (by decide) (fun v21 e21 => ?_)
        refine ff_iadd hx hb (eX2_monthsLater (60, .iadd, 1) (List.mem_of_getElem? (i := 31) rfl)) (by omega) (by omega) (fun v22 e22 => ?_)
        refine lv_istore hx hb (eX2_monthsLater (61, .istore 7, 2) (List.mem_of_getElem? (i := 32) rfl)) hl10 (by decide) rfl (fun ls23 hl23 => ?_)
        refine lv_lload hx hb (eX2_monthsLater (63, .lload 5, 2) (List.mem_of_getElem? (i := 33) rfl)) (lv_at hl23 1 rfl) ?_
        refine ff_l2i hx hb (eX2_monthsLater (65, .l2i, 1) (List.mem_of_getElem? (i := 34) rfl)) (by omega) (by omega) (fun v24 e24 => ?_)
        refine lv_iload hx hb (eX2_monthsLater (66, .iload 7, 2) (List.mem_of_getElem? (i := 35) rfl)) (lv_at hl23 0 rfl) ?_
        refine zu_S (vs := [.int v24, .int v22]) (rest := []) hx hb hml hown hts0 zBM_B (hX2_monthLength l cA v24 v22) ⟨rfl, rfl⟩ ⟨by decide, by decide⟩ ⟨by decide, by decide⟩ (tb_2 115 rfl rfl) (tb_1 13 rfl rfl) (tb_3 45 rfl rfl) (tb_2 114 rfl rfl) (show yX2_monthLength.cls ≠ "java/lang/invoke/MethodHandle" ∧ yX2_monthLength.cls ≠ "java/lang/invoke/VarHandle" ∧ (parseMethodDescriptor yX2_monthLength.desc).map (fun d => d.parameters.length) = some 2 by decide +kernel) rfl hBM hl23.1 (Nat.le_of_ble_eq_true rfl) (eX2_monthsLater (68, .invokestatic 88, 3) (List.mem_of_getElem? (i := 36) rfl)) (fun w25 f25 => ?_)
        obtain ⟨v25, rfl, e25⟩ := f25
        have g25 := (show v25.toInt = mlI (mtM yy mm k.toInt / 12) (mtM yy mm k.toInt % 12 + 1) ∧ 28 ≤ v25.toInt ∧ v25.toInt ≤ 31 by have h9 : v25.toInt = mlI (mtM yy mm k.toInt / 12) (mtM yy mm k.toInt % 12 + 1) := by { rw [e25, show v24.toInt = mtM yy mm k.toInt / 12 by omega, show v22.toInt = mtM yy mm k.toInt % 12 + 1 by omega] }; have h8 := ml_lo (y := mtM yy mm k.toInt / 12) (m := mtM yy mm k.toInt % 12 + 1) (by omega) (by omega); omega)
        refine lv_istore hx hb (eX2_monthsLater (71, .istore 8, 2) (List.mem_of_getElem? (i := 37) rfl)) hl23 (by decide) rfl (fun ls26 hl26 => ?_)
        refine lv_lload hx hb (eX2_monthsLater (73, .lload 5, 2) (List.mem_of_getElem? (i := 38) rfl)) (lv_at hl26 2 rfl) ?_
        refine ff_l2i hx hb (eX2_monthsLater (75, .l2i, 1) (List.mem_of_getElem? (i := 39) rfl)) (by omega) (by omega) (fun v27 e27 => ?_)
        refine lv_iload hx hb (eX2_monthsLater (76, .iload 7, 2) (List.mem_of_getElem? (i := 40) rfl)) (lv_at hl26 1 rfl) ?_
        refine lv_lload_n hx hb (eX2_monthsLater (78, .lload_n 0, 1) (List.mem_of_getElem? (i := 41) rfl)) rfl (lv_at hl26 4 rfl) ?_
        refine zu_S (vs := [.long n]) (rest := [.int v22, .int v27]) hx hb hml hown hts0 zBM_B (hX2_dayOfMonth l cA n (by omega) (by omega)) ⟨rfl, rfl⟩ ⟨by decide, by decide⟩ ⟨by decide, by decide⟩ (tb_2 227 rfl rfl) (tb_1 13 rfl rfl) (tb_3 46 rfl rfl) (tb_2 226 rfl rfl) (show yX2_dayOfMonth.cls ≠ "java/lang/invoke/MethodHandle" ∧ yX2_dayOfMonth.cls ≠ "java/lang/invoke/VarHandle" ∧ (parseMethodDescriptor yX2_dayOfMonth.desc).map (fun d => d.parameters.length) = some 1 by decide +kernel) rfl hBM hl26.1 (Nat.le_of_ble_eq_true rfl) (eX2_monthsLater (79, .invokestatic 92, 3) (List.mem_of_getElem? (i := 42) rfl)) (fun w28 f28 => ?_)
        obtain ⟨v28, rfl, e28⟩ := f28
        obtain ⟨y2, m2, hcv2⟩ := e28
        obtain ⟨-, -, hdd⟩ := cvP_one hcv hcv2
        have hd1 : 1 ≤ v28.toInt := hcv2.2.2.1
        have hd2 : v28.toInt ≤ 31 := Int.le_trans hcv2.2.2.2.1 (mlI_bd _ _).2
        refine lv_iload hx hb (eX2_monthsLater (82, .iload 8, 2) (List.mem_of_getElem? (i := 43) rfl)) (lv_at hl26 0 rfl) ?_
        refine zu_S (vs := [.int v28, .int v25]) (rest := [.int v22, .int v27]) hx hb hml hown hts0 zu_BT (hJ9_min l v28 v25) ⟨rfl, rfl⟩ ⟨by decide, by decide⟩ ⟨by decide, by decide⟩ (tb_3 49 rfl rfl) (tb_1 18 rfl rfl) (tb_3 47 rfl rfl) (tb_3 48 rfl rfl) (show yJ9_min_7cf53.cls ≠ "java/lang/invoke/MethodHandle" ∧ yJ9_min_7cf53.cls ≠ "java/lang/invoke/VarHandle" ∧ (parseMethodDescriptor yJ9_min_7cf53.desc).map (fun d => d.parameters.length) = some 2 by decide +kernel) rfl (fun _ _ _ => trivial) hl26.1 (Nat.le_of_ble_eq_true rfl) (eX2_monthsLater (84, .invokestatic 95, 3) (List.mem_of_getElem? (i := 44) rfl)) (fun w29 f29 => ?_)
        obtain ⟨v29, rfl, e29⟩ := f29
        refine zu_S (vs := [.int v27, .int v22, .int v29]) (rest := []) hx hb hml hown hts0 zBM_B (hX2_numberOf l cA v27 v22 v29 (by omega) (by omega) (by omega) (by omega) (by omega) (by omega)) ⟨rfl, rfl⟩ ⟨by decide, by decide⟩ ⟨by decide, by decide⟩ (tb_2 190 rfl rfl) (tb_1 13 rfl rfl) (tb_2 224 rfl rfl) (tb_2 189 rfl rfl) (show yX2_numberOf.cls ≠ "java/lang/invoke/MethodHandle" ∧ yX2_numberOf.cls ≠ "java/lang/invoke/VarHandle" ∧ (parseMethodDescriptor yX2_numberOf.desc).map (fun d => d.parameters.length) = some 3 by decide +kernel) rfl hBM hl26.1 (Nat.le_of_ble_eq_true rfl) (eX2_monthsLater (87, .invokestatic 57, 3) (List.mem_of_getElem? (i := 45) rfl)) (fun w30 f30 => ?_)
        obtain ⟨v30, rfl, e30⟩ := f30
        exact zu_lret (y := yX2_monthsLater) (ws := []) (rm := {}) hx hb hr hlk ⟨_, rfl, by (left; have h9 : v29.toInt = if dd < mlI (mtM yy mm k.toInt / 12) (mtM yy mm k.toInt % 12 + 1) then dd else mlI (mtM yy mm k.toInt / 12) (mtM yy mm k.toInt % 12 + 1) := by { rw [hdd]; split <;> omega }; have h8 : v30.toInt = nuI (mtM yy mm k.toInt / 12) (mtM yy mm k.toInt % 12 + 1) (if dd < mlI (mtM yy mm k.toInt / 12) (mtM yy mm k.toInt % 12 + 1) then dd else mlI (mtM yy mm k.toInt / 12) (mtM yy mm k.toInt % 12 + 1)) := by { rw [e30, h9, show v27.toInt = mtM yy mm k.toInt / 12 by omega, show v22.toInt = mtM yy mm k.toInt % 12 + 1 by omega] }; refine ⟨mtV_in (by omega) (by omega) hcv (by omega) (by omega), ⟨yy, mm, dd, hcv, h8⟩, ?_⟩; rw [e30]; exact mt_bd (by omega) (by omega) (by omega) (by omega) (by omega) (by omega))⟩ (eX2_monthsLater (90, .lreturn, 1) (List.mem_of_getElem? (i := 46) rfl))
      · skip
        refine ff_ldc2 (n := (-9223372036854775808)) hx hb hown h2 (clX2_ok 68 (-9223372036854775808) (List.mem_of_getElem? (i := 14) rfl)) (eX2_monthsLater (47, .ldc2_w 68, 3) (List.mem_of_getElem? (i := 24) rfl)) (fun v31 e31 => ?_)
        exact zu_lret (y := yX2_monthsLater) (ws := []) (rm := {}) hx hb hr hlk ⟨_, rfl, by (exact Or.inr ⟨by omega, mtV_out hcv (by omega)⟩)⟩ (eX2_monthsLater (50, .lreturn, 1) (List.mem_of_getElem? (i := 25) rfl))
  · skip
    refine ff_ldc2 (n := (-9223372036854775808)) hx hb hown h2 (clX2_ok 68 (-9223372036854775808) (List.mem_of_getElem? (i := 14) rfl)) (eX2_monthsLater (7, .ldc2_w 68, 3) (List.mem_of_getElem? (i := 3) rfl)) (fun v32 e32 => ?_)
    exact zu_lret (y := yX2_monthsLater) (ws := []) (rm := {}) hx hb hr hlk ⟨_, rfl, by (exact Or.inr ⟨by omega, fun h => by have h1 := h.1; have h2 := h.2.1; omega⟩)⟩ (eX2_monthsLater (10, .lreturn, 1) (List.mem_of_getElem? (i := 4) rfl))
set_option maxRecDepth 100000 in
set_option maxHeartbeats 4000000 in
theorem hX11_months (l : Launch) (hst : l.stackTraces = false) (D : va_G) (cA : Nat → ClassId) (ro : Nat → Option Nat) (sz : Nat) (H0 : Heap) (x : Nat) (n : Int64) (k : Int32) : vx_Met l yX11_months (gW yX11_months cX11_months 6 (some .long)) { frames := 6, cells := 1, slots := 6, locals := 118 } (zd_PX D cA ro sz H0 [.ref x, .long n, .int k]) (zg_QXl (mtV n.toInt k.toInt) (mtG n.toInt k.toInt)) (zg_XX D cA ro sz H0 (mtV n.toInt k.toInt)) 1 6 (zy_fr sz) := by
  refine vx_ofW (cc := cX11_months) (maxL := 6) (ret := (some .long)) (by decide +kernel) rfl ?_
  intro p e s m args below meth c s1 B hml hex hv
  obtain ⟨rfl, hh, hKx, hKp⟩ := hv
  have hx := B.exec
  have hb := B.bytes
  have hr := B.returns
  have hlk := B.notSynchronized
  have hts0 := atoms_spec (ws := gW yX11_months cX11_months 6 (some .long)) B.pre
  have h2 : ∀ w ∈ gT, w.before ([.ref x, .long n, .int k] : List Value).toArray s = true := fun w hw => hts0 w (List.mem_cons_of_mem _ hw)
  have hown : s.vm.findClass RX11 = some m.cls := findClass_of_methodNamed B.named
  have hl := lv_entry [.ref x, .long n, .int k] (n := 6) (Nat.le_of_ble_eq_true rfl)
  rw [lg_entry_eq]
  generalize (lg_sl [.ref x, .long n, .int k] ++ List.replicate (6 - (lg_sl [.ref x, .long n, .int k]).length) Slot.unset).toArray = ls at hl ⊢
  have b_n := zn_i64 n
  have b_k := zn_i32 k
  have hBM : ∀ U : State, U.heap = s.heap → s.WarmedH U.vm → zBM cA U := fun U hU hW => zBM_B.2 s U hW hU hKp
  refine lv_lload_n hx hb (eX11_months (0, .lload_n 1, 1) (List.mem_of_getElem? (i := 0) rfl)) rfl (lv_at hl 1 rfl) ?_
  refine lv_iload_n hx hb (eX11_months (1, .iload_n 3, 1) (List.mem_of_getElem? (i := 1) rfl)) rfl (lv_at hl 2 rfl) ?_
  refine zu_S (vs := [.long n, .int k]) (rest := []) hx hb hml hown hts0 zBM_B (hX2_monthsLater l cA n k) ⟨rfl, rfl⟩ ⟨by decide, by decide⟩ ⟨by decide, by decide⟩ (tb_3 30 rfl rfl) (tb_1 13 rfl rfl) (tb_3 28 rfl rfl) (tb_3 29 rfl rfl) (show yX2_monthsLater.cls ≠ "java/lang/invoke/MethodHandle" ∧ yX2_monthsLater.cls ≠ "java/lang/invoke/VarHandle" ∧ (parseMethodDescriptor yX2_monthsLater.desc).map (fun d => d.parameters.length) = some 2 by decide +kernel) rfl hBM hl.1 (Nat.le_of_ble_eq_true rfl) (eX11_months (2, .invokestatic 138, 3) (List.mem_of_getElem? (i := 2) rfl)) (fun w1 f1 => ?_)
  obtain ⟨v1, rfl, e1⟩ := f1
  refine lv_lstore hx hb (eX11_months (5, .lstore 4, 2) (List.mem_of_getElem? (i := 3) rfl)) hl (by decide) rfl (fun ls2 hl2 => ?_)
  refine lv_lload hx hb (eX11_months (7, .lload 4, 2) (List.mem_of_getElem? (i := 4) rfl)) (lv_at hl2 0 rfl) ?_
  refine ff_ldc2 (n := (-9223372036854775808)) hx hb hown h2 (clX11_ok 62 (-9223372036854775808) (List.mem_of_getElem? (i := 0) rfl)) (eX11_months (9, .ldc2_w 62, 3) (List.mem_of_getElem? (i := 5) rfl)) (fun v3 e3 => ?_)
  refine ff_lcmp hx hb (eX11_months (12, .lcmp, 1) (List.mem_of_getElem? (i := 6) rfl)) (fun v4 e4 => ?_)
  refine ff_if_ne hx hb (eX11_months (13, .ifCond .ne 13, 3) (List.mem_of_getElem? (i := 7) rfl)) (tgt := 26) rfl (fun c5 => ?_) (fun c5 => ?_)
  · skip
    refine lv_lload hx hb (eX11_months (26, .lload 4, 2) (List.mem_of_getElem? (i := 13) rfl)) (lv_at hl2 0 rfl) ?_
    exact vx_ret (W.widen (k := 1) (n := 6) (Nat.zero_le _) (Nat.zero_le _) (W.lret hx hb hr (fun t ht hW => ⟨_, rfl, ht, by (rcases e1 with h | h; exact h.1; exfalso; omega), by (rcases e1 with h | h; exact h.2.1; exfalso; omega)⟩) (fun q hq => by cases hq) (eX11_months (28, .lreturn, 1) (List.mem_of_getElem? (i := 14) rfl))))
  · skip
    exact zx_leafG (ik := 83) (is := 98) (ic := 87) (cls := "java/lang/IllegalArgumentException") (text := "a day of no year") hx hb hst hown h2 hKx hh hh (by rw [hl2.1, hml]) hex hlk ⟨by decide, by decide, by decide, by decide⟩ (tb_2 121 rfl rfl) (tb_1 17 rfl rfl) (by decide) (gAt_in gAt_1) (by decide +kernel) (by decide) (by decide) (fun t h7 h8 => ⟨rfl, by rcases e1 with h | h; exfalso; omega; exact h.2, hh.grow h7 h8⟩) (eX11_months (16, .new 83, 3) (List.mem_of_getElem? (i := 8) rfl)) (eX11_months (19, .dup, 1) (List.mem_of_getElem? (i := 9) rfl)) (eX11_months (20, .ldc 98, 2) (List.mem_of_getElem? (i := 10) rfl)) (eX11_months (22, .invokespecial 87, 3) (List.mem_of_getElem? (i := 11) rfl)) (eX11_months (25, .athrow, 1) (List.mem_of_getElem? (i := 12) rfl))
set_option maxRecDepth 100000 in
set_option maxHeartbeats 4000000 in
theorem wE_months (l : Launch) (hst : l.stackTraces = false) (D : va_G) (cA : Nat → ClassId) (ro : Nat → Option Nat) (sz : Nat) (H0 : Heap) (x : Nat) (p1 : Int64) (p2 : Int32) (o : Nat) (hx10 : ro x = some 10) (ho : ro o = some 42) : Met l yL_months (Cond.codeWith yL_months cL_months 6 (some .int) [(0, 10, 13, 13)] :: gT) { frames := 7, cells := 1, slots := 6, locals := 143 } (zd_PL D cA ro sz H0 [.ref x, .long p1, .int p2, .ref o]) (zg_QL D cA ro sz H0 o (mtV p1.toInt p2.toInt) (mtG p1.toInt p2.toInt)) 1 6 (zy_fr sz) := by
  refine zw_ofW (cc := cL_months) (maxL := 6) (ret := some .int) (by decide +kernel) rfl ?_
  intro p e s m args below meth c s1 B hml hv
  obtain ⟨rfl, hh, hKa, hBM⟩ := hv
  have hx := B.exec
  have hb := B.bytes
  have hr := B.returns
  have hlk := B.notSynchronized
  have hts0 := atoms_spec (ws := Cond.codeWith yL_months cL_months 6 (some .int) [(0, 10, 13, 13)] :: gT) B.pre
  have h2 : ∀ w ∈ gT, w.before ([.ref x, .long p1, .int p2, .ref o] : List Value).toArray s = true := fun w hw => hts0 w (List.mem_cons_of_mem _ hw)
  have hown : s.vm.findClass RL = some m.cls := findClass_of_methodNamed B.named
  have hl := lv_entry [.ref x, .long p1, .int p2, .ref o] (n := 6) (Nat.le_of_ble_eq_true rfl)
  rw [lg_entry_eq]
  generalize (lg_sl [.ref x, .long p1, .int p2, .ref o] ++ List.replicate (6 - (lg_sl [.ref x, .long p1, .int p2, .ref o]).length) Slot.unset).toArray = ls at hl ⊢
  refine lv_aload hx hb (eL_months (0, .aload 4, 2) (List.mem_of_getElem? (i := 0) rfl)) (lv_at hl 3 rfl) ?_
  refine ff_iconst hx hb (eL_months (2, .iconst 0, 1) (List.mem_of_getElem? (i := 1) rfl)) (by decide) (by decide) (fun v1 e1 => ?_)
  refine lv_aload_n hx hb (eL_months (3, .aload_n 0, 1) (List.mem_of_getElem? (i := 2) rfl)) rfl (lv_at hl 0 rfl) ?_
  refine lv_lload_n hx hb (eL_months (4, .lload_n 1, 1) (List.mem_of_getElem? (i := 3) rfl)) rfl (lv_at hl 1 rfl) ?_
  refine lv_iload_n hx hb (eL_months (5, .iload_n 3, 1) (List.mem_of_getElem? (i := 4) rfl)) rfl (lv_at hl 2 rfl) ?_
  refine zx_rowG (As := [.long p1, .int p2]) (st := [.int v1, .ref o]) (b := x) (C := RX11) hx hb hml hown hts0 (hX11_months l hst D cA ro sz H0 x p1 p2) ⟨rfl, rfl⟩ ⟨by decide, by decide⟩ ⟨by decide, by decide⟩ (tb_3 27 rfl rfl) (tb_1 1 rfl rfl) (tb_3 24 rfl rfl) (tb_3 25 rfl rfl) (tb_3 26 rfl rfl) rfl (show yX11_months.cls ≠ "java/lang/invoke/MethodHandle" ∧ yX11_months.cls ≠ "java/lang/invoke/VarHandle" ∧ (parseMethodDescriptor yX11_months.desc).map (fun d => d.parameters.length) = some 2 by decide +kernel) zd_blindX (zw_ob hh hKa.1.1.1 hx10) (fun U hU hW => ⟨rfl, by rw [hU]; exact hh, hKa.1.warm hW, zBM_B.2 s U hW hU hBM⟩) (fun q hq => by cases hq) hl.1 (Nat.le_of_ble_eq_true rfl) (eL_months (6, .invokevirtual 22, 3) (List.mem_of_getElem? (i := 5) rfl)) (fun v s0 t lo1 g0 g1 g2 => ?_) (fun q s0 t lo1 E ce g0 g1 g3 g4 g5 g2 => ?_)
  · obtain ⟨r9, q1, q2, q3, q4⟩ := g1
    cases q1
    have hh1 : zh_ok D cA RTg ro sz H0 t.heap lo1 := by rw [q2, g0]; exact ⟨hh.1, hh.2.1, g2, hh.2.2.2⟩
    refine W.eq (g2 := F0 m 9 ls [.long r9, .int v1, .ref o]) rfl ?_
    refine zw_out hx hb hh1 hKa.1.1.1 ho (by omega) (eL_months (9, .lastore, 1) (List.mem_of_getElem? (i := 6) rfl)) (fun H9 lo9 hh9 _ _ hz9 => ?_)
    obtain ⟨z9, hz9, hz8⟩ := hz9
    refine lv_goto hx hb (eL_months (10, .goto 7, 3) (List.mem_of_getElem? (i := 7) rfl)) (tgt := 17) rfl ?_
    refine ff_iconst hx hb (eL_months (17, .iconst 0, 1) (List.mem_of_getElem? (i := 11) rfl)) (by decide) (by decide) (fun v2 e2 => ?_)
    exact W.zret hx hb hr rfl (fun t ht hW => ⟨_, rfl, by rw [ht]; exact hh9.l0, Or.inl ⟨by omega, q3, z9, r9, by rw [ht]; exact hz9, hz8, q4⟩⟩) hh9.2.2.1 (eL_months (18, .ireturn, 1) (List.mem_of_getElem? (i := 12) rfl))
  · obtain ⟨rfl, q3, q4⟩ := g1
    have hh1 : zh_ok D cA RTg ro sz H0 t.heap lo1 := ⟨q4.1, q4.2.1, g2, q4.2.2.2⟩
    refine vx_catch (own := RL) (name := "java/lang/IllegalArgumentException") hown [] ⟨0, 10, 13, 13⟩ [] (vx_table (x := yL_months) B (h2 _ (tb_3 23 rfl rfl))) (fun z hz => by cases hz) rfl (by decide) (h2 _ (tb_2 103 rfl rfl)) (va_Nw.use rfl (hKa.1.2.2.2.2.1 (eI, eI) (List.mem_of_getElem? (i := 0) rfl))) g3 g4 g5 ?_
    refine lv_astore hx hb (eL_months (13, .astore 5, 2) (List.mem_of_getElem? (i := 8) rfl)) hl (by decide) rfl (fun ls3 hl3 => ?_)
    refine ff_iconst hx hb (eL_months (15, .iconst 1, 1) (List.mem_of_getElem? (i := 9) rfl)) (by decide) (by decide) (fun v4 e4 => ?_)
    exact W.zret hx hb hr rfl (fun t ht hW => ⟨_, rfl, by rw [ht]; exact hh1.l0, Or.inr ⟨by omega, q3⟩⟩) hh1.2.2.1 (eL_months (16, .ireturn, 1) (List.mem_of_getElem? (i := 10) rfl))
def zg_moQ (D : va_G) (cA : Nat → ClassId) (ro : Nat → Option Nat) (sz : Nat) (H0 : Heap) (a : Nat) (n k : Int) : Array Value → State → Outcome → State → Prop := fun _ st oc t => ∃ r : Int64, oc = .returned (some (.long r)) ∧ zh_ok D cA RTg ro sz H0 t.heap [] ∧ (∀ q : Nat, q ≠ a → t.heap[q]? = st.heap[q]?) ∧ zc_kept D RTg ro [(11, 18), (11, 19), (11, 20)] st.heap t.heap ∧ ((mtV n k ∧ mtG n k r.toInt ∧ -370000000 ≤ r.toInt ∧ r.toInt ≤ 370000000) ∨ (r.toInt = -9223372036854775808 ∧ ¬ mtV n k))
set_option maxRecDepth 100000 in
set_option maxHeartbeats 4000000 in
theorem hX12_down12 (l : Launch) (a : Int64) (v900 : Int64) (e900 : v900.toInt = 12) (ha1 : -9000000000000000000 ≤ a.toInt) (ha2 : a.toInt ≤ 9000000000000000000) : zu_M l yX12_down (gW yX12_down cX12_down 6 (some .long)) { frames := 0, cells := 0, slots := 0, locals := 0 } (fun vs => vs = [.long a, .long v900]) zT (fun _ w => ∃ r : Int64, w = .long r ∧ r.toInt = a.toInt / 12) := by
  refine zy_ofW (cc := cX12_down) (maxL := 6) (ret := (some .long)) (by decide +kernel) rfl ?_
  intro p e s m args below meth c s1 B hml hv
  obtain ⟨vs, rfl, rfl, hKp⟩ := hv
  have hx := B.exec
  have hb := B.bytes
  have hr := B.returns
  have hlk := B.notSynchronized
  have hts0 := atoms_spec (ws := gW yX12_down cX12_down 6 (some .long)) B.pre
  have h2 : ∀ w ∈ gT, w.before ([.long a, .long v900] : List Value).toArray s = true := fun w hw => hts0 w (List.mem_cons_of_mem _ hw)
  have hown : s.vm.findClass RX12 = some m.cls := findClass_of_methodNamed B.named
  have hl := lv_entry [.long a, .long v900] (n := 6) (Nat.le_of_ble_eq_true rfl)
  rw [lg_entry_eq]
  generalize (lg_sl [.long a, .long v900] ++ List.replicate (6 - (lg_sl [.long a, .long v900]).length) Slot.unset).toArray = ls at hl ⊢
  have b_a := zn_i64 a
  have b_v900 := zn_i64 v900
  refine lv_lload_n hx hb (eX12_down (0, .lload_n 0, 1) (List.mem_of_getElem? (i := 0) rfl)) rfl (lv_at hl 0 rfl) ?_
  refine lv_lload_n hx hb (eX12_down (1, .lload_n 2, 1) (List.mem_of_getElem? (i := 1) rfl)) rfl (lv_at hl 1 rfl) ?_
  refine ff_ldiv hx hb (eX12_down (2, .ldiv, 1) (List.mem_of_getElem? (i := 2) rfl)) (e900) (by decide) (fun v1 e1 => ?_)
  refine lv_lstore hx hb (eX12_down (3, .lstore 4, 2) (List.mem_of_getElem? (i := 3) rfl)) hl (by decide) rfl (fun ls2 hl2 => ?_)
  refine lv_lload_n hx hb (eX12_down (5, .lload_n 0, 1) (List.mem_of_getElem? (i := 4) rfl)) rfl (lv_at hl2 1 rfl) ?_
  refine lv_lload_n hx hb (eX12_down (6, .lload_n 2, 1) (List.mem_of_getElem? (i := 5) rfl)) rfl (lv_at hl2 2 rfl) ?_
  refine ff_lrem hx hb (eX12_down (7, .lrem, 1) (List.mem_of_getElem? (i := 6) rfl)) (e900) (by decide) (fun v3 e3 => ?_)
  refine ff_lconst hx hb (eX12_down (8, .lconst 0, 1) (List.mem_of_getElem? (i := 7) rfl)) rfl (fun v4 e4 => ?_)
  refine ff_lcmp hx hb (eX12_down (9, .lcmp, 1) (List.mem_of_getElem? (i := 8) rfl)) (fun v5 e5 => ?_)
  refine ff_if_ge hx hb (eX12_down (10, .ifCond .ge 10, 3) (List.mem_of_getElem? (i := 9) rfl)) (tgt := 20) rfl (fun c6 => ?_) (fun c6 => ?_)
  · skip
    refine lv_lload hx hb (eX12_down (20, .lload 4, 2) (List.mem_of_getElem? (i := 14) rfl)) (lv_at hl2 0 rfl) ?_
    exact zu_lret (y := yX12_down) (ws := []) (rm := {}) hx hb hr hlk ⟨_, rfl, by omega⟩ (eX12_down (22, .lreturn, 1) (List.mem_of_getElem? (i := 15) rfl))
  · skip
    refine lv_lload hx hb (eX12_down (13, .lload 4, 2) (List.mem_of_getElem? (i := 10) rfl)) (lv_at hl2 0 rfl) ?_
    refine ff_lconst hx hb (eX12_down (15, .lconst 1, 1) (List.mem_of_getElem? (i := 11) rfl)) rfl (fun v7 e7 => ?_)
    refine ff_lsub hx hb (eX12_down (16, .lsub, 1) (List.mem_of_getElem? (i := 12) rfl)) (by omega) (by omega) (fun v8 e8 => ?_)
    refine lv_goto hx hb (eX12_down (17, .goto 5, 3) (List.mem_of_getElem? (i := 13) rfl)) (tgt := 22) rfl ?_
    exact zu_lret (y := yX12_down) (ws := []) (rm := {}) hx hb hr hlk ⟨_, rfl, by omega⟩ (eX12_down (22, .lreturn, 1) (List.mem_of_getElem? (i := 15) rfl))
set_option maxRecDepth 100000 in
set_option maxHeartbeats 4000000 in
theorem hX12_monthsOn (l : Launch) (D : va_G) (cA : Nat → ClassId) (ro : Nat → Option Nat) (sz : Nat) (H0 : Heap) (a : Nat) (n : Int64) (k : Int64) (ha : ro a = some 11) (hn1 : -365961662 ≤ n.toInt) (hn2 : n.toInt ≤ 364522971) (hk1 : -2147483648 ≤ k.toInt) (hk2 : k.toInt ≤ 2147483647) : Met l yX12_monthsOn (gW yX12_monthsOn cX12_monthsOn 11 (some .long)) { frames := 2, cells := 0, slots := 0, locals := 58 } (zd_Pc D cA ro sz H0 [.ref a, .long n, .long k]) (zg_moQ D cA ro sz H0 a n.toInt k.toInt) 0 0 (zy_fr sz) := by
  refine zy_ofW (cc := cX12_monthsOn) (maxL := 11) (ret := (some .long)) (by decide +kernel) rfl ?_
  intro p e s m args below meth c s1 B hml hv
  obtain ⟨rfl, hh, hKn⟩ := hv
  have hx := B.exec
  have hb := B.bytes
  have hr := B.returns
  have hlk := B.notSynchronized
  have hts0 := atoms_spec (ws := gW yX12_monthsOn cX12_monthsOn 11 (some .long)) B.pre
  have h2 : ∀ w ∈ gT, w.before ([.ref a, .long n, .long k] : List Value).toArray s = true := fun w hw => hts0 w (List.mem_cons_of_mem _ hw)
  have hown : s.vm.findClass RX12 = some m.cls := findClass_of_methodNamed B.named
  have hl := lv_entry [.ref a, .long n, .long k] (n := 11) (Nat.le_of_ble_eq_true rfl)
  rw [lg_entry_eq]
  generalize (lg_sl [.ref a, .long n, .long k] ++ List.replicate (11 - (lg_sl [.ref a, .long n, .long k]).length) Slot.unset).toArray = ls at hl ⊢
  have b_n := zn_i64 n
  have b_k := zn_i64 k
  have hD := zD_all h2 hKn.1
  have hcl := fun (idx k : Nat) (t : zt_T) (h : (idx, 11, k) ∈ gfX12) (hk : fsX12[k]? = some t) => zf_clause (ro := ro) (ms := [(11, 18), (11, 19), (11, 20)]) h2 hown hKn.1 gfX12_ok (by decide +kernel) idx 11 k 11 0 fsX12 t h rfl hk
  have kp0 : zc_kept D RTg ro [(11, 18), (11, 19), (11, 20)] s.heap s.heap := zc_kept.refl
  have hq0 : ∀ q : Nat, q ≠ a → s.heap[q]? = s.heap[q]? := fun _ _ => rfl
  refine lv_aload_n hx hb (eX12_monthsOn (0, .aload_n 0, 1) (List.mem_of_getElem? (i := 0) rfl)) rfl (lv_at hl 0 rfl) ?_
  refine lv_lload_n hx hb (eX12_monthsOn (1, .lload_n 1, 1) (List.mem_of_getElem? (i := 1) rfl)) rfl (lv_at hl 1 rfl) ?_
  refine tz_rowV (As := [.long n]) (st := []) (b := a) (C := RX12) (Ts := gT) hx hb hml hown h2 (fun _ h => h) (hX12_civil l D cA ro sz H0 a n ha (by omega) (by omega)) ⟨rfl, rfl⟩ ⟨by decide, by decide⟩ ⟨by decide, by decide⟩ (tb_7 71 rfl rfl) (tb_1 12 rfl rfl) (tb_7 68 rfl rfl) (tb_7 70 rfl rfl) (tb_0 6 rfl rfl) (show yX12_civil.cls ≠ "java/lang/invoke/MethodHandle" ∧ yX12_civil.cls ≠ "java/lang/invoke/VarHandle" ∧ (parseMethodDescriptor yX12_civil.desc).map (fun d => d.parameters.length) = some 1 by decide +kernel) zd_blind (zg_ob12 hh hKn.1 ha) (fun U hU hW => ⟨rfl, by rw [hU]; exact hh.l0, zKb s U hW.alike hKn⟩) hh.2.2.1 hl.1 (Nat.le_of_ble_eq_true rfl) (eX12_monthsOn (2, .invokevirtual 146, 3) (List.mem_of_getElem? (i := 2) rfl)) (fun r1 s1 t1 lo1 g1 f1 l1 => ?_)
  obtain ⟨q1, z1, u1, c1, y1, m1, d1, hy1, hm1, hd1, cv1⟩ := f1
  cases q1
  rw [g1] at u1 c1
  have hh1 : zh_ok D cA RTg ro sz H0 t1.heap lo1 := ⟨z1.1, z1.2.1, l1, z1.2.2.2⟩
  have kp1 := kp0.trans (c1.mono (ms' := [(11, 18), (11, 19), (11, 20)]) (fun x hx => by revert hx; revert x; decide))
  have hqq1 := fun (q : Nat) (g : q ≠ a) => (u1 q g).trans (hq0 q g)
  have iy1 := cvP_isY cv1
  have by1 := isY_in iy1 (by omega) (by omega)
  have bv1 : 1 ≤ m1.toInt ∧ m1.toInt ≤ 12 := ⟨cv1.1, cv1.2.1⟩
  refine W.eq (g2 := F0 m 5 ls []) rfl ?_
  refine lv_aload_n hx hb (eX12_monthsOn (5, .aload_n 0, 1) (List.mem_of_getElem? (i := 3) rfl)) rfl (lv_at hl 0 rfl) ?_
  refine tz_get (r := 11) (k := 18) (t := (1, (-9223372036854775808), 9223372036854775807)) hx hb hh1 ha rfl rfl (hcl 127 18 (1, (-9223372036854775808), 9223372036854775807) (by decide) rfl).1 hy1 (eX12_monthsOn (6, .getfield 127, 3) (List.mem_of_getElem? (i := 4) rfl)) ?_
  refine ff_ldc2 (n := 12) hx hb hown h2 (clX12_ok 153 12 (List.mem_of_getElem? (i := 17) rfl)) (eX12_monthsOn (9, .ldc2_w 153, 3) (List.mem_of_getElem? (i := 5) rfl)) (fun v2 e2 => ?_)
  refine ff_lmulR hx hb (eX12_monthsOn (12, .lmul, 1) (List.mem_of_getElem? (i := 6) rfl)) (e2) (by omega) (by omega) (fun v3 e3 => ?_)
  refine lv_aload_n hx hb (eX12_monthsOn (13, .aload_n 0, 1) (List.mem_of_getElem? (i := 7) rfl)) rfl (lv_at hl 0 rfl) ?_
  refine tz_get (r := 11) (k := 19) (t := (0, (-2147483648), 2147483647)) hx hb hh1 ha rfl rfl (hcl 124 19 (0, (-2147483648), 2147483647) (by decide) rfl).1 hm1 (eX12_monthsOn (14, .getfield 124, 3) (List.mem_of_getElem? (i := 8) rfl)) ?_
  refine ff_i2l hx hb (eX12_monthsOn (17, .i2l, 1) (List.mem_of_getElem? (i := 9) rfl)) (fun v4 e4 => ?_)
  refine ff_ladd hx hb (eX12_monthsOn (18, .ladd, 1) (List.mem_of_getElem? (i := 10) rfl)) (by omega) (by omega) (fun v5 e5 => ?_)
  refine ff_lconst hx hb (eX12_monthsOn (19, .lconst 1, 1) (List.mem_of_getElem? (i := 11) rfl)) rfl (fun v6 e6 => ?_)
  refine ff_lsub hx hb (eX12_monthsOn (20, .lsub, 1) (List.mem_of_getElem? (i := 12) rfl)) (by omega) (by omega) (fun v7 e7 => ?_)
  refine lv_lload_n hx hb (eX12_monthsOn (21, .lload_n 3, 1) (List.mem_of_getElem? (i := 13) rfl)) rfl (lv_at hl 2 rfl) ?_
  refine ff_ladd hx hb (eX12_monthsOn (22, .ladd, 1) (List.mem_of_getElem? (i := 14) rfl)) (by omega) (by omega) (fun v8 e8 => ?_)
  have hM : v8.toInt = mtM y1.toInt m1.toInt k.toInt := by unfold mtM; omega
  have bd1 : 1 ≤ d1.toInt ∧ d1.toInt ≤ 31 := ⟨cv1.2.2.1, Int.le_trans cv1.2.2.2.1 (mlI_bd _ _).2⟩
  refine lv_lstore hx hb (eX12_monthsOn (23, .lstore 5, 2) (List.mem_of_getElem? (i := 15) rfl)) hl (by decide) rfl (fun ls9 hl9 => ?_)
  refine lv_lload hx hb (eX12_monthsOn (25, .lload 5, 2) (List.mem_of_getElem? (i := 16) rfl)) (lv_at hl9 0 rfl) ?_
  refine ff_ldc2 (n := 12) hx hb hown h2 (clX12_ok 153 12 (List.mem_of_getElem? (i := 17) rfl)) (eX12_monthsOn (27, .ldc2_w 153, 3) (List.mem_of_getElem? (i := 17) rfl)) (fun v10 e10 => ?_)
  refine zu_S (vs := [.long v8, .long v10]) (rest := []) hx hb hml hown hts0 zu_BT (hX12_down12 l v8 v10 (by omega) (by omega) (by omega)) ⟨rfl, rfl⟩ ⟨by decide, by decide⟩ ⟨by decide, by decide⟩ (tb_6 139 rfl rfl) (tb_1 12 rfl rfl) (tb_6 137 rfl rfl) (tb_6 138 rfl rfl) (show yX12_down.cls ≠ "java/lang/invoke/MethodHandle" ∧ yX12_down.cls ≠ "java/lang/invoke/VarHandle" ∧ (parseMethodDescriptor yX12_down.desc).map (fun d => d.parameters.length) = some 2 by decide +kernel) rfl (fun _ _ _ => trivial) hl9.1 (Nat.le_of_ble_eq_true rfl) (eX12_monthsOn (30, .invokestatic 99, 3) (List.mem_of_getElem? (i := 18) rfl)) (fun w11 f11 => ?_)
  obtain ⟨v11, rfl, e11⟩ := f11
  have g11 := (show v11.toInt = mtM y1.toInt m1.toInt k.toInt / 12 by rw [e11, hM])
  refine lv_lstore hx hb (eX12_monthsOn (33, .lstore 7, 2) (List.mem_of_getElem? (i := 19) rfl)) hl9 (by decide) rfl (fun ls12 hl12 => ?_)
  refine lv_lload hx hb (eX12_monthsOn (35, .lload 5, 2) (List.mem_of_getElem? (i := 20) rfl)) (lv_at hl12 1 rfl) ?_
  refine lv_lload hx hb (eX12_monthsOn (37, .lload 7, 2) (List.mem_of_getElem? (i := 21) rfl)) (lv_at hl12 0 rfl) ?_
  refine ff_ldc2 (n := 12) hx hb hown h2 (clX12_ok 153 12 (List.mem_of_getElem? (i := 17) rfl)) (eX12_monthsOn (39, .ldc2_w 153, 3) (List.mem_of_getElem? (i := 22) rfl)) (fun v13 e13 => ?_)
  refine ff_lmulR hx hb (eX12_monthsOn (42, .lmul, 1) (List.mem_of_getElem? (i := 23) rfl)) (e13) (by omega) (by omega) (fun v14 e14 => ?_)
  refine ff_lsub hx hb (eX12_monthsOn (43, .lsub, 1) (List.mem_of_getElem? (i := 24) rfl)) (by omega) (by omega) (fun v15 e15 => ?_)
  refine ff_l2i hx hb (eX12_monthsOn (44, .l2i, 1) (List.mem_of_getElem? (i := 25) rfl)) (by omega) (by omega) (fun v16 e16 => ?_)
  refine ff_iconst hx hb (eX12_monthsOn (45, .iconst 1, 1) (List.mem_of_getElem? (i := 26) rfl)) (by decide) (by decide) (fun v17 e17 => ?_)
  refine ff_iadd hx hb (eX12_monthsOn (46, .iadd, 1) (List.mem_of_getElem? (i := 27) rfl)) (by omega) (by omega) (fun v18 e18 => ?_)
  refine lv_istore hx hb (eX12_monthsOn (47, .istore 9, 2) (List.mem_of_getElem? (i := 28) rfl)) hl12 (by decide) rfl (fun ls19 hl19 => ?_)
  refine lv_lload hx hb (eX12_monthsOn (49, .lload 7, 2) (List.mem_of_getElem? (i := 29) rfl)) (lv_at hl19 1 rfl) ?_
  refine zu_S (vs := [.long v11]) (rest := []) hx hb hml hown hts0 zu_BT (hX12_isYear l v11) ⟨rfl, rfl⟩ ⟨by decide, by decide⟩ ⟨by decide, by decide⟩ (tb_7 44 rfl rfl) (tb_1 12 rfl rfl) (tb_7 42 rfl rfl) (tb_7 43 rfl rfl) (show yX12_isYear.cls ≠ "java/lang/invoke/MethodHandle" ∧ yX12_isYear.cls ≠ "java/lang/invoke/VarHandle" ∧ (parseMethodDescriptor yX12_isYear.desc).map (fun d => d.parameters.length) = some 1 by decide +kernel) rfl (fun _ _ _ => trivial) hl19.1 (Nat.le_of_ble_eq_true rfl) (eX12_monthsOn (51, .invokestatic 150, 3) (List.mem_of_getElem? (i := 30) rfl)) (fun w20 f20 => ?_)
  obtain ⟨v20, rfl, e20⟩ := f20
  refine ff_if_ne hx hb (eX12_monthsOn (54, .ifCond .ne 7, 3) (List.mem_of_getElem? (i := 31) rfl)) (tgt := 61) rfl (fun c21 => ?_) (fun c21 => ?_)
  · skip
    refine lv_lload hx hb (eX12_monthsOn (61, .lload 7, 2) (List.mem_of_getElem? (i := 34) rfl)) (lv_at hl19 1 rfl) ?_
    refine lv_iload hx hb (eX12_monthsOn (63, .iload 9, 2) (List.mem_of_getElem? (i := 35) rfl)) (lv_at hl19 0 rfl) ?_
    refine zu_S (vs := [.long v11, .int v18]) (rest := []) hx hb hml hown hts0 zu_BT (hX12_daysOf l v11 v18 (by omega) (by omega)) ⟨rfl, rfl⟩ ⟨by decide, by decide⟩ ⟨by decide, by decide⟩ (tb_7 51 rfl rfl) (tb_1 12 rfl rfl) (tb_7 49 rfl rfl) (tb_7 50 rfl rfl) (show yX12_daysOf.cls ≠ "java/lang/invoke/MethodHandle" ∧ yX12_daysOf.cls ≠ "java/lang/invoke/VarHandle" ∧ (parseMethodDescriptor yX12_daysOf.desc).map (fun d => d.parameters.length) = some 2 by decide +kernel) rfl (fun _ _ _ => trivial) hl19.1 (Nat.le_of_ble_eq_true rfl) (eX12_monthsOn (65, .invokestatic 155, 3) (List.mem_of_getElem? (i := 36) rfl)) (fun w22 f22 => ?_)
    obtain ⟨v22, rfl, e22⟩ := f22
    have g22 := (show v22.toInt = mlI (mtM y1.toInt m1.toInt k.toInt / 12) (mtM y1.toInt m1.toInt k.toInt % 12 + 1) ∧ 28 ≤ v22.toInt ∧ v22.toInt ≤ 31 by have h9 : v22.toInt = mlI (mtM y1.toInt m1.toInt k.toInt / 12) (mtM y1.toInt m1.toInt k.toInt % 12 + 1) := by { rw [e22, show v11.toInt = mtM y1.toInt m1.toInt k.toInt / 12 by omega, show v18.toInt = mtM y1.toInt m1.toInt k.toInt % 12 + 1 by omega] }; have h8 := ml_lo (y := mtM y1.toInt m1.toInt k.toInt / 12) (m := mtM y1.toInt m1.toInt k.toInt % 12 + 1) (by omega) (by omega); omega)
    refine lv_istore hx hb (eX12_monthsOn (68, .istore 10, 2) (List.mem_of_getElem? (i := 37) rfl)) hl19 (by decide) rfl (fun ls23 hl23 => ?_)
    refine lv_lload hx hb (eX12_monthsOn (70, .lload 7, 2) (List.mem_of_getElem? (i := 38) rfl)) (lv_at hl23 2 rfl) ?_
    refine lv_iload hx hb (eX12_monthsOn (72, .iload 9, 2) (List.mem_of_getElem? (i := 39) rfl)) (lv_at hl23 1 rfl) ?_
    refine lv_aload_n hx hb (eX12_monthsOn (74, .aload_n 0, 1) (List.mem_of_getElem? (i := 40) rfl)) rfl (lv_at hl23 4 rfl) ?_
    refine tz_get (r := 11) (k := 20) (t := (0, (-2147483648), 2147483647)) hx hb hh1 ha rfl rfl (hcl 121 20 (0, (-2147483648), 2147483647) (by decide) rfl).1 hd1 (eX12_monthsOn (75, .getfield 121, 3) (List.mem_of_getElem? (i := 41) rfl)) ?_
    refine lv_iload hx hb (eX12_monthsOn (78, .iload 10, 2) (List.mem_of_getElem? (i := 42) rfl)) (lv_at hl23 0 rfl) ?_
    refine ff_icmp_ge hx hb (eX12_monthsOn (80, .if_icmp .ge 10, 3) (List.mem_of_getElem? (i := 43) rfl)) (tgt := 90) rfl (fun c24 => ?_) (fun c24 => ?_)
    · skip
      refine lv_iload hx hb (eX12_monthsOn (90, .iload 10, 2) (List.mem_of_getElem? (i := 47) rfl)) (lv_at hl23 0 rfl) ?_
      refine zu_S (vs := [.long v11, .int v18, .int v22]) (rest := []) hx hb hml hown hts0 zu_BT (hX12_dayOf l v11 v18 v22 (by omega) (by omega) (by omega) (by omega) (by omega) (by omega)) ⟨rfl, rfl⟩ ⟨by decide, by decide⟩ ⟨by decide, by decide⟩ (tb_6 135 rfl rfl) (tb_1 12 rfl rfl) (tb_6 133 rfl rfl) (tb_6 134 rfl rfl) (show yX12_dayOf.cls ≠ "java/lang/invoke/MethodHandle" ∧ yX12_dayOf.cls ≠ "java/lang/invoke/VarHandle" ∧ (parseMethodDescriptor yX12_dayOf.desc).map (fun d => d.parameters.length) = some 3 by decide +kernel) rfl (fun _ _ _ => trivial) hl23.1 (Nat.le_of_ble_eq_true rfl) (eX12_monthsOn (92, .invokestatic 70, 3) (List.mem_of_getElem? (i := 48) rfl)) (fun w25 f25 => ?_)
      obtain ⟨v25, rfl, e25⟩ := f25
      have h9 : v22.toInt = if d1.toInt < mlI (mtM y1.toInt m1.toInt k.toInt / 12) (mtM y1.toInt m1.toInt k.toInt % 12 + 1) then d1.toInt else mlI (mtM y1.toInt m1.toInt k.toInt / 12) (mtM y1.toInt m1.toInt k.toInt % 12 + 1) := by split <;> omega
      have h8 : v25.toInt = nuI (mtM y1.toInt m1.toInt k.toInt / 12) (mtM y1.toInt m1.toInt k.toInt % 12 + 1) (if d1.toInt < mlI (mtM y1.toInt m1.toInt k.toInt / 12) (mtM y1.toInt m1.toInt k.toInt % 12 + 1) then d1.toInt else mlI (mtM y1.toInt m1.toInt k.toInt / 12) (mtM y1.toInt m1.toInt k.toInt % 12 + 1)) := by rw [e25, show v11.toInt = mtM y1.toInt m1.toInt k.toInt / 12 by omega, show v18.toInt = mtM y1.toInt m1.toInt k.toInt % 12 + 1 by omega]; exact congrArg (nuI _ _) h9
      have h7 : -370000000 ≤ v25.toInt ∧ v25.toInt ≤ 370000000 := by rw [e25]; exact mt_bd (by omega) (by omega) (by omega) (by omega) (by omega) (by omega)
      exact W.lret hx hb hr (fun t ht hW => ⟨_, rfl, by rw [ht]; exact hh1.l0, fun q hq => by rw [ht]; exact hqq1 q hq, by rw [ht]; exact kp1, Or.inl ⟨mtV_in (by omega) (by omega) cv1 (by omega) (by omega), ⟨_, _, _, cv1, h8⟩, h7⟩⟩) hh1.2.2.1 (eX12_monthsOn (95, .lreturn, 1) (List.mem_of_getElem? (i := 49) rfl))
    · skip
      refine lv_aload_n hx hb (eX12_monthsOn (83, .aload_n 0, 1) (List.mem_of_getElem? (i := 44) rfl)) rfl (lv_at hl23 4 rfl) ?_
      refine tz_get (r := 11) (k := 20) (t := (0, (-2147483648), 2147483647)) hx hb hh1 ha rfl rfl (hcl 121 20 (0, (-2147483648), 2147483647) (by decide) rfl).1 hd1 (eX12_monthsOn (84, .getfield 121, 3) (List.mem_of_getElem? (i := 45) rfl)) ?_
      refine lv_goto hx hb (eX12_monthsOn (87, .goto 5, 3) (List.mem_of_getElem? (i := 46) rfl)) (tgt := 92) rfl ?_
      refine zu_S (vs := [.long v11, .int v18, .int d1]) (rest := []) hx hb hml hown hts0 zu_BT (hX12_dayOf l v11 v18 d1 (by omega) (by omega) (by omega) (by omega) (by omega) (by omega)) ⟨rfl, rfl⟩ ⟨by decide, by decide⟩ ⟨by decide, by decide⟩ (tb_6 135 rfl rfl) (tb_1 12 rfl rfl) (tb_6 133 rfl rfl) (tb_6 134 rfl rfl) (show yX12_dayOf.cls ≠ "java/lang/invoke/MethodHandle" ∧ yX12_dayOf.cls ≠ "java/lang/invoke/VarHandle" ∧ (parseMethodDescriptor yX12_dayOf.desc).map (fun d => d.parameters.length) = some 3 by decide +kernel) rfl (fun _ _ _ => trivial) hl23.1 (Nat.le_of_ble_eq_true rfl) (eX12_monthsOn (92, .invokestatic 70, 3) (List.mem_of_getElem? (i := 48) rfl)) (fun w26 f26 => ?_)
      obtain ⟨v26, rfl, e26⟩ := f26
      have h9 : d1.toInt = if d1.toInt < mlI (mtM y1.toInt m1.toInt k.toInt / 12) (mtM y1.toInt m1.toInt k.toInt % 12 + 1) then d1.toInt else mlI (mtM y1.toInt m1.toInt k.toInt / 12) (mtM y1.toInt m1.toInt k.toInt % 12 + 1) := by split <;> omega
      have h8 : v26.toInt = nuI (mtM y1.toInt m1.toInt k.toInt / 12) (mtM y1.toInt m1.toInt k.toInt % 12 + 1) (if d1.toInt < mlI (mtM y1.toInt m1.toInt k.toInt / 12) (mtM y1.toInt m1.toInt k.toInt % 12 + 1) then d1.toInt else mlI (mtM y1.toInt m1.toInt k.toInt / 12) (mtM y1.toInt m1.toInt k.toInt % 12 + 1)) := by rw [e26, show v11.toInt = mtM y1.toInt m1.toInt k.toInt / 12 by omega, show v18.toInt = mtM y1.toInt m1.toInt k.toInt % 12 + 1 by omega]; exact congrArg (nuI _ _) h9
      have h7 : -370000000 ≤ v26.toInt ∧ v26.toInt ≤ 370000000 := by rw [e26]; exact mt_bd (by omega) (by omega) (by omega) (by omega) (by omega) (by omega)
      exact W.lret hx hb hr (fun t ht hW => ⟨_, rfl, by rw [ht]; exact hh1.l0, fun q hq => by rw [ht]; exact hqq1 q hq, by rw [ht]; exact kp1, Or.inl ⟨mtV_in (by omega) (by omega) cv1 (by omega) (by omega), ⟨_, _, _, cv1, h8⟩, h7⟩⟩) hh1.2.2.1 (eX12_monthsOn (95, .lreturn, 1) (List.mem_of_getElem? (i := 49) rfl))
  · skip
    refine ff_ldc2 (n := (-9223372036854775808)) hx hb hown h2 (clX12_ok 83 (-9223372036854775808) (List.mem_of_getElem? (i := 2) rfl)) (eX12_monthsOn (57, .ldc2_w 83, 3) (List.mem_of_getElem? (i := 32) rfl)) (fun v27 e27 => ?_)
    exact W.lret hx hb hr (fun t ht hW => ⟨_, rfl, by rw [ht]; exact hh1.l0, fun q hq => by rw [ht]; exact hqq1 q hq, by rw [ht]; exact kp1, Or.inr ⟨by omega, mtV_out cv1 (by omega)⟩⟩) hh1.2.2.1 (eX12_monthsOn (60, .lreturn, 1) (List.mem_of_getElem? (i := 33) rfl))
set_option maxRecDepth 100000 in
set_option maxHeartbeats 4000000 in
theorem hX12_months (l : Launch) (D : va_G) (cA : Nat → ClassId) (ro : Nat → Option Nat) (sz : Nat) (H0 : Heap) (a : Nat) (n : Int64) (k : Int32) (ha : ro a = some 11)  : Met l yX12_months (gW yX12_months cX12_months 6 (some .long)) { frames := 3, cells := 0, slots := 0, locals := 88 } (zd_Pc D cA ro sz H0 [.ref a, .long n, .int k]) (zg_Ql D cA ro sz H0 a (mtV n.toInt k.toInt) (mtG n.toInt k.toInt)) 0 0 (zy_fr sz) := by
  refine zy_ofW (cc := cX12_months) (maxL := 6) (ret := (some .long)) (by decide +kernel) rfl ?_
  intro p e s m args below meth c s1 B hml hv
  obtain ⟨rfl, hh, hKn⟩ := hv
  have hx := B.exec
  have hb := B.bytes
  have hr := B.returns
  have hlk := B.notSynchronized
  have hts0 := atoms_spec (ws := gW yX12_months cX12_months 6 (some .long)) B.pre
  have h2 : ∀ w ∈ gT, w.before ([.ref a, .long n, .int k] : List Value).toArray s = true := fun w hw => hts0 w (List.mem_cons_of_mem _ hw)
  have hown : s.vm.findClass RX12 = some m.cls := findClass_of_methodNamed B.named
  have hl := lv_entry [.ref a, .long n, .int k] (n := 6) (Nat.le_of_ble_eq_true rfl)
  rw [lg_entry_eq]
  generalize (lg_sl [.ref a, .long n, .int k] ++ List.replicate (6 - (lg_sl [.ref a, .long n, .int k]).length) Slot.unset).toArray = ls at hl ⊢
  have b_n := zn_i64 n
  have b_k := zn_i32 k
  have hD := zD_all h2 hKn.1
  have hcl := fun (idx k : Nat) (t : zt_T) (h : (idx, 11, k) ∈ gfX12) (hk : fsX12[k]? = some t) => zf_clause (ro := ro) (ms := [(11, 0), (11, 18), (11, 19), (11, 20)]) h2 hown hKn.1 gfX12_ok (by decide +kernel) idx 11 k 11 0 fsX12 t h rfl hk
  have kp0 : zc_kept D RTg ro [(11, 0), (11, 18), (11, 19), (11, 20)] s.heap s.heap := zc_kept.refl
  have hq0 : ∀ q : Nat, q ≠ a → s.heap[q]? = s.heap[q]? := fun _ _ => rfl
  refine lv_aload_n hx hb (eX12_months (0, .aload_n 0, 1) (List.mem_of_getElem? (i := 0) rfl)) rfl (lv_at hl 0 rfl) ?_
  refine lv_lload_n hx hb (eX12_months (1, .lload_n 1, 1) (List.mem_of_getElem? (i := 1) rfl)) rfl (lv_at hl 1 rfl) ?_
  refine tz_rowV (As := [.long n]) (st := []) (b := a) (C := RX12) (Ts := gT) hx hb hml hown h2 (fun _ h => h) (hX12_isDay l D cA ro sz H0 a n ha) ⟨rfl, rfl⟩ ⟨by decide, by decide⟩ ⟨by decide, by decide⟩ (tb_7 62 rfl rfl) (tb_1 12 rfl rfl) (tb_7 59 rfl rfl) (tb_7 61 rfl rfl) (tb_0 4 rfl rfl) (show yX12_isDay.cls ≠ "java/lang/invoke/MethodHandle" ∧ yX12_isDay.cls ≠ "java/lang/invoke/VarHandle" ∧ (parseMethodDescriptor yX12_isDay.desc).map (fun d => d.parameters.length) = some 1 by decide +kernel) zd_blind (zg_ob12 hh hKn.1 ha) (fun U hU hW => ⟨rfl, by rw [hU]; exact hh.l0, zKb s U hW.alike hKn⟩) hh.2.2.1 hl.1 (Nat.le_of_ble_eq_true rfl) (eX12_months (2, .invokevirtual 159, 3) (List.mem_of_getElem? (i := 2) rfl)) (fun r1 s1 t1 lo1 g1 f1 l1 => ?_)
  obtain ⟨z1, v1, q1, e1⟩ := f1
  cases q1
  rw [g1] at z1
  have hh1 : zh_ok D cA RTg ro sz H0 t1.heap lo1 := by rw [z1]; exact ⟨hh.1, hh.2.1, l1, hh.2.2.2⟩
  have kp1 : zc_kept D RTg ro [(11, 0), (11, 18), (11, 19), (11, 20)] s.heap t1.heap := by rw [z1]; exact kp0
  have hqq1 : ∀ q : Nat, q ≠ a → t1.heap[q]? = s.heap[q]? := by rw [z1]; exact hq0
  refine W.eq (g2 := F0 m 5 ls [.int v1]) rfl ?_
  refine ff_if_eq hx hb (eX12_months (5, .ifCond .eq 13, 3) (List.mem_of_getElem? (i := 3) rfl)) (tgt := 18) rfl (fun c2 => ?_) (fun c2 => ?_)
  · skip
    refine ff_ldc2 (n := (-9223372036854775808)) hx hb hown h2 (clX12_ok 83 (-9223372036854775808) (List.mem_of_getElem? (i := 2) rfl)) (eX12_months (18, .ldc2_w 83, 3) (List.mem_of_getElem? (i := 10) rfl)) (fun v3 e3 => ?_)
    refine lv_lstore hx hb (eX12_months (21, .lstore 4, 2) (List.mem_of_getElem? (i := 11) rfl)) hl (by decide) rfl (fun ls4 hl4 => ?_)
    refine lv_aload_n hx hb (eX12_months (23, .aload_n 0, 1) (List.mem_of_getElem? (i := 12) rfl)) rfl (lv_at hl4 1 rfl) ?_
    refine lv_lload hx hb (eX12_months (24, .lload 4, 2) (List.mem_of_getElem? (i := 13) rfl)) (lv_at hl4 0 rfl) ?_
    refine ff_ldc2 (n := (-9223372036854775808)) hx hb hown h2 (clX12_ok 83 (-9223372036854775808) (List.mem_of_getElem? (i := 2) rfl)) (eX12_months (26, .ldc2_w 83, 3) (List.mem_of_getElem? (i := 14) rfl)) (fun v5 e5 => ?_)
    refine ff_lcmp hx hb (eX12_months (29, .lcmp, 1) (List.mem_of_getElem? (i := 15) rfl)) (fun v6 e6 => ?_)
    refine ff_if_ne hx hb (eX12_months (30, .ifCond .ne 7, 3) (List.mem_of_getElem? (i := 16) rfl)) (tgt := 37) rfl (fun c7 => ?_) (fun c7 => ?_)
    · skip
      refine ff_iconst hx hb (eX12_months (37, .iconst 0, 1) (List.mem_of_getElem? (i := 19) rfl)) (by decide) (by decide) (fun v8 e8 => ?_)
      refine tz_put (r := 11) (k := 0) (t := (0, 0, 2)) hx hb hD hh1 ha rfl rfl ((hcl 85 0 (0, 0, 2) (by decide) rfl).2 (by decide)) (tz_i (by omega) (by omega)) (eX12_months (38, .putfield 85, 3) (List.mem_of_getElem? (i := 20) rfl)) (fun H9 lo9 hh9 hf9 hk9 _ hq9 => ?_)
      have kp9 := kp1.trans (hk9.mono (ms' := [(11, 0), (11, 18), (11, 19), (11, 20)]) (fun x hx => by cases List.mem_singleton.mp hx; decide))
      have hqq9 := fun (q : Nat) (g : q ≠ a) => (hq9 q g).trans (hqq1 q g)
      refine lv_aload_n hx hb (eX12_months (41, .aload_n 0, 1) (List.mem_of_getElem? (i := 21) rfl)) rfl (lv_at hl4 1 rfl) ?_
      refine tz_get (r := 11) (k := 0) (t := (0, 0, 2)) hx hb hh9 ha rfl rfl (hcl 85 0 (0, 0, 2) (by decide) rfl).1 hf9 (eX12_months (42, .getfield 85, 3) (List.mem_of_getElem? (i := 22) rfl)) ?_
      refine ff_if_le hx hb (eX12_months (45, .ifCond .le 7, 3) (List.mem_of_getElem? (i := 23) rfl)) (tgt := 52) rfl (fun c10 => ?_) (fun c10 => (by exfalso; omega))
      refine lv_lload hx hb (eX12_months (52, .lload 4, 2) (List.mem_of_getElem? (i := 26) rfl)) (lv_at hl4 0 rfl) ?_
      exact W.lret hx hb hr (fun t ht hW => ⟨_, _, rfl, by rw [ht]; exact hh9.l0, fun q hq => by rw [ht]; exact hqq9 q hq, by rw [ht]; exact hf9, (by first | exact Or.inr ⟨by omega, fun h => by have h1 := h.1; have h2 := h.2.1; omega⟩ | (exfalso; omega))⟩) hh9.2.2.1 (eX12_months (54, .lreturn, 1) (List.mem_of_getElem? (i := 27) rfl))
    · skip
      refine ff_iconst hx hb (eX12_months (33, .iconst 1, 1) (List.mem_of_getElem? (i := 17) rfl)) (by decide) (by decide) (fun v11 e11 => ?_)
      refine lv_goto hx hb (eX12_months (34, .goto 4, 3) (List.mem_of_getElem? (i := 18) rfl)) (tgt := 38) rfl ?_
      refine tz_put (r := 11) (k := 0) (t := (0, 0, 2)) hx hb hD hh1 ha rfl rfl ((hcl 85 0 (0, 0, 2) (by decide) rfl).2 (by decide)) (tz_i (by omega) (by omega)) (eX12_months (38, .putfield 85, 3) (List.mem_of_getElem? (i := 20) rfl)) (fun H12 lo12 hh12 hf12 hk12 _ hq12 => ?_)
      have kp12 := kp1.trans (hk12.mono (ms' := [(11, 0), (11, 18), (11, 19), (11, 20)]) (fun x hx => by cases List.mem_singleton.mp hx; decide))
      have hqq12 := fun (q : Nat) (g : q ≠ a) => (hq12 q g).trans (hqq1 q g)
      refine lv_aload_n hx hb (eX12_months (41, .aload_n 0, 1) (List.mem_of_getElem? (i := 21) rfl)) rfl (lv_at hl4 1 rfl) ?_
      refine tz_get (r := 11) (k := 0) (t := (0, 0, 2)) hx hb hh12 ha rfl rfl (hcl 85 0 (0, 0, 2) (by decide) rfl).1 hf12 (eX12_months (42, .getfield 85, 3) (List.mem_of_getElem? (i := 22) rfl)) ?_
      refine ff_if_le hx hb (eX12_months (45, .ifCond .le 7, 3) (List.mem_of_getElem? (i := 23) rfl)) (tgt := 52) rfl (fun c13 => (by exfalso; omega)) (fun c13 => ?_)
      refine ff_lconst hx hb (eX12_months (48, .lconst 0, 1) (List.mem_of_getElem? (i := 24) rfl)) rfl (fun v14 e14 => ?_)
      refine lv_goto hx hb (eX12_months (49, .goto 5, 3) (List.mem_of_getElem? (i := 25) rfl)) (tgt := 54) rfl ?_
      exact W.lret hx hb hr (fun t ht hW => ⟨_, _, rfl, by rw [ht]; exact hh12.l0, fun q hq => by rw [ht]; exact hqq12 q hq, by rw [ht]; exact hf12, (by first | exact Or.inr ⟨by omega, fun h => by have h1 := h.1; have h2 := h.2.1; omega⟩ | (exfalso; omega))⟩) hh12.2.2.1 (eX12_months (54, .lreturn, 1) (List.mem_of_getElem? (i := 27) rfl))
  · skip
    refine lv_aload_n hx hb (eX12_months (8, .aload_n 0, 1) (List.mem_of_getElem? (i := 4) rfl)) rfl (lv_at hl 0 rfl) ?_
    refine lv_lload_n hx hb (eX12_months (9, .lload_n 1, 1) (List.mem_of_getElem? (i := 5) rfl)) rfl (lv_at hl 1 rfl) ?_
    refine lv_iload_n hx hb (eX12_months (10, .iload_n 3, 1) (List.mem_of_getElem? (i := 6) rfl)) rfl (lv_at hl 2 rfl) ?_
    refine ff_i2l hx hb (eX12_months (11, .i2l, 1) (List.mem_of_getElem? (i := 7) rfl)) (fun v15 e15 => ?_)
    refine tz_rowV (As := [.long n, .long v15]) (st := []) (b := a) (C := RX12) (Ts := gT) hx hb hml hown h2 (fun _ h => h) (hX12_monthsOn l D cA ro sz H0 a n v15 ha (by omega) (by omega) (by omega) (by omega)) ⟨rfl, rfl⟩ ⟨by decide, by decide⟩ ⟨by decide, by decide⟩ (tb_7 97 rfl rfl) (tb_1 12 rfl rfl) (tb_7 94 rfl rfl) (tb_7 96 rfl rfl) (tb_0 7 rfl rfl) (show yX12_monthsOn.cls ≠ "java/lang/invoke/MethodHandle" ∧ yX12_monthsOn.cls ≠ "java/lang/invoke/VarHandle" ∧ (parseMethodDescriptor yX12_monthsOn.desc).map (fun d => d.parameters.length) = some 2 by decide +kernel) zd_blind (zg_ob12 hh1 hKn.1 ha) (fun U hU hW => ⟨rfl, by rw [hU]; exact hh1.l0, zKb s U hW.alike hKn⟩) hh1.2.2.1 hl.1 (Nat.le_of_ble_eq_true rfl) (eX12_months (12, .invokevirtual 170, 3) (List.mem_of_getElem? (i := 8) rfl)) (fun r16 s16 t16 lo16 g16 f16 l16 => ?_)
    obtain ⟨v16, q16, z16, u16, c16, em16⟩ := f16
    cases q16
    rw [g16] at u16 c16
    have hh16 : zh_ok D cA RTg ro sz H0 t16.heap lo16 := ⟨z16.1, z16.2.1, l16, z16.2.2.2⟩
    have kp16 := kp1.trans (c16.mono (ms' := [(11, 0), (11, 18), (11, 19), (11, 20)]) (fun x hx => by revert hx; revert x; decide))
    have hqq16 := fun (q : Nat) (g : q ≠ a) => (u16 q g).trans (hqq1 q g)
    rw [show v15.toInt = k.toInt by omega] at em16
    refine W.eq (g2 := F0 m 15 ls [.long v16]) rfl ?_
    refine lv_goto hx hb (eX12_months (15, .goto 6, 3) (List.mem_of_getElem? (i := 9) rfl)) (tgt := 21) rfl ?_
    refine lv_lstore hx hb (eX12_months (21, .lstore 4, 2) (List.mem_of_getElem? (i := 11) rfl)) hl (by decide) rfl (fun ls17 hl17 => ?_)
    refine lv_aload_n hx hb (eX12_months (23, .aload_n 0, 1) (List.mem_of_getElem? (i := 12) rfl)) rfl (lv_at hl17 1 rfl) ?_
    refine lv_lload hx hb (eX12_months (24, .lload 4, 2) (List.mem_of_getElem? (i := 13) rfl)) (lv_at hl17 0 rfl) ?_
    refine ff_ldc2 (n := (-9223372036854775808)) hx hb hown h2 (clX12_ok 83 (-9223372036854775808) (List.mem_of_getElem? (i := 2) rfl)) (eX12_months (26, .ldc2_w 83, 3) (List.mem_of_getElem? (i := 14) rfl)) (fun v18 e18 => ?_)
    refine ff_lcmp hx hb (eX12_months (29, .lcmp, 1) (List.mem_of_getElem? (i := 15) rfl)) (fun v19 e19 => ?_)
    refine ff_if_ne hx hb (eX12_months (30, .ifCond .ne 7, 3) (List.mem_of_getElem? (i := 16) rfl)) (tgt := 37) rfl (fun c20 => ?_) (fun c20 => ?_)
    · skip
      refine ff_iconst hx hb (eX12_months (37, .iconst 0, 1) (List.mem_of_getElem? (i := 19) rfl)) (by decide) (by decide) (fun v21 e21 => ?_)
      refine tz_put (r := 11) (k := 0) (t := (0, 0, 2)) hx hb hD hh16 ha rfl rfl ((hcl 85 0 (0, 0, 2) (by decide) rfl).2 (by decide)) (tz_i (by omega) (by omega)) (eX12_months (38, .putfield 85, 3) (List.mem_of_getElem? (i := 20) rfl)) (fun H22 lo22 hh22 hf22 hk22 _ hq22 => ?_)
      have kp22 := kp16.trans (hk22.mono (ms' := [(11, 0), (11, 18), (11, 19), (11, 20)]) (fun x hx => by cases List.mem_singleton.mp hx; decide))
      have hqq22 := fun (q : Nat) (g : q ≠ a) => (hq22 q g).trans (hqq16 q g)
      refine lv_aload_n hx hb (eX12_months (41, .aload_n 0, 1) (List.mem_of_getElem? (i := 21) rfl)) rfl (lv_at hl17 1 rfl) ?_
      refine tz_get (r := 11) (k := 0) (t := (0, 0, 2)) hx hb hh22 ha rfl rfl (hcl 85 0 (0, 0, 2) (by decide) rfl).1 hf22 (eX12_months (42, .getfield 85, 3) (List.mem_of_getElem? (i := 22) rfl)) ?_
      refine ff_if_le hx hb (eX12_months (45, .ifCond .le 7, 3) (List.mem_of_getElem? (i := 23) rfl)) (tgt := 52) rfl (fun c23 => ?_) (fun c23 => (by exfalso; omega))
      refine lv_lload hx hb (eX12_months (52, .lload 4, 2) (List.mem_of_getElem? (i := 26) rfl)) (lv_at hl17 0 rfl) ?_
      exact W.lret hx hb hr (fun t ht hW => ⟨_, _, rfl, by rw [ht]; exact hh22.l0, fun q hq => by rw [ht]; exact hqq22 q hq, by rw [ht]; exact hf22, Or.inl ⟨by omega, by rcases em16 with h | h; exact h.1; exfalso; omega, by rcases em16 with h | h; exact h.2.1; exfalso; omega⟩⟩) hh22.2.2.1 (eX12_months (54, .lreturn, 1) (List.mem_of_getElem? (i := 27) rfl))
    · skip
      refine ff_iconst hx hb (eX12_months (33, .iconst 1, 1) (List.mem_of_getElem? (i := 17) rfl)) (by decide) (by decide) (fun v24 e24 => ?_)
      refine lv_goto hx hb (eX12_months (34, .goto 4, 3) (List.mem_of_getElem? (i := 18) rfl)) (tgt := 38) rfl ?_
      refine tz_put (r := 11) (k := 0) (t := (0, 0, 2)) hx hb hD hh16 ha rfl rfl ((hcl 85 0 (0, 0, 2) (by decide) rfl).2 (by decide)) (tz_i (by omega) (by omega)) (eX12_months (38, .putfield 85, 3) (List.mem_of_getElem? (i := 20) rfl)) (fun H25 lo25 hh25 hf25 hk25 _ hq25 => ?_)
      have kp25 := kp16.trans (hk25.mono (ms' := [(11, 0), (11, 18), (11, 19), (11, 20)]) (fun x hx => by cases List.mem_singleton.mp hx; decide))
      have hqq25 := fun (q : Nat) (g : q ≠ a) => (hq25 q g).trans (hqq16 q g)
      refine lv_aload_n hx hb (eX12_months (41, .aload_n 0, 1) (List.mem_of_getElem? (i := 21) rfl)) rfl (lv_at hl17 1 rfl) ?_
      refine tz_get (r := 11) (k := 0) (t := (0, 0, 2)) hx hb hh25 ha rfl rfl (hcl 85 0 (0, 0, 2) (by decide) rfl).1 hf25 (eX12_months (42, .getfield 85, 3) (List.mem_of_getElem? (i := 22) rfl)) ?_
      refine ff_if_le hx hb (eX12_months (45, .ifCond .le 7, 3) (List.mem_of_getElem? (i := 23) rfl)) (tgt := 52) rfl (fun c26 => (by exfalso; omega)) (fun c26 => ?_)
      refine ff_lconst hx hb (eX12_months (48, .lconst 0, 1) (List.mem_of_getElem? (i := 24) rfl)) rfl (fun v27 e27 => ?_)
      refine lv_goto hx hb (eX12_months (49, .goto 5, 3) (List.mem_of_getElem? (i := 25) rfl)) (tgt := 54) rfl ?_
      exact W.lret hx hb hr (fun t ht hW => ⟨_, _, rfl, by rw [ht]; exact hh25.l0, fun q hq => by rw [ht]; exact hqq25 q hq, by rw [ht]; exact hf25, Or.inr ⟨by omega, by rcases em16 with h | h; exfalso; omega; exact h.2⟩⟩) hh25.2.2.1 (eX12_months (54, .lreturn, 1) (List.mem_of_getElem? (i := 27) rfl))
