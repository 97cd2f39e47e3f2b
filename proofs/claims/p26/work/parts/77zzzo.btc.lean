set_option maxRecDepth 100000 in
set_option maxHeartbeats 4000000 in
theorem hX2_monthsApartE (l : Launch) (cA : Nat → ClassId) (a0 : Int64) (b0 : Int64) (ha1 : -526984793280 ≤ a0.toInt) (ha2 : a0.toInt ≤ 524913079679) (hb1 : -526984793280 ≤ b0.toInt) (hb2 : b0.toInt ≤ 524913081118) : zu_M l yX2_monthsApart (gW yX2_monthsApart cX2_monthsApart 4 (some .int)) { frames := 4, cells := 0, slots := 0, locals := 90 } (fun vs => vs = [.long a0, .long b0]) (zBM cA) (fun _ w => ∃ r : Int32, w = .int r ∧ -30000000 ≤ r.toInt ∧ r.toInt ≤ 30000000 ∧ ∃ a b : Int, inM (a0.toInt / 1440) a ∧ inM (b0.toInt / 1440) b ∧ r.toInt = b - a) := by
  refine zy_ofW (cc := cX2_monthsApart) (maxL := 4) (ret := (some .int)) (by decide +kernel) rfl ?_
  intro p e s m args below meth c s1 B hml hv
  obtain ⟨vs, rfl, rfl, hKp⟩ := hv
  have hx := B.exec
  have hb := B.bytes
  have hr := B.returns
  have hlk := B.notSynchronized
  have hts0 := atoms_spec (ws := gW yX2_monthsApart cX2_monthsApart 4 (some .int)) B.pre
  have h2 : ∀ w ∈ gT, w.before ([.long a0, .long b0] : List Value).toArray s = true := fun w hw => hts0 w (List.mem_cons_of_mem _ hw)
  have hown : s.vm.findClass RX2 = some m.cls := findClass_of_methodNamed B.named
  have hl := lv_entry [.long a0, .long b0] (n := 4) (Nat.le_of_ble_eq_true rfl)
  rw [lg_entry_eq]
  generalize (lg_sl [.long a0, .long b0] ++ List.replicate (4 - (lg_sl [.long a0, .long b0]).length) Slot.unset).toArray = ls at hl ⊢
  have hBM : ∀ U : State, U.heap = s.heap → s.WarmedH U.vm → zBM cA U := fun U hU hW => zBM_B.2 s U hW hU hKp
  obtain ⟨ab, zb, hz1, hz2, hz3, hz4⟩ := id hKp
  have b_a0 := zn_i64 a0
  have b_b0 := zn_i64 b0
  refine lv_lload_n hx hb (eX2_monthsApart (0, .lload_n 2, 1) (List.mem_of_getElem? (i := 0) rfl)) rfl (lv_at hl 1 rfl) ?_
  refine ff_ldc2 (n := 1440) hx hb hown h2 (clX2_ok 98 1440 (List.mem_of_getElem? (i := 18) rfl)) (eX2_monthsApart (1, .ldc2_w 98, 3) (List.mem_of_getElem? (i := 1) rfl)) (fun v1 e1 => ?_)
  refine zu_S (vs := [.long b0, .long v1]) (rest := []) hx hb hml hown hts0 zu_BT (hJ9_fd1440 l b0 v1 (by omega) (by omega) (by omega)) ⟨rfl, rfl⟩ ⟨by decide, by decide⟩ ⟨by decide, by decide⟩ (tb_3 39 rfl rfl) (tb_1 18 rfl rfl) (tb_3 37 rfl rfl) (tb_3 38 rfl rfl) (show yJ9_floorDiv_f86c9.cls ≠ "java/lang/invoke/MethodHandle" ∧ yJ9_floorDiv_f86c9.cls ≠ "java/lang/invoke/VarHandle" ∧ (parseMethodDescriptor yJ9_floorDiv_f86c9.desc).map (fun d => d.parameters.length) = some 2 by decide +kernel) rfl (fun _ _ _ => trivial) hl.1 (Nat.le_of_ble_eq_true rfl) (eX2_monthsApart (4, .invokestatic 75, 3) (List.mem_of_getElem? (i := 2) rfl)) (fun w2 f2 => ?_)
  obtain ⟨v2, rfl, e2⟩ := f2
  refine zu_S (vs := [.long v2]) (rest := []) hx hb hml hown hts0 zBM_B (hX2_monthNumberW l cA v2 (by omega) (by omega)) ⟨rfl, rfl⟩ ⟨by decide, by decide⟩ ⟨by decide, by decide⟩ (tb_3 35 rfl rfl) (tb_1 13 rfl rfl) (tb_3 33 rfl rfl) (tb_3 34 rfl rfl) (show yX2_monthNumber.cls ≠ "java/lang/invoke/MethodHandle" ∧ yX2_monthNumber.cls ≠ "java/lang/invoke/VarHandle" ∧ (parseMethodDescriptor yX2_monthNumber.desc).map (fun d => d.parameters.length) = some 1 by decide +kernel) rfl hBM hl.1 (Nat.le_of_ble_eq_true rfl) (eX2_monthsApart (7, .invokestatic 70, 3) (List.mem_of_getElem? (i := 3) rfl)) (fun w3 f3 => ?_)
  obtain ⟨v3, rfl, e3⟩ := f3
  refine lv_lload_n hx hb (eX2_monthsApart (10, .lload_n 0, 1) (List.mem_of_getElem? (i := 4) rfl)) rfl (lv_at hl 0 rfl) ?_
  refine ff_ldc2 (n := 1440) hx hb hown h2 (clX2_ok 98 1440 (List.mem_of_getElem? (i := 18) rfl)) (eX2_monthsApart (11, .ldc2_w 98, 3) (List.mem_of_getElem? (i := 5) rfl)) (fun v4 e4 => ?_)
  refine zu_S (vs := [.long a0, .long v4]) (rest := [.int v3]) hx hb hml hown hts0 zu_BT (hJ9_fd1440 l a0 v4 (by omega) (by omega) (by omega)) ⟨rfl, rfl⟩ ⟨by decide, by decide⟩ ⟨by decide, by decide⟩ (tb_3 39 rfl rfl) (tb_1 18 rfl rfl) (tb_3 37 rfl rfl) (tb_3 38 rfl rfl) (show yJ9_floorDiv_f86c9.cls ≠ "java/lang/invoke/MethodHandle" ∧ yJ9_floorDiv_f86c9.cls ≠ "java/lang/invoke/VarHandle" ∧ (parseMethodDescriptor yJ9_floorDiv_f86c9.desc).map (fun d => d.parameters.length) = some 2 by decide +kernel) rfl (fun _ _ _ => trivial) hl.1 (Nat.le_of_ble_eq_true rfl) (eX2_monthsApart (14, .invokestatic 75, 3) (List.mem_of_getElem? (i := 6) rfl)) (fun w5 f5 => ?_)
  obtain ⟨v5, rfl, e5⟩ := f5
  refine zu_S (vs := [.long v5]) (rest := [.int v3]) hx hb hml hown hts0 zBM_B (hX2_monthNumberW l cA v5 (by omega) (by omega)) ⟨rfl, rfl⟩ ⟨by decide, by decide⟩ ⟨by decide, by decide⟩ (tb_3 35 rfl rfl) (tb_1 13 rfl rfl) (tb_3 33 rfl rfl) (tb_3 34 rfl rfl) (show yX2_monthNumber.cls ≠ "java/lang/invoke/MethodHandle" ∧ yX2_monthNumber.cls ≠ "java/lang/invoke/VarHandle" ∧ (parseMethodDescriptor yX2_monthNumber.desc).map (fun d => d.parameters.length) = some 1 by decide +kernel) rfl hBM hl.1 (Nat.le_of_ble_eq_true rfl) (eX2_monthsApart (17, .invokestatic 70, 3) (List.mem_of_getElem? (i := 7) rfl)) (fun w6 f6 => ?_)
  obtain ⟨v6, rfl, e6⟩ := f6
  refine ff_isub hx hb (eX2_monthsApart (20, .isub, 1) (List.mem_of_getElem? (i := 8) rfl)) (by omega) (by omega) (fun v7 e7 => ?_)
  exact zu_iret (y := yX2_monthsApart) (ws := []) (rm := {}) hx hb hr hlk rfl ⟨_, rfl, by obtain ⟨p1, p2, y1, m1, d1, hc1, hr1⟩ := e3; obtain ⟨p3, p4, y2, m2, d2, hc2, hr2⟩ := e6; exact ⟨by omega, by omega, y2 * 12 + m2 - 1, y1 * 12 + m1 - 1, by rw [← e5]; exact cv_in hc2, by rw [← e2]; exact cv_in hc1, by omega⟩⟩ (eX2_monthsApart (21, .ireturn, 1) (List.mem_of_getElem? (i := 9) rfl))
set_option maxRecDepth 100000 in
set_option maxHeartbeats 4000000 in
theorem hX2_daysApartE (l : Launch) (cA : Nat → ClassId) (a0 : Int64) (k0 : Int32) (b0 : Int64) (ha1 : -526984793280 ≤ a0.toInt) (ha2 : a0.toInt ≤ 524913079679) (hb1 : -526984793280 ≤ b0.toInt) (hb2 : b0.toInt ≤ 524913081118) : zu_M l yX2_daysApart (gW yX2_daysApart cX2_daysApart 11 (some .int)) { frames := 5, cells := 0, slots := 0, locals := 118 } (fun vs => vs = [.long a0, .int k0, .long b0]) (zBM cA) (fun _ w => ∃ r : Int32, w = .int r ∧ -1000000000 ≤ r.toInt ∧ r.toInt ≤ 1000000000 ∧ ∀ q : Int, mtV (a0.toInt / 1440) k0.toInt → mtG (a0.toInt / 1440) k0.toInt q → r.toInt = (b0.toInt - (a0.toInt - a0.toInt / 1440 * 1440) - q * 1440) / 1440) := by
  refine zy_ofW (cc := cX2_daysApart) (maxL := 11) (ret := (some .int)) (by decide +kernel) rfl ?_
  intro p e s m args below meth c s1 B hml hv
  obtain ⟨vs, rfl, rfl, hKp⟩ := hv
  have hx := B.exec
  have hb := B.bytes
  have hr := B.returns
  have hlk := B.notSynchronized
  have hts0 := atoms_spec (ws := gW yX2_daysApart cX2_daysApart 11 (some .int)) B.pre
  have h2 : ∀ w ∈ gT, w.before ([.long a0, .int k0, .long b0] : List Value).toArray s = true := fun w hw => hts0 w (List.mem_cons_of_mem _ hw)
  have hown : s.vm.findClass RX2 = some m.cls := findClass_of_methodNamed B.named
  have hl := lv_entry [.long a0, .int k0, .long b0] (n := 11) (Nat.le_of_ble_eq_true rfl)
  rw [lg_entry_eq]
  generalize (lg_sl [.long a0, .int k0, .long b0] ++ List.replicate (11 - (lg_sl [.long a0, .int k0, .long b0]).length) Slot.unset).toArray = ls at hl ⊢
  have hBM : ∀ U : State, U.heap = s.heap → s.WarmedH U.vm → zBM cA U := fun U hU hW => zBM_B.2 s U hW hU hKp
  obtain ⟨ab, zb, hz1, hz2, hz3, hz4⟩ := id hKp
  have b_a0 := zn_i64 a0
  have b_k0 := zn_i32 k0
  have b_b0 := zn_i64 b0
  refine lv_lload_n hx hb (eX2_daysApart (0, .lload_n 0, 1) (List.mem_of_getElem? (i := 0) rfl)) rfl (lv_at hl 0 rfl) ?_
  refine ff_ldc2 (n := 1440) hx hb hown h2 (clX2_ok 98 1440 (List.mem_of_getElem? (i := 18) rfl)) (eX2_daysApart (1, .ldc2_w 98, 3) (List.mem_of_getElem? (i := 1) rfl)) (fun v1 e1 => ?_)
  refine zu_S (vs := [.long a0, .long v1]) (rest := []) hx hb hml hown hts0 zu_BT (hJ9_fd1440 l a0 v1 (by omega) (by omega) (by omega)) ⟨rfl, rfl⟩ ⟨by decide, by decide⟩ ⟨by decide, by decide⟩ (tb_3 39 rfl rfl) (tb_1 18 rfl rfl) (tb_3 37 rfl rfl) (tb_3 38 rfl rfl) (show yJ9_floorDiv_f86c9.cls ≠ "java/lang/invoke/MethodHandle" ∧ yJ9_floorDiv_f86c9.cls ≠ "java/lang/invoke/VarHandle" ∧ (parseMethodDescriptor yJ9_floorDiv_f86c9.desc).map (fun d => d.parameters.length) = some 2 by decide +kernel) rfl (fun _ _ _ => trivial) hl.1 (Nat.le_of_ble_eq_true rfl) (eX2_daysApart (4, .invokestatic 75, 3) (List.mem_of_getElem? (i := 2) rfl)) (fun w2 f2 => ?_)
  obtain ⟨v2, rfl, e2⟩ := f2
  refine lv_lstore hx hb (eX2_daysApart (7, .lstore 5, 2) (List.mem_of_getElem? (i := 3) rfl)) hl (by decide) rfl (fun ls3 hl3 => ?_)
  refine lv_lload hx hb (eX2_daysApart (9, .lload 5, 2) (List.mem_of_getElem? (i := 4) rfl)) (lv_at hl3 0 rfl) ?_
  refine lv_iload_n hx hb (eX2_daysApart (11, .iload_n 2, 1) (List.mem_of_getElem? (i := 5) rfl)) rfl (lv_at hl3 2 rfl) ?_
  refine zu_S (vs := [.long v2, .int k0]) (rest := []) hx hb hml hown hts0 zBM_B (hX2_monthsLater l cA v2 k0) ⟨rfl, rfl⟩ ⟨by decide, by decide⟩ ⟨by decide, by decide⟩ (tb_3 30 rfl rfl) (tb_1 13 rfl rfl) (tb_6 125 rfl rfl) (tb_3 29 rfl rfl) (show yX2_monthsLater.cls ≠ "java/lang/invoke/MethodHandle" ∧ yX2_monthsLater.cls ≠ "java/lang/invoke/VarHandle" ∧ (parseMethodDescriptor yX2_monthsLater.desc).map (fun d => d.parameters.length) = some 2 by decide +kernel) rfl hBM hl3.1 (Nat.le_of_ble_eq_true rfl) (eX2_daysApart (12, .invokestatic 100, 3) (List.mem_of_getElem? (i := 6) rfl)) (fun w4 f4 => ?_)
  obtain ⟨v4, rfl, e4⟩ := f4
  have g4 := (show (-370000000 ≤ v4.toInt ∧ v4.toInt ≤ 370000000) ∨ v4.toInt = -9223372036854775808 by rcases e4 with h | h; exact Or.inl h.2.2; exact Or.inr h.1)
  refine lv_lstore hx hb (eX2_daysApart (15, .lstore 7, 2) (List.mem_of_getElem? (i := 7) rfl)) hl3 (by decide) rfl (fun ls5 hl5 => ?_)
  refine lv_lload hx hb (eX2_daysApart (17, .lload 7, 2) (List.mem_of_getElem? (i := 8) rfl)) (lv_at hl5 0 rfl) ?_
  refine ff_ldc2 (n := (-9223372036854775808)) hx hb hown h2 (clX2_ok 68 (-9223372036854775808) (List.mem_of_getElem? (i := 14) rfl)) (eX2_daysApart (19, .ldc2_w 68, 3) (List.mem_of_getElem? (i := 9) rfl)) (fun v6 e6 => ?_)
  refine ff_lcmp hx hb (eX2_daysApart (22, .lcmp, 1) (List.mem_of_getElem? (i := 10) rfl)) (fun v7 e7 => ?_)
  refine ff_if_ne hx hb (eX2_daysApart (23, .ifCond .ne 5, 3) (List.mem_of_getElem? (i := 11) rfl)) (tgt := 28) rfl (fun c8 => ?_) (fun c8 => ?_)
  · skip
    refine lv_lload_n hx hb (eX2_daysApart (28, .lload_n 3, 1) (List.mem_of_getElem? (i := 14) rfl)) rfl (lv_at hl5 4 rfl) ?_
    refine lv_lload_n hx hb (eX2_daysApart (29, .lload_n 0, 1) (List.mem_of_getElem? (i := 15) rfl)) rfl (lv_at hl5 2 rfl) ?_
    refine lv_lload hx hb (eX2_daysApart (30, .lload 5, 2) (List.mem_of_getElem? (i := 16) rfl)) (lv_at hl5 1 rfl) ?_
    refine ff_ldc2 (n := 1440) hx hb hown h2 (clX2_ok 98 1440 (List.mem_of_getElem? (i := 18) rfl)) (eX2_daysApart (32, .ldc2_w 98, 3) (List.mem_of_getElem? (i := 17) rfl)) (fun v9 e9 => ?_)
    refine ff_lmulR hx hb (eX2_daysApart (35, .lmul, 1) (List.mem_of_getElem? (i := 18) rfl)) (e9) (by omega) (by omega) (fun v10 e10 => ?_)
    refine ff_lsub hx hb (eX2_daysApart (36, .lsub, 1) (List.mem_of_getElem? (i := 19) rfl)) (by omega) (by omega) (fun v11 e11 => ?_)
    refine ff_lsub hx hb (eX2_daysApart (37, .lsub, 1) (List.mem_of_getElem? (i := 20) rfl)) (by omega) (by omega) (fun v12 e12 => ?_)
    refine lv_lload hx hb (eX2_daysApart (38, .lload 7, 2) (List.mem_of_getElem? (i := 21) rfl)) (lv_at hl5 0 rfl) ?_
    refine ff_ldc2 (n := 1440) hx hb hown h2 (clX2_ok 98 1440 (List.mem_of_getElem? (i := 18) rfl)) (eX2_daysApart (40, .ldc2_w 98, 3) (List.mem_of_getElem? (i := 22) rfl)) (fun v13 e13 => ?_)
    refine ff_lmulR hx hb (eX2_daysApart (43, .lmul, 1) (List.mem_of_getElem? (i := 23) rfl)) (e13) (by omega) (by omega) (fun v14 e14 => ?_)
    refine ff_lsub hx hb (eX2_daysApart (44, .lsub, 1) (List.mem_of_getElem? (i := 24) rfl)) (by omega) (by omega) (fun v15 e15 => ?_)
    refine lv_lstore hx hb (eX2_daysApart (45, .lstore 9, 2) (List.mem_of_getElem? (i := 25) rfl)) hl5 (by decide) rfl (fun ls16 hl16 => ?_)
    refine lv_lload hx hb (eX2_daysApart (47, .lload 9, 2) (List.mem_of_getElem? (i := 26) rfl)) (lv_at hl16 0 rfl) ?_
    refine ff_ldc2 (n := 1440) hx hb hown h2 (clX2_ok 98 1440 (List.mem_of_getElem? (i := 18) rfl)) (eX2_daysApart (49, .ldc2_w 98, 3) (List.mem_of_getElem? (i := 27) rfl)) (fun v17 e17 => ?_)
    refine zu_S (vs := [.long v15, .long v17]) (rest := []) hx hb hml hown hts0 zu_BT (hJ9_fd1440 l v15 v17 (by omega) (by omega) (by omega)) ⟨rfl, rfl⟩ ⟨by decide, by decide⟩ ⟨by decide, by decide⟩ (tb_3 39 rfl rfl) (tb_1 18 rfl rfl) (tb_3 37 rfl rfl) (tb_3 38 rfl rfl) (show yJ9_floorDiv_f86c9.cls ≠ "java/lang/invoke/MethodHandle" ∧ yJ9_floorDiv_f86c9.cls ≠ "java/lang/invoke/VarHandle" ∧ (parseMethodDescriptor yJ9_floorDiv_f86c9.desc).map (fun d => d.parameters.length) = some 2 by decide +kernel) rfl (fun _ _ _ => trivial) hl16.1 (Nat.le_of_ble_eq_true rfl) (eX2_daysApart (52, .invokestatic 75, 3) (List.mem_of_getElem? (i := 28) rfl)) (fun w18 f18 => ?_)
    obtain ⟨v18, rfl, e18⟩ := f18
    refine ff_l2i hx hb (eX2_daysApart (55, .l2i, 1) (List.mem_of_getElem? (i := 29) rfl)) (by omega) (by omega) (fun v19 e19 => ?_)
    exact zu_iret (y := yX2_daysApart) (ws := []) (rm := {}) hx hb hr hlk rfl ⟨_, rfl, by refine ⟨by omega, by omega, fun d9 q1 q2 => ?_⟩; rw [← e2] at q1 q2; rcases e4 with h9 | h9; (have h8 := mtG_one h9.2.1 q2; omega); exact absurd q1 h9.2⟩ (eX2_daysApart (56, .ireturn, 1) (List.mem_of_getElem? (i := 30) rfl))
  · skip
    refine ff_iconst hx hb (eX2_daysApart (26, .iconst 0, 1) (List.mem_of_getElem? (i := 12) rfl)) (by decide) (by decide) (fun v20 e20 => ?_)
    exact zu_iret (y := yX2_daysApart) (ws := []) (rm := {}) hx hb hr hlk rfl ⟨_, rfl, by refine ⟨by omega, by omega, fun d9 q1 q2 => ?_⟩; rw [← e2] at q1 q2; rcases e4 with h9 | h9; (have h8 := mtG_one h9.2.1 q2; omega); exact absurd q1 h9.2⟩ (eX2_daysApart (27, .ireturn, 1) (List.mem_of_getElem? (i := 13) rfl))
set_option maxRecDepth 100000 in
set_option maxHeartbeats 4000000 in
theorem hX11_comesBehindE (l : Launch) (a0 : Int64) (b0 : Int64)  : zu_M l yX11_comesBehind (gW yX11_comesBehind cX11_comesBehind 4 (some .boolean)) { frames := 0, cells := 0, slots := 0, locals := 0 } (fun vs => vs = [.long a0, .long b0]) zT (fun _ w => ∃ r : Int32, w = .int r ∧ ((r.toInt = 1 ∧ (a0.toInt = -9223372036854775808 ∨ b0.toInt < a0.toInt)) ∨ (r.toInt = 0 ∧ a0.toInt ≠ -9223372036854775808 ∧ a0.toInt ≤ b0.toInt))) := by
  refine zy_ofW (cc := cX11_comesBehind) (maxL := 4) (ret := (some .boolean)) (by decide +kernel) rfl ?_
  intro p e s m args below meth c s1 B hml hv
  obtain ⟨vs, rfl, rfl, hKp⟩ := hv
  have hx := B.exec
  have hb := B.bytes
  have hr := B.returns
  have hlk := B.notSynchronized
  have hts0 := atoms_spec (ws := gW yX11_comesBehind cX11_comesBehind 4 (some .boolean)) B.pre
  have h2 : ∀ w ∈ gT, w.before ([.long a0, .long b0] : List Value).toArray s = true := fun w hw => hts0 w (List.mem_cons_of_mem _ hw)
  have hown : s.vm.findClass RX11 = some m.cls := findClass_of_methodNamed B.named
  have hl := lv_entry [.long a0, .long b0] (n := 4) (Nat.le_of_ble_eq_true rfl)
  rw [lg_entry_eq]
  generalize (lg_sl [.long a0, .long b0] ++ List.replicate (4 - (lg_sl [.long a0, .long b0]).length) Slot.unset).toArray = ls at hl ⊢
  have b_a0 := zn_i64 a0
  have b_b0 := zn_i64 b0
  refine lv_lload_n hx hb (eX11_comesBehind (0, .lload_n 0, 1) (List.mem_of_getElem? (i := 0) rfl)) rfl (lv_at hl 0 rfl) ?_
  refine ff_ldc2 (n := (-9223372036854775808)) hx hb hown h2 (clX11_ok 62 (-9223372036854775808) (List.mem_of_getElem? (i := 0) rfl)) (eX11_comesBehind (1, .ldc2_w 62, 3) (List.mem_of_getElem? (i := 1) rfl)) (fun v1 e1 => ?_)
  refine ff_lcmp hx hb (eX11_comesBehind (4, .lcmp, 1) (List.mem_of_getElem? (i := 2) rfl)) (fun v2 e2 => ?_)
  refine ff_if_eq hx hb (eX11_comesBehind (5, .ifCond .eq 9, 3) (List.mem_of_getElem? (i := 3) rfl)) (tgt := 14) rfl (fun c3 => ?_) (fun c3 => ?_)
  · skip
    refine ff_iconst hx hb (eX11_comesBehind (14, .iconst 1, 1) (List.mem_of_getElem? (i := 8) rfl)) (by decide) (by decide) (fun v4 e4 => ?_)
    refine lv_goto hx hb (eX11_comesBehind (15, .goto 4, 3) (List.mem_of_getElem? (i := 9) rfl)) (tgt := 19) rfl ?_
    exact zu_iret (y := yX11_comesBehind) (ws := []) (rm := {}) hx hb hr hlk (zn_bool (by omega) (by omega)) ⟨_, rfl, by omega⟩ (eX11_comesBehind (19, .ireturn, 1) (List.mem_of_getElem? (i := 11) rfl))
  · skip
    refine lv_lload_n hx hb (eX11_comesBehind (8, .lload_n 0, 1) (List.mem_of_getElem? (i := 4) rfl)) rfl (lv_at hl 0 rfl) ?_
    refine lv_lload_n hx hb (eX11_comesBehind (9, .lload_n 2, 1) (List.mem_of_getElem? (i := 5) rfl)) rfl (lv_at hl 1 rfl) ?_
    refine ff_lcmp hx hb (eX11_comesBehind (10, .lcmp, 1) (List.mem_of_getElem? (i := 6) rfl)) (fun v5 e5 => ?_)
    refine ff_if_le hx hb (eX11_comesBehind (11, .ifCond .le 7, 3) (List.mem_of_getElem? (i := 7) rfl)) (tgt := 18) rfl (fun c6 => ?_) (fun c6 => ?_)
    · skip
      refine ff_iconst hx hb (eX11_comesBehind (18, .iconst 0, 1) (List.mem_of_getElem? (i := 10) rfl)) (by decide) (by decide) (fun v7 e7 => ?_)
      exact zu_iret (y := yX11_comesBehind) (ws := []) (rm := {}) hx hb hr hlk (zn_bool (by omega) (by omega)) ⟨_, rfl, by omega⟩ (eX11_comesBehind (19, .ireturn, 1) (List.mem_of_getElem? (i := 11) rfl))
    · skip
      refine ff_iconst hx hb (eX11_comesBehind (14, .iconst 1, 1) (List.mem_of_getElem? (i := 8) rfl)) (by decide) (by decide) (fun v8 e8 => ?_)
      refine lv_goto hx hb (eX11_comesBehind (15, .goto 4, 3) (List.mem_of_getElem? (i := 9) rfl)) (tgt := 19) rfl ?_
      exact zu_iret (y := yX11_comesBehind) (ws := []) (rm := {}) hx hb hr hlk (zn_bool (by omega) (by omega)) ⟨_, rfl, by omega⟩ (eX11_comesBehind (19, .ireturn, 1) (List.mem_of_getElem? (i := 11) rfl))
set_option maxRecDepth 100000 in
set_option maxHeartbeats 4000000 in
theorem hX11_betweenE (l : Launch) (hst : l.stackTraces = false) (D : va_G) (cA : Nat → ClassId) (ro : Nat → Option Nat) (sz : Nat) (H0 : Heap) (x : Nat) (zi : Int32) (t0 : Int64) (te : Int64) (w0 : Int32) (L : List Int) (Z : List zE) (R : List rU) (hx10 : ro x = some 10) (hzp : zP Z) (hzt : ∀ e ∈ Z, ∀ c ∈ e.2, tOK c.1 L) : vx_Met l yX11_between (gW yX11_between cX11_between 14 (some .long)) { frames := 6, cells := 1, slots := 6, locals := 176 } (zs_PY D cA ro sz H0 (fun H => jCY D cA ro H x L (Z, R)) [.ref x, .int zi, .long t0, .long te, .int w0]) (yy_Q D cA ro sz H0 x vL (spBY zi.toInt t0.toInt te.toInt w0.toInt L (Z, R))) (yy_X D cA ro sz H0 x L (Z, R) (spBY zi.toInt t0.toInt te.toInt w0.toInt L (Z, R))) 1 6 (zy_fr sz) := by
  refine vx_ofW (cc := cX11_between) (maxL := 14) (ret := (some .long)) (by decide +kernel) rfl ?_
  intro p e s m args below meth c s1 B hml hex hv
  obtain ⟨rfl, hh, hKa, hBQ, hJ⟩ := hv
  have hx := B.exec
  have hb := B.bytes
  have hr := B.returns
  have hlk := B.notSynchronized
  have hts0 := atoms_spec (ws := gW yX11_between cX11_between 14 (some .long)) B.pre
  have h2 : ∀ w ∈ gT, w.before ([.ref x, .int zi, .long t0, .long te, .int w0] : List Value).toArray s = true := fun w hw => hts0 w (List.mem_cons_of_mem _ hw)
  have hown : s.vm.findClass RX11 = some m.cls := findClass_of_methodNamed B.named
  have hl := lv_entry [.ref x, .int zi, .long t0, .long te, .int w0] (n := 14) (Nat.le_of_ble_eq_true rfl)
  rw [lg_entry_eq]
  generalize (lg_sl [.ref x, .int zi, .long t0, .long te, .int w0] ++ List.replicate (14 - (lg_sl [.ref x, .int zi, .long t0, .long te, .int w0]).length) Slot.unset).toArray = ls at hl ⊢
  have b_zi := zn_i32 zi
  have b_t0 := zn_i64 t0
  have b_te := zn_i64 te
  have b_w0 := zn_i32 w0
  have hJC := hJ
  have hJZ : jCZ D cA ro s.heap x L Z := hJC.1
  have hRR : jRR D cA ro s.heap x R := hJC.2
  have hRl : R.length = Z.length := hRR.len hJZ
  obtain ⟨⟨lp, fx0, rlp, hlp⟩, ⟨az, z, nz, qf, Af, Bf, hza, hnz, hzi⟩, hjl, hzw⟩ := id hJZ
  obtain ⟨fz, rz, cz, fn⟩ := id hza
  obtain ⟨n9, g9, n1, n2⟩ := zh_fT (k := 2) (t := (0, 0, 8)) hh hx10 (show RTg[10]? = some (0, 10, 0, fsX11) from rfl) rfl
  cases fn.symm.trans g9
  dsimp only at n1 n2
  clear g9
  have hjL := hjl.2.1
  have hD := zD_all h2 hKa.1.1.1
  have hcl10 := fun (idx k : Nat) (t : zt_T) (h : (idx, 10, k) ∈ gfX11) (hk : fsX11[k]? = some t) => zf_clause (ro := ro) (ms := []) h2 hown hKa.1.1.1 gfX11_ok (by decide +kernel) idx 10 k 10 0 fsX11 t h rfl hk
  have kp0 : zc_kept D RTg ro yMc s.heap s.heap := zc_kept.refl
  refine lv_aload_n hx hb (eX11_between (0, .aload_n 0, 1) (List.mem_of_getElem? (i := 0) rfl)) rfl (lv_at hl 0 rfl) ?_
  refine lv_iload_n hx hb (eX11_between (1, .iload_n 1, 1) (List.mem_of_getElem? (i := 1) rfl)) rfl (lv_at hl 1 rfl) ?_
  refine tz_rowV (As := [.int zi]) (st := []) (b := x) (C := RX11) (Ts := gT) hx hb hml hown h2 (fun _ h => h) (hX11_zoneAt l D cA ro sz H0 x zi az z nz hx10) ⟨rfl, rfl⟩ ⟨by decide, by decide⟩ ⟨by decide, by decide⟩ (tb_3 211 rfl rfl) (tb_1 1 rfl rfl) (tb_3 208 rfl rfl) (tb_3 210 rfl rfl) (tb_0 1 rfl rfl) (show yX11_zoneAt.cls ≠ "java/lang/invoke/MethodHandle" ∧ yX11_zoneAt.cls ≠ "java/lang/invoke/VarHandle" ∧ (parseMethodDescriptor yX11_zoneAt.desc).map (fun d => d.parameters.length) = some 1 by decide +kernel) zs_blind (zs_ob hh hx10 (show RTg[10]? = some (0, 10, 0, fsX11) from rfl) (zCX11 hKa.1.1.1)) (fun U hU hW => ⟨rfl, by rw [hU]; exact hh.l0, zKb s U hW.alike hKa.1.1, by rw [hU]; exact hza⟩) hh.2.2.1 hl.1 (Nat.le_of_ble_eq_true rfl) (eX11_between (2, .invokevirtual 196, 3) (List.mem_of_getElem? (i := 2) rfl)) (fun r1 s1 t1 lo1 g1 f1 l1 => ?_)
  obtain ⟨z1, f1⟩ := f1
  rw [z1, g1]
  have hh1 : zh_ok D cA RTg ro sz H0 s.heap lo1 := ⟨hh.1, hh.2.1, l1, hh.2.2.2⟩
  rcases f1 with ⟨q1, bz⟩ | ⟨q1, bz⟩
  · cases q1
    refine W.eq (g2 := F0 m 5 ls [.null]) rfl ?_
    refine lv_astoreN hx hb (eX11_between (5, .astore 7, 2) (List.mem_of_getElem? (i := 3) rfl)) hl (by decide) rfl (fun ls2 hl2 => ?_)
    refine lv_aloadN hx hb (eX11_between (7, .aload 7, 2) (List.mem_of_getElem? (i := 4) rfl)) (lv_at hl2 0 rfl) ?_
    refine lv_ifnullN hx hb (eX11_between (9, .ifnull 37, 3) (List.mem_of_getElem? (i := 5) rfl)) (tgt := 46) rfl ?_
    exact zx_leafGW (ik := 83) (is := 380) (ic := 87) (cls := "java/lang/IllegalArgumentException") (text := "no such zone, instant or part") hx hb hst hown h2 hKa.1 hh hh1 (by rw [hl2.1, hml]) hex hlk ⟨by decide, by decide, by decide, by decide⟩ (tb_2 121 rfl rfl) (tb_1 17 rfl rfl) (by decide) (gAt_in gAt_1) (by decide +kernel) (by decide) (by decide) (fun t h7 h8 => ⟨hh1.grow h7 h8, kp0.trans (kept_grow hh1 h8), hJC.kept hx10 (kept_grow (ms := []) hh1 h8) (by decide), Or.inl ⟨rfl, 0, rfl, rfl, Or.inl ⟨rfl, fun g => by have g1 := g.1; have g2 : zi.toInt < (Z.length : Int) := g.2.1; have g3 := g.2.2.1; have g4 := g.2.2.2.1; have g5 := g.2.2.2.2.1; have g6 := g.2.2.2.2.2.1; have g7 := g.2.2.2.2.2.2.1; have g8 := g.2.2.2.2.2.2.2.1; first | omega⟩⟩⟩) (eX11_between (46, .new 83, 3) (List.mem_of_getElem? (i := 21) rfl)) (eX11_between (49, .dup, 1) (List.mem_of_getElem? (i := 22) rfl)) (eX11_between (50, .ldc_w 380, 3) (List.mem_of_getElem? (i := 23) rfl)) (eX11_between (53, .invokespecial 87, 3) (List.mem_of_getElem? (i := 24) rfl)) (eX11_between (56, .athrow, 1) (List.mem_of_getElem? (i := 25) rfl))
  · have hlt : zi.toInt.toNat < Z.length := by omega
    obtain ⟨ze, hze⟩ : ∃ e9, Z[zi.toInt.toNat]? = some e9 := ⟨_, List.getElem?_eq_getElem hlt⟩
    obtain ⟨rr, hrr⟩ : ∃ e9, R[zi.toInt.toNat]? = some e9 := ⟨_, List.getElem?_eq_getElem (by omega)⟩
    have hle := hzw.2 ze (List.mem_of_getElem? hze)
    obtain ⟨hz1, ho1⟩ := hzi.1 _ ze hze
    rw [hz1] at q1
    generalize hzq : qf zi.toInt.toNat = zq at q1 ho1 hz1
    generalize hzA : Af zi.toInt.toNat = zA at ho1
    generalize hzB : Bf zi.toInt.toNat = zB at ho1
    cases q1
    have rzq := ho1.1
    obtain ⟨ru, rF, rT, lp9, dr, df, dt, fx9, fzl, fzu, hro, hdr, hne, hclose⟩ := hRR.at hx10 hza hrr hz1
    cases fx0.symm.trans fx9
    have hzr : jZR D cA ro s.heap zq zA zB ze lp L ru rF rT rr := ⟨ho1, fzl, rlp, hlp, fzu, hro⟩
    have hru := hro.1
    refine W.eq (g2 := F0 m 5 ls [.ref zq]) rfl ?_
    refine lv_astore hx hb (eX11_between (5, .astore 7, 2) (List.mem_of_getElem? (i := 3) rfl)) hl (by decide) rfl (fun ls3 hl3 => ?_)
    refine lv_aload hx hb (eX11_between (7, .aload 7, 2) (List.mem_of_getElem? (i := 4) rfl)) (lv_at hl3 0 rfl) ?_
    refine lv_ifnull hx hb (eX11_between (9, .ifnull 37, 3) (List.mem_of_getElem? (i := 5) rfl)) ?_
    refine lv_aload_n hx hb (eX11_between (12, .aload_n 0, 1) (List.mem_of_getElem? (i := 6) rfl)) rfl (lv_at hl3 1 rfl) ?_
    refine tz_get (r := 10) (k := 0) (t := (12, 0, 0)) hx hb hh1 hx10 rfl rfl (hcl10 14 0 (12, 0, 0) (by decide) rfl).1 fx0 (eX11_between (13, .getfield 14, 3) (List.mem_of_getElem? (i := 7) rfl)) ?_
    refine lv_lload_n hx hb (eX11_between (16, .lload_n 2, 1) (List.mem_of_getElem? (i := 8) rfl)) rfl (lv_at hl3 3 rfl) ?_
    refine tz_rowV (As := [.long t0]) (st := []) (b := lp) (C := RX5) (Ts := gT) hx hb hml hown h2 (fun _ h => h) (hX5_holds l D cA ro sz H0 lp t0 L rlp) ⟨rfl, rfl⟩ ⟨by decide, by decide⟩ ⟨by decide, by decide⟩ (tb_3 139 rfl rfl) (tb_1 2 rfl rfl) (tb_3 136 rfl rfl) (tb_3 137 rfl rfl) (tb_3 138 rfl rfl) (show yX5_holds.cls ≠ "java/lang/invoke/MethodHandle" ∧ yX5_holds.cls ≠ "java/lang/invoke/VarHandle" ∧ (parseMethodDescriptor yX5_holds.desc).map (fun d => d.parameters.length) = some 1 by decide +kernel) zs_blind (zs_ob hh1 rlp (show RTg[4]? = some (0, 4, 0, fsX5) from rfl) (zCX5 hKa.1.1.1)) (fun U hU hW => ⟨rfl, by rw [hU]; exact hh1.l0, zKb s U hW.alike hKa.1.1, by rw [hU]; exact hlp⟩) hh1.2.2.1 hl3.1 (Nat.le_of_ble_eq_true rfl) (eX11_between (17, .invokevirtual 176, 3) (List.mem_of_getElem? (i := 9) rfl)) (fun r4 s4 t4 lo4 g4 f4 l4 => ?_)
    obtain ⟨z4, v4, q4, e4⟩ := f4
    cases q4
    rw [z4, g4]
    have hh4 : zh_ok D cA RTg ro sz H0 s.heap lo4 := ⟨hh1.1, hh1.2.1, l4, hh1.2.2.2⟩
    refine W.eq (g2 := F0 m 20 ls3 [.int v4]) rfl ?_
    refine ff_if_eq hx hb (eX11_between (20, .ifCond .eq 26, 3) (List.mem_of_getElem? (i := 10) rfl)) (tgt := 46) rfl (fun c5 => ?_) (fun c5 => ?_)
    · skip
      exact zx_leafGW (ik := 83) (is := 380) (ic := 87) (cls := "java/lang/IllegalArgumentException") (text := "no such zone, instant or part") hx hb hst hown h2 hKa.1 hh hh4 (by rw [hl3.1, hml]) hex hlk ⟨by decide, by decide, by decide, by decide⟩ (tb_2 121 rfl rfl) (tb_1 17 rfl rfl) (by decide) (gAt_in gAt_1) (by decide +kernel) (by decide) (by decide) (fun t h7 h8 => ⟨hh4.grow h7 h8, kp0.trans (kept_grow hh4 h8), hJC.kept hx10 (kept_grow (ms := []) hh4 h8) (by decide), Or.inl ⟨rfl, 0, rfl, rfl, Or.inl ⟨rfl, fun g => by have g1 := g.1; have g2 : zi.toInt < (Z.length : Int) := g.2.1; have g3 := g.2.2.1; have g4 := g.2.2.2.1; have g5 := g.2.2.2.2.1; have g6 := g.2.2.2.2.2.1; have g7 := g.2.2.2.2.2.2.1; have g8 := g.2.2.2.2.2.2.2.1; first | omega | (rcases e4 with h | h; (exfalso; omega); exact h.2 g3)⟩⟩⟩) (eX11_between (46, .new 83, 3) (List.mem_of_getElem? (i := 21) rfl)) (eX11_between (49, .dup, 1) (List.mem_of_getElem? (i := 22) rfl)) (eX11_between (50, .ldc_w 380, 3) (List.mem_of_getElem? (i := 23) rfl)) (eX11_between (53, .invokespecial 87, 3) (List.mem_of_getElem? (i := 24) rfl)) (eX11_between (56, .athrow, 1) (List.mem_of_getElem? (i := 25) rfl))
    · skip
      refine lv_aload_n hx hb (eX11_between (23, .aload_n 0, 1) (List.mem_of_getElem? (i := 11) rfl)) rfl (lv_at hl3 1 rfl) ?_
      refine tz_get (r := 10) (k := 0) (t := (12, 0, 0)) hx hb hh4 hx10 rfl rfl (hcl10 14 0 (12, 0, 0) (by decide) rfl).1 fx0 (eX11_between (24, .getfield 14, 3) (List.mem_of_getElem? (i := 12) rfl)) ?_
      refine lv_lload hx hb (eX11_between (27, .lload 4, 2) (List.mem_of_getElem? (i := 13) rfl)) (lv_at hl3 4 rfl) ?_
      refine tz_rowV (As := [.long te]) (st := []) (b := lp) (C := RX5) (Ts := gT) hx hb hml hown h2 (fun _ h => h) (hX5_holds l D cA ro sz H0 lp te L rlp) ⟨rfl, rfl⟩ ⟨by decide, by decide⟩ ⟨by decide, by decide⟩ (tb_3 139 rfl rfl) (tb_1 2 rfl rfl) (tb_3 136 rfl rfl) (tb_3 137 rfl rfl) (tb_3 138 rfl rfl) (show yX5_holds.cls ≠ "java/lang/invoke/MethodHandle" ∧ yX5_holds.cls ≠ "java/lang/invoke/VarHandle" ∧ (parseMethodDescriptor yX5_holds.desc).map (fun d => d.parameters.length) = some 1 by decide +kernel) zs_blind (zs_ob hh4 rlp (show RTg[4]? = some (0, 4, 0, fsX5) from rfl) (zCX5 hKa.1.1.1)) (fun U hU hW => ⟨rfl, by rw [hU]; exact hh4.l0, zKb s U hW.alike hKa.1.1, by rw [hU]; exact hlp⟩) hh4.2.2.1 hl3.1 (Nat.le_of_ble_eq_true rfl) (eX11_between (29, .invokevirtual 176, 3) (List.mem_of_getElem? (i := 14) rfl)) (fun r6 s6 t6 lo6 g6 f6 l6 => ?_)
      obtain ⟨z6, v6, q6, e6⟩ := f6
      cases q6
      rw [z6, g6]
      have hh6 : zh_ok D cA RTg ro sz H0 s.heap lo6 := ⟨hh4.1, hh4.2.1, l6, hh4.2.2.2⟩
      refine W.eq (g2 := F0 m 32 ls3 [.int v6]) rfl ?_
      refine ff_if_eq hx hb (eX11_between (32, .ifCond .eq 14, 3) (List.mem_of_getElem? (i := 15) rfl)) (tgt := 46) rfl (fun c7 => ?_) (fun c7 => ?_)
      · skip
        exact zx_leafGW (ik := 83) (is := 380) (ic := 87) (cls := "java/lang/IllegalArgumentException") (text := "no such zone, instant or part") hx hb hst hown h2 hKa.1 hh hh6 (by rw [hl3.1, hml]) hex hlk ⟨by decide, by decide, by decide, by decide⟩ (tb_2 121 rfl rfl) (tb_1 17 rfl rfl) (by decide) (gAt_in gAt_1) (by decide +kernel) (by decide) (by decide) (fun t h7 h8 => ⟨hh6.grow h7 h8, kp0.trans (kept_grow hh6 h8), hJC.kept hx10 (kept_grow (ms := []) hh6 h8) (by decide), Or.inl ⟨rfl, 0, rfl, rfl, Or.inl ⟨rfl, fun g => by have g1 := g.1; have g2 : zi.toInt < (Z.length : Int) := g.2.1; have g3 := g.2.2.1; have g4 := g.2.2.2.1; have g5 := g.2.2.2.2.1; have g6 := g.2.2.2.2.2.1; have g7 := g.2.2.2.2.2.2.1; have g8 := g.2.2.2.2.2.2.2.1; first | omega | (rcases e4 with h | h; (exfalso; omega); exact h.2 g3) | (rcases e6 with h | h; (exfalso; omega); exact h.2 g4)⟩⟩⟩) (eX11_between (46, .new 83, 3) (List.mem_of_getElem? (i := 21) rfl)) (eX11_between (49, .dup, 1) (List.mem_of_getElem? (i := 22) rfl)) (eX11_between (50, .ldc_w 380, 3) (List.mem_of_getElem? (i := 23) rfl)) (eX11_between (53, .invokespecial 87, 3) (List.mem_of_getElem? (i := 24) rfl)) (eX11_between (56, .athrow, 1) (List.mem_of_getElem? (i := 25) rfl))
      · skip
        refine lv_iload hx hb (eX11_between (35, .iload 6, 2) (List.mem_of_getElem? (i := 16) rfl)) (lv_at hl3 5 rfl) ?_
        refine ff_if_lt hx hb (eX11_between (37, .ifCond .lt 9, 3) (List.mem_of_getElem? (i := 17) rfl)) (tgt := 46) rfl (fun c8 => ?_) (fun c8 => ?_)
        · skip
          exact zx_leafGW (ik := 83) (is := 380) (ic := 87) (cls := "java/lang/IllegalArgumentException") (text := "no such zone, instant or part") hx hb hst hown h2 hKa.1 hh hh6 (by rw [hl3.1, hml]) hex hlk ⟨by decide, by decide, by decide, by decide⟩ (tb_2 121 rfl rfl) (tb_1 17 rfl rfl) (by decide) (gAt_in gAt_1) (by decide +kernel) (by decide) (by decide) (fun t h7 h8 => ⟨hh6.grow h7 h8, kp0.trans (kept_grow hh6 h8), hJC.kept hx10 (kept_grow (ms := []) hh6 h8) (by decide), Or.inl ⟨rfl, 0, rfl, rfl, Or.inl ⟨rfl, fun g => by have g1 := g.1; have g2 : zi.toInt < (Z.length : Int) := g.2.1; have g3 := g.2.2.1; have g4 := g.2.2.2.1; have g5 := g.2.2.2.2.1; have g6 := g.2.2.2.2.2.1; have g7 := g.2.2.2.2.2.2.1; have g8 := g.2.2.2.2.2.2.2.1; first | omega | (rcases e4 with h | h; (exfalso; omega); exact h.2 g3) | (rcases e6 with h | h; (exfalso; omega); exact h.2 g4)⟩⟩⟩) (eX11_between (46, .new 83, 3) (List.mem_of_getElem? (i := 21) rfl)) (eX11_between (49, .dup, 1) (List.mem_of_getElem? (i := 22) rfl)) (eX11_between (50, .ldc_w 380, 3) (List.mem_of_getElem? (i := 23) rfl)) (eX11_between (53, .invokespecial 87, 3) (List.mem_of_getElem? (i := 24) rfl)) (eX11_between (56, .athrow, 1) (List.mem_of_getElem? (i := 25) rfl))
        · skip
          refine lv_iload hx hb (eX11_between (40, .iload 6, 2) (List.mem_of_getElem? (i := 18) rfl)) (lv_at hl3 5 rfl) ?_
          refine ff_iconst hx hb (eX11_between (42, .iconst 2, 1) (List.mem_of_getElem? (i := 19) rfl)) (by decide) (by decide) (fun v9 e9 => ?_)
          refine ff_icmp_le hx hb (eX11_between (43, .if_icmp .le 14, 3) (List.mem_of_getElem? (i := 20) rfl)) (tgt := 57) rfl (fun c10 => ?_) (fun c10 => ?_)
          · skip
            have htkt0 : tOK t0.toInt L := by rcases e4 with h | h; exact h.2; exfalso; omega
            have htbt0 : -31900000000000 ≤ t0.toInt ∧ t0.toInt ≤ 31900000000000 := by have h8 := lsI_b hjL (-365961662); have h9 := lsI_b hjL 364522972; have h7 := htkt0; unfold tOK at h7; omega
            have htkte : tOK te.toInt L := by rcases e6 with h | h; exact h.2; exfalso; omega
            have htbte : -31900000000000 ≤ te.toInt ∧ te.toInt ≤ 31900000000000 := by have h8 := lsI_b hjL (-365961662); have h9 := lsI_b hjL 364522972; have h7 := htkte; unfold tOK at h7; omega
            obtain ⟨fo, fxf, rfo⟩ := tz_ref (k := 8) (rr := 19) hh6 hx10 (show RTg[10]? = some (0, 10, 0, fsX11) from rfl) rfl
            obtain ⟨-, zf0, cf0, -⟩ := zh_arr hh6 rfo (show RTg[19]? = some (1, 1, 63, [(1, (-9223372036854775808), 9223372036854775807)]) from rfl)
            obtain ⟨hoA, hoB9, hoS⟩ := hzp ze (List.mem_of_getElem? hze)
            have hoB : ∀ c ∈ ze.2, oOK c.2 := fun c hc => (hoB9 c hc).1
            have hjg0 : jGo D cA ro s.heap x fo zq zA zB ze lp L ru rF rT rr := ⟨fx0, fxf, hzr, zf0, cf0⟩
            have fr0 : ∀ p9 : Nat, p9 ∉ [ru, fo] → s.heap[p9]? = s.heap[p9]? := fun _ _ => rfl
            have kf0 : zc_kept D RTg ro kF s.heap s.heap := zc_kept.refl
            have hWr : rW rr := hro.2.2.2.2.2
            have hT9 := hzt ze (List.mem_of_getElem? hze)
            have hl60 : ze.2.length ≤ 60 := by omega
            refine lv_lload hx hb (eX11_between (57, .lload 4, 2) (List.mem_of_getElem? (i := 26) rfl)) (lv_at hl3 4 rfl) ?_
            refine lv_lload_n hx hb (eX11_between (59, .lload_n 2, 1) (List.mem_of_getElem? (i := 27) rfl)) rfl (lv_at hl3 3 rfl) ?_
            refine ff_lcmp hx hb (eX11_between (60, .lcmp, 1) (List.mem_of_getElem? (i := 28) rfl)) (fun v11 e11 => ?_)
            refine ff_if_lt hx hb (eX11_between (61, .ifCond .lt 14, 3) (List.mem_of_getElem? (i := 29) rfl)) (tgt := 75) rfl (fun c12 => ?_) (fun c12 => ?_)
            · skip
              exact zx_leafGW (ik := 83) (is := 384) (ic := 87) (cls := "java/lang/IllegalArgumentException") (text := "instants that are not apart so") hx hb hst hown h2 hKa.1 hh hh6 (by rw [hl3.1, hml]) hex hlk ⟨by decide, by decide, by decide, by decide⟩ (tb_2 121 rfl rfl) (tb_1 17 rfl rfl) (by decide) (gAt_in gAt_1) (by decide +kernel) (by decide) (by decide) (fun t h7 h8 => ⟨hh6.grow h7 h8, kp0.trans (kept_grow hh6 h8), hJC.kept hx10 (kept_grow (ms := []) hh6 h8) (by decide), Or.inl ⟨rfl, 0, rfl, rfl, Or.inl ⟨rfl, fun g => by have g1 := g.1; have g2 : zi.toInt < (Z.length : Int) := g.2.1; have g3 := g.2.2.1; have g4 := g.2.2.2.1; have g5 := g.2.2.2.2.1; have g6 := g.2.2.2.2.2.1; have g7 := g.2.2.2.2.2.2.1; have g8 := g.2.2.2.2.2.2.2.1; first | omega | (rcases e4 with h | h; (exfalso; omega); exact h.2 g3) | (rcases e6 with h | h; (exfalso; omega); exact h.2 g4)⟩⟩⟩) (eX11_between (75, .new 83, 3) (List.mem_of_getElem? (i := 36) rfl)) (eX11_between (78, .dup, 1) (List.mem_of_getElem? (i := 37) rfl)) (eX11_between (79, .ldc_w 384, 3) (List.mem_of_getElem? (i := 38) rfl)) (eX11_between (82, .invokespecial 87, 3) (List.mem_of_getElem? (i := 39) rfl)) (eX11_between (85, .athrow, 1) (List.mem_of_getElem? (i := 40) rfl))
            · skip
              refine lv_lload hx hb (eX11_between (64, .lload 4, 2) (List.mem_of_getElem? (i := 30) rfl)) (lv_at hl3 4 rfl) ?_
              refine lv_lload_n hx hb (eX11_between (66, .lload_n 2, 1) (List.mem_of_getElem? (i := 31) rfl)) rfl (lv_at hl3 3 rfl) ?_
              refine ff_lsub hx hb (eX11_between (67, .lsub, 1) (List.mem_of_getElem? (i := 32) rfl)) (by omega) (by omega) (fun v13 e13 => ?_)
              refine ff_ldc2 (n := 2592000000) hx hb hown h2 (clX11_ok 382 2592000000 (List.mem_of_getElem? (i := 8) rfl)) (eX11_between (68, .ldc2_w 382, 3) (List.mem_of_getElem? (i := 33) rfl)) (fun v14 e14 => ?_)
              refine ff_lcmp hx hb (eX11_between (71, .lcmp, 1) (List.mem_of_getElem? (i := 34) rfl)) (fun v15 e15 => ?_)
              refine ff_if_le hx hb (eX11_between (72, .ifCond .le 14, 3) (List.mem_of_getElem? (i := 35) rfl)) (tgt := 86) rfl (fun c16 => ?_) (fun c16 => ?_)
              · skip
                have hte9 : t0.toInt ≤ te.toInt := by omega
                refine lv_aload_n hx hb (eX11_between (86, .aload_n 0, 1) (List.mem_of_getElem? (i := 41) rfl)) rfl (lv_at hl3 1 rfl) ?_
                refine tz_get (r := 10) (k := 0) (t := (12, 0, 0)) hx hb hh6 hx10 rfl rfl (hcl10 14 0 (12, 0, 0) (by decide) rfl).1 fx0 (eX11_between (87, .getfield 14, 3) (List.mem_of_getElem? (i := 42) rfl)) ?_
                refine lv_lload_n hx hb (eX11_between (90, .lload_n 2, 1) (List.mem_of_getElem? (i := 43) rfl)) rfl (lv_at hl3 3 rfl) ?_
                refine tz_rowV (As := [.long t0]) (st := []) (b := lp) (C := RX5) (Ts := gT) hx hb hml hown h2 (fun _ h => h) (hX5_minuteAt l D cA ro sz H0 lp t0 L rlp (by omega) (by omega)) ⟨rfl, rfl⟩ ⟨by decide, by decide⟩ ⟨by decide, by decide⟩ (tb_3 151 rfl rfl) (tb_1 2 rfl rfl) (tb_3 148 rfl rfl) (tb_3 149 rfl rfl) (tb_3 150 rfl rfl) (show yX5_minuteAt.cls ≠ "java/lang/invoke/MethodHandle" ∧ yX5_minuteAt.cls ≠ "java/lang/invoke/VarHandle" ∧ (parseMethodDescriptor yX5_minuteAt.desc).map (fun d => d.parameters.length) = some 1 by decide +kernel) zs_blind (zs_ob hh6 rlp (show RTg[4]? = some (0, 4, 0, fsX5) from rfl) (zCX5 hKa.1.1.1)) (fun U hU hW => ⟨rfl, by rw [hU]; exact hh6.l0, zKb s U hW.alike hKa.1.1, by rw [hU]; exact hjg0.2.2.1.2.2.2.1⟩) hh6.2.2.1 hl3.1 (Nat.le_of_ble_eq_true rfl) (eX11_between (91, .invokevirtual 179, 3) (List.mem_of_getElem? (i := 44) rfl)) (fun r17 s17 t17 lo17 g17 f17 l17 => ?_)
                obtain ⟨z17, v17, q17, e17⟩ := f17
                cases q17
                rw [z17, g17]
                have hh17 : zh_ok D cA RTg ro sz H0 s.heap lo17 := ⟨hh6.1, hh6.2.1, l17, hh6.2.2.2⟩
                have hmb17 := rd_mIn e17 htkt0
                have hmmt0 := mtI_eq hjL e17
                clear e17
                refine W.eq (g2 := F0 m 94 ls3 [.long v17]) rfl ?_
                refine lv_aload hx hb (eX11_between (94, .aload 7, 2) (List.mem_of_getElem? (i := 45) rfl)) (lv_at hl3 0 rfl) ?_
                refine lv_lload_n hx hb (eX11_between (96, .lload_n 2, 1) (List.mem_of_getElem? (i := 46) rfl)) rfl (lv_at hl3 3 rfl) ?_
                refine tz_rowV (As := [.long t0]) (st := [.long v17]) (b := zq) (C := RX10) (Ts := gT) hx hb hml hown h2 (fun _ h => h) (hX10_offsetAt l D cA ro sz H0 zq t0 zA zB ze lp L ru rF rT rr rzq hjL (by omega) (by omega)) ⟨rfl, rfl⟩ ⟨by decide, by decide⟩ ⟨by decide, by decide⟩ (tb_4 113 rfl rfl) (tb_1 20 rfl rfl) (tb_4 110 rfl rfl) (tb_4 111 rfl rfl) (tb_4 112 rfl rfl) (show yX10_offsetAt.cls ≠ "java/lang/invoke/MethodHandle" ∧ yX10_offsetAt.cls ≠ "java/lang/invoke/VarHandle" ∧ (parseMethodDescriptor yX10_offsetAt.desc).map (fun d => d.parameters.length) = some 1 by decide +kernel) zs_blindB (zs_ob hh17 rzq (show RTg[9]? = some (0, 9, 0, fsX10) from rfl) (zCX10 hKa.1.1.1)) (fun U hU hW => ⟨rfl, by rw [hU]; exact hh17.l0, ⟨zKb s U hW.alike hKa.1.1, hBQ.alike hW.alike⟩, by rw [hU]; exact hzr⟩) hh17.2.2.1 hl3.1 (Nat.le_of_ble_eq_true rfl) (eX11_between (97, .invokevirtual 226, 3) (List.mem_of_getElem? (i := 47) rfl)) (fun r18 s18 t18 lo18 g18 f18 l18 => ?_)
                obtain ⟨v18, q18, e18, z18, c18, j18, fx18⟩ := f18
                cases q18
                rw [g18] at c18 fx18
                have fr18 : ∀ p9 : Nat, p9 ∉ [ru, fo] → t18.heap[p9]? = s.heap[p9]? := fun p9 h9 => (fx18 p9 (fun q => h9 (by rw [List.mem_singleton.mp q]; exact List.mem_cons_self))).trans (fr0 p9 h9)
                have ob18 := ofF_bd (L := L) (t := t0.toInt) hro.2.2.2.2.2 hoA hoB
                rw [← e18] at ob18
                have hh18 : zh_ok D cA RTg ro sz H0 t18.heap lo18 := ⟨z18.1, z18.2.1, l18, z18.2.2.2⟩
                have kp18 := kp0.trans (c18.mono (ms' := yMc) (by decide))
                have kf18 := kf0.trans (c18.mono (ms' := kF) (by decide))
                have jg18 := jGo.upd hx10 c18 (by decide) j18 ⟨zf0, (fx18 fo (l_n1 (ro_ne rfo hru (by decide)))).trans cf0⟩ hjg0
                have fa18 := jg18.1
                have sf18 : sfR ro [ru, rF, rT, dr, df, dt] s.heap t18.heap := fun p9 k9 hp hk hn => fr18 p9 (by obtain ⟨n1, -⟩ := l_n6 hn; exact l_n2 n1 (ro_ne hp rfo (by omega)))
                have jrr18 := hclose t18.heap rr sf18 jg18.2.2.1.2.2.2.2.2 (zh_fq (fr18 dr (l_n2 hne.1.symm (ro_ne hdr.2.1 rfo (by decide)))) hdr.2.2.1) (zh_fq (fr18 dr (l_n2 hne.1.symm (ro_ne hdr.2.1 rfo (by decide)))) hdr.2.2.2.1)
                rw [l_set hrr] at jrr18
                have jcy18 : jCY D cA ro t18.heap x L (Z, R) := ⟨hJZ.kept hx10 kf18 (by decide), jrr18⟩
                refine W.eq (g2 := F0 m 100 ls3 [.int v18, .long v17]) rfl ?_
                refine ff_i2l hx hb (eX11_between (100, .i2l, 1) (List.mem_of_getElem? (i := 48) rfl)) (fun v19 e19 => ?_)
                refine ff_ladd hx hb (eX11_between (101, .ladd, 1) (List.mem_of_getElem? (i := 49) rfl)) (by omega) (by omega) (fun v20 e20 => ?_)
                refine lv_lstore hx hb (eX11_between (102, .lstore 8, 2) (List.mem_of_getElem? (i := 50) rfl)) hl3 (by decide) rfl (fun ls21 hl21 => ?_)
                have hlm9 : v20.toInt = lmM L ze rr t0.toInt := by unfold lmM; rw [← hmmt0]; omega
                refine lv_lload hx hb (eX11_between (104, .lload 8, 2) (List.mem_of_getElem? (i := 51) rfl)) (lv_at hl21 0 rfl) ?_
                refine zu_S (vs := [.long v20]) (rest := []) hx hb hml hown hts0 zu_BT (hX2_holdsMinute l v20) ⟨rfl, rfl⟩ ⟨by decide, by decide⟩ ⟨by decide, by decide⟩ (tb_3 108 rfl rfl) (tb_1 13 rfl rfl) (tb_3 106 rfl rfl) (tb_3 107 rfl rfl) (show yX2_holdsMinute.cls ≠ "java/lang/invoke/MethodHandle" ∧ yX2_holdsMinute.cls ≠ "java/lang/invoke/VarHandle" ∧ (parseMethodDescriptor yX2_holdsMinute.desc).map (fun d => d.parameters.length) = some 1 by decide +kernel) rfl (fun _ _ _ => trivial) hl21.1 (Nat.le_of_ble_eq_true rfl) (eX11_between (106, .invokestatic 165, 3) (List.mem_of_getElem? (i := 52) rfl)) (fun w22 f22 => ?_)
                obtain ⟨v22, rfl, e22⟩ := f22
                refine ff_if_ne hx hb (eX11_between (109, .ifCond .ne 14, 3) (List.mem_of_getElem? (i := 53) rfl)) (tgt := 123) rfl (fun c23 => ?_) (fun c23 => ?_)
                · skip
                  have hM9 : mOK (lmM L ze rr t0.toInt) := by rw [← hlm9]; rcases e22 with h | h; exact h.2; exfalso; omega
                  have hmk8 := hM9
                  unfold mOK at hmk8
                  refine lv_aload_n hx hb (eX11_between (123, .aload_n 0, 1) (List.mem_of_getElem? (i := 59) rfl)) rfl (lv_at hl21 2 rfl) ?_
                  refine tz_get (r := 10) (k := 0) (t := (12, 0, 0)) hx hb hh18 hx10 rfl rfl (hcl10 14 0 (12, 0, 0) (by decide) rfl).1 fa18 (eX11_between (124, .getfield 14, 3) (List.mem_of_getElem? (i := 60) rfl)) ?_
                  refine lv_lload hx hb (eX11_between (127, .lload 4, 2) (List.mem_of_getElem? (i := 61) rfl)) (lv_at hl21 5 rfl) ?_
                  refine tz_rowV (As := [.long te]) (st := []) (b := lp) (C := RX5) (Ts := gT) hx hb hml hown h2 (fun _ h => h) (hX5_minuteAt l D cA ro sz H0 lp te L rlp (by omega) (by omega)) ⟨rfl, rfl⟩ ⟨by decide, by decide⟩ ⟨by decide, by decide⟩ (tb_3 151 rfl rfl) (tb_1 2 rfl rfl) (tb_3 148 rfl rfl) (tb_3 149 rfl rfl) (tb_3 150 rfl rfl) (show yX5_minuteAt.cls ≠ "java/lang/invoke/MethodHandle" ∧ yX5_minuteAt.cls ≠ "java/lang/invoke/VarHandle" ∧ (parseMethodDescriptor yX5_minuteAt.desc).map (fun d => d.parameters.length) = some 1 by decide +kernel) zs_blind (zs_ob hh18 rlp (show RTg[4]? = some (0, 4, 0, fsX5) from rfl) (zCX5 hKa.1.1.1)) (fun U hU hW => ⟨rfl, by rw [hU]; exact hh18.l0, zKb s U hW.alike hKa.1.1, by rw [hU]; exact jg18.2.2.1.2.2.2.1⟩) hh18.2.2.1 hl21.1 (Nat.le_of_ble_eq_true rfl) (eX11_between (129, .invokevirtual 179, 3) (List.mem_of_getElem? (i := 62) rfl)) (fun r24 s24 t24 lo24 g24 f24 l24 => ?_)
                  obtain ⟨z24, v24, q24, e24⟩ := f24
                  cases q24
                  rw [z24, g24]
                  have hh24 : zh_ok D cA RTg ro sz H0 t18.heap lo24 := ⟨hh18.1, hh18.2.1, l24, hh18.2.2.2⟩
                  have hmb24 := rd_mIn e24 htkte
                  have hmmte := mtI_eq hjL e24
                  clear e24
                  refine W.eq (g2 := F0 m 132 ls21 [.long v24]) rfl ?_
                  refine ff_ldc2 (n := 1439) hx hb hown h2 (clX11_ok 386 1439 (List.mem_of_getElem? (i := 9) rfl)) (eX11_between (132, .ldc2_w 386, 3) (List.mem_of_getElem? (i := 63) rfl)) (fun v25 e25 => ?_)
                  refine ff_ladd hx hb (eX11_between (135, .ladd, 1) (List.mem_of_getElem? (i := 64) rfl)) (by omega) (by omega) (fun v26 e26 => ?_)
                  refine lv_lstore hx hb (eX11_between (136, .lstore 10, 2) (List.mem_of_getElem? (i := 65) rfl)) hl21 (by decide) rfl (fun ls27 hl27 => ?_)
                  refine lv_lload hx hb (eX11_between (138, .lload 8, 2) (List.mem_of_getElem? (i := 66) rfl)) (lv_at hl27 1 rfl) ?_
                  refine lv_lload hx hb (eX11_between (140, .lload 10, 2) (List.mem_of_getElem? (i := 67) rfl)) (lv_at hl27 0 rfl) ?_
                  refine zu_S (vs := [.long v20, .long v26]) (rest := []) hx hb hml hown hts0 zBM_B (hX2_monthsApartE l cA v20 v26 (by omega) (by omega) (by omega) (by omega)) ⟨rfl, rfl⟩ ⟨by decide, by decide⟩ ⟨by decide, by decide⟩ (tb_6 117 rfl rfl) (tb_1 13 rfl rfl) (tb_6 115 rfl rfl) (tb_6 116 rfl rfl) (show yX2_monthsApart.cls ≠ "java/lang/invoke/MethodHandle" ∧ yX2_monthsApart.cls ≠ "java/lang/invoke/VarHandle" ∧ (parseMethodDescriptor yX2_monthsApart.desc).map (fun d => d.parameters.length) = some 2 by decide +kernel) rfl (fun U hU hW => (hBQ.alike hW.alike).bm (D := D) (ro := ro) (by rw [hU]; exact hh24.l0)) hl27.1 (Nat.le_of_ble_eq_true rfl) (eX11_between (142, .invokestatic 388, 3) (List.mem_of_getElem? (i := 68) rfl)) (fun w28 f28 => ?_)
                  obtain ⟨v28, rfl, e28⟩ := f28
                  refine lv_istore hx hb (eX11_between (145, .istore 12, 2) (List.mem_of_getElem? (i := 69) rfl)) hl27 (by decide) rfl (fun ls29 hl29 => ?_)
                  rw [hlm9, show v26.toInt = mtI L te.toInt + 1439 by rw [← hmmte]; omega] at e28
                  obtain ⟨-, -, a8, b8, ha8, -, -⟩ := id e28
                  have hgb9 : gB zi.toInt t0.toInt te.toInt w0.toInt L (Z, R) := ⟨by omega, by show _ < (Z.length : Int); omega, htkt0, htkte, by omega, by omega, hte9, by omega, fun e9 u9 q1 q2 => by cases hze.symm.trans q1; cases hrr.symm.trans q2; exact hM9⟩
                  have lp147 : ∀ (n9 : Nat) (iv : Int32) (ls : Array Slot) (H : Heap) (lo0 : List Loc), iv.toInt ≤ (n9 : Int) → (0 ≤ iv.toInt ∧ iv.toInt ≤ 1000000000) → (∀ k9 : Int, iv.toInt < k9 → ¬ okG L ze rr t0.toInt te.toInt k9 0) → zh_ok D cA RTg ro sz H0 H lo0 → zc_kept D RTg ro yMc s.heap H → zc_kept D RTg ro kF s.heap H → jGo D cA ro H x fo zq zA zB ze lp L ru rF rT rr → (∀ p9 : Nat, p9 ∉ [ru, fo] → H[p9]? = s.heap[p9]?) → lv_has ls 14 [(12, .int iv), (10, .long v26), (8, .long v20), (7, .ref zq), (0, .ref x), (2, .long t0), (4, .long te), (6, .int w0)] → W p l e (headSpec (gW yX11_between cX11_between 14 (some .long)) { frames := 6, cells := 1, slots := 6, locals := 176 }).room s m ([.ref x, .int zi, .long t0, .long te, .int w0] : List Value).toArray below meth c H lo0 0 0 (vx_MQ below (yy_Q D cA ro sz H0 x vL (spBY zi.toInt t0.toInt te.toInt w0.toInt L (Z, R))) (yy_X D cA ro sz H0 x L (Z, R) (spBY zi.toInt t0.toInt te.toInt w0.toInt L (Z, R))) ([.ref x, .int zi, .long t0, .long te, .int w0] : List Value).toArray s 1 6 (zy_fr sz)) (F0 m 147 ls []) := by
                    intro n9
                    induction n9 with
                    | zero =>
                      intro iv ls H lo0 hiv hbiv hiiv hh0 kpl kfl jgl frl hl
                      have fal := jgl.1
                      have sf30 : sfR ro [ru, rF, rT, dr, df, dt] s.heap H := fun p9 k9 hp hk hn => frl p9 (by obtain ⟨n1, -⟩ := l_n6 hn; exact l_n2 n1 (ro_ne hp rfo (by omega)))
                      have jrr30 := hclose H rr sf30 jgl.2.2.1.2.2.2.2.2 (zh_fq (frl dr (l_n2 hne.1.symm (ro_ne hdr.2.1 rfo (by decide)))) hdr.2.2.1) (zh_fq (frl dr (l_n2 hne.1.symm (ro_ne hdr.2.1 rfo (by decide)))) hdr.2.2.2.1)
                      rw [l_set hrr] at jrr30
                      have jcy30 : jCY D cA ro H x L (Z, R) := ⟨hJZ.kept hx10 kfl (by decide), jrr30⟩
                      refine lv_iload hx hb (eX11_between (147, .iload 12, 2) (List.mem_of_getElem? (i := 70) rfl)) (lv_at hl 0 rfl) ?_
                      refine ff_if_le hx hb (eX11_between (149, .ifCond .le 27, 3) (List.mem_of_getElem? (i := 71) rfl)) (tgt := 176) rfl (fun c31 => ?_) (fun c31 => (by exfalso; omega))
                      have hbm9 : bmR L ze rr t0.toInt te.toInt iv.toInt := ⟨by omega, Or.inl (by omega), hiiv⟩
                      refine lv_iload hx hb (eX11_between (176, .iload 6, 2) (List.mem_of_getElem? (i := 83) rfl)) (lv_at hl 7 rfl) ?_
                      refine ff_if_ne hx hb (eX11_between (178, .ifCond .ne 7, 3) (List.mem_of_getElem? (i := 84) rfl)) (tgt := 185) rfl (fun c32 => ?_) (fun c32 => ?_)
                      · skip
                        refine lv_lload hx hb (eX11_between (185, .lload 8, 2) (List.mem_of_getElem? (i := 88) rfl)) (lv_at hl 2 rfl) ?_
                        refine lv_iload hx hb (eX11_between (187, .iload 12, 2) (List.mem_of_getElem? (i := 89) rfl)) (lv_at hl 0 rfl) ?_
                        refine lv_lload hx hb (eX11_between (189, .lload 10, 2) (List.mem_of_getElem? (i := 90) rfl)) (lv_at hl 1 rfl) ?_
                        refine zu_S (vs := [.long v20, .int iv, .long v26]) (rest := []) hx hb hml hown hts0 zBM_B (hX2_daysApartE l cA v20 iv v26 (by omega) (by omega) (by omega) (by omega)) ⟨rfl, rfl⟩ ⟨by decide, by decide⟩ ⟨by decide, by decide⟩ (tb_6 124 rfl rfl) (tb_1 13 rfl rfl) (tb_6 122 rfl rfl) (tb_6 123 rfl rfl) (show yX2_daysApart.cls ≠ "java/lang/invoke/MethodHandle" ∧ yX2_daysApart.cls ≠ "java/lang/invoke/VarHandle" ∧ (parseMethodDescriptor yX2_daysApart.desc).map (fun d => d.parameters.length) = some 3 by decide +kernel) rfl (fun U hU hW => (hBQ.alike hW.alike).bm (D := D) (ro := ro) (by rw [hU]; exact hh0.l0)) hl.1 (Nat.le_of_ble_eq_true rfl) (eX11_between (191, .invokestatic 396, 3) (List.mem_of_getElem? (i := 91) rfl)) (fun w33 f33 => ?_)
                        obtain ⟨v33, rfl, e33⟩ := f33
                        refine lv_istore hx hb (eX11_between (194, .istore 13, 2) (List.mem_of_getElem? (i := 92) rfl)) hl (by decide) rfl (fun ls34 hl34 => ?_)
                        rw [hlm9, show v26.toInt = mtI L te.toInt + 1439 by rw [← hmmte]; omega] at e33
                        have hv9 : mtV (lmM L ze rr t0.toInt / 1440) iv.toInt := by rcases hbm9.2.1 with g9 | ⟨x9, g9, g8, -⟩; (rw [g9]; exact mtV_0 ha8 (by omega) (by omega)); exact (go_G g9 g8).1
                        obtain ⟨q9, hq9⟩ := mtG_ex hv9
                        have hr8 := e33.2.2 q9 hv9 hq9
                        have hc9 := c2_0 (t1 := te.toInt) hjL hjl.1 hWr hoA hoB hte9 hbm9.2.1 hq9
                        have lp196 : ∀ (n9 : Nat) (jw : Int32) (ls : Array Slot) (H : Heap) (lo0 : List Loc), jw.toInt ≤ (n9 : Int) → (0 ≤ jw.toInt ∧ jw.toInt ≤ 1000000000) → (∀ k9 : Int, jw.toInt < k9 → ¬ okG L ze rr t0.toInt te.toInt iv.toInt k9) → zh_ok D cA RTg ro sz H0 H lo0 → zc_kept D RTg ro yMc s.heap H → zc_kept D RTg ro kF s.heap H → jGo D cA ro H x fo zq zA zB ze lp L ru rF rT rr → (∀ p9 : Nat, p9 ∉ [ru, fo] → H[p9]? = s.heap[p9]?) → lv_has ls 14 [(13, .int jw), (12, .int iv), (10, .long v26), (8, .long v20), (7, .ref zq), (0, .ref x), (2, .long t0), (4, .long te), (6, .int w0)] → W p l e (headSpec (gW yX11_between cX11_between 14 (some .long)) { frames := 6, cells := 1, slots := 6, locals := 176 }).room s m ([.ref x, .int zi, .long t0, .long te, .int w0] : List Value).toArray below meth c H lo0 0 0 (vx_MQ below (yy_Q D cA ro sz H0 x vL (spBY zi.toInt t0.toInt te.toInt w0.toInt L (Z, R))) (yy_X D cA ro sz H0 x L (Z, R) (spBY zi.toInt t0.toInt te.toInt w0.toInt L (Z, R))) ([.ref x, .int zi, .long t0, .long te, .int w0] : List Value).toArray s 1 6 (zy_fr sz)) (F0 m 196 ls []) := by
                          intro n9
                          induction n9 with
                          | zero =>
                            intro jw ls H lo0 hjw hbjw hijw hh0 kpl kfl jgl frl hl
                            have fal := jgl.1
                            have sf35 : sfR ro [ru, rF, rT, dr, df, dt] s.heap H := fun p9 k9 hp hk hn => frl p9 (by obtain ⟨n1, -⟩ := l_n6 hn; exact l_n2 n1 (ro_ne hp rfo (by omega)))
                            have jrr35 := hclose H rr sf35 jgl.2.2.1.2.2.2.2.2 (zh_fq (frl dr (l_n2 hne.1.symm (ro_ne hdr.2.1 rfo (by decide)))) hdr.2.2.1) (zh_fq (frl dr (l_n2 hne.1.symm (ro_ne hdr.2.1 rfo (by decide)))) hdr.2.2.2.1)
                            rw [l_set hrr] at jrr35
                            have jcy35 : jCY D cA ro H x L (Z, R) := ⟨hJZ.kept hx10 kfl (by decide), jrr35⟩
                            refine lv_iload hx hb (eX11_between (196, .iload 13, 2) (List.mem_of_getElem? (i := 93) rfl)) (lv_at hl 0 rfl) ?_
                            refine ff_if_le hx hb (eX11_between (198, .ifCond .le 28, 3) (List.mem_of_getElem? (i := 94) rfl)) (tgt := 226) rfl (fun c36 => ?_) (fun c36 => (by exfalso; omega))
                            have hbd9 : bdR L ze rr t0.toInt te.toInt iv.toInt jw.toInt := ⟨by omega, Or.inl (by omega), hijw⟩
                            refine lv_iload hx hb (eX11_between (226, .iload 6, 2) (List.mem_of_getElem? (i := 106) rfl)) (lv_at hl 8 rfl) ?_
                            refine ff_iconst hx hb (eX11_between (228, .iconst 1, 1) (List.mem_of_getElem? (i := 107) rfl)) (by decide) (by decide) (fun v37 e37 => ?_)
                            refine ff_icmp_ne hx hb (eX11_between (229, .if_icmp .ne 9, 3) (List.mem_of_getElem? (i := 108) rfl)) (tgt := 238) rfl (fun c38 => ?_) (fun c38 => ?_)
                            · skip
                              refine lv_lload hx hb (eX11_between (238, .lload 4, 2) (List.mem_of_getElem? (i := 112) rfl)) (lv_at hl 7 rfl) ?_
                              refine lv_aload_n hx hb (eX11_between (240, .aload_n 0, 1) (List.mem_of_getElem? (i := 113) rfl)) rfl (lv_at hl 5 rfl) ?_
                              refine lv_aload hx hb (eX11_between (241, .aload 7, 2) (List.mem_of_getElem? (i := 114) rfl)) (lv_at hl 4 rfl) ?_
                              refine lv_lload_n hx hb (eX11_between (243, .lload_n 2, 1) (List.mem_of_getElem? (i := 115) rfl)) rfl (lv_at hl 6 rfl) ?_
                              refine lv_iload hx hb (eX11_between (244, .iload 12, 2) (List.mem_of_getElem? (i := 116) rfl)) (lv_at hl 1 rfl) ?_
                              refine lv_iload hx hb (eX11_between (246, .iload 13, 2) (List.mem_of_getElem? (i := 117) rfl)) (lv_at hl 0 rfl) ?_
                              refine tz_rowV (As := [.ref zq, .long t0, .int iv, .int jw]) (st := [.long te]) (b := x) (C := RX11) (Ts := gT) hx hb hml hown h2 (fun _ h => h) (hX11_goOnE l D cA ro sz H0 x zq t0 iv jw fo zA zB ze lp L ru rF rT rr hx10 rfo rzq hjl hoA hoB9 (by omega) (by omega) htkt0 hM9 (by omega) (by omega) hl60 hT9 hoS) ⟨rfl, rfl⟩ ⟨by decide, by decide⟩ ⟨by decide, by decide⟩ (tb_6 96 rfl rfl) (tb_1 1 rfl rfl) (tb_6 93 rfl rfl) (tb_6 95 rfl rfl) (tb_0 2 rfl rfl) (show yX11_goOn.cls ≠ "java/lang/invoke/MethodHandle" ∧ yX11_goOn.cls ≠ "java/lang/invoke/VarHandle" ∧ (parseMethodDescriptor yX11_goOn.desc).map (fun d => d.parameters.length) = some 4 by decide +kernel) zs_blindB (zs_ob hh0 hx10 (show RTg[10]? = some (0, 10, 0, fsX11) from rfl) (zCX11 hKa.1.1.1)) (fun U hU hW => ⟨rfl, by rw [hU]; exact hh0.l0, ⟨zKb s U hW.alike hKa.1.1, hBQ.alike hW.alike⟩, by rw [hU]; exact jgl⟩) hh0.2.2.1 hl.1 (Nat.le_of_ble_eq_true rfl) (eX11_between (248, .invokevirtual 374, 3) (List.mem_of_getElem? (i := 118) rfl)) (fun r39 s39 t39 lo39 g39 f39 l39 => ?_)
                              obtain ⟨v39, q39, e39, z39, c39, j39, fx39⟩ := f39
                              cases q39
                              rw [g39] at c39 fx39
                              have fr39 : ∀ p9 : Nat, p9 ∉ [ru, fo] → t39.heap[p9]? = s.heap[p9]? := fun p9 h9 => (fx39 p9 (fun q => h9 (by rcases List.mem_cons.mp q with q | q; (rw [q]; exact List.mem_cons_self); (rw [List.mem_singleton.mp q]; exact (List.mem_cons_of_mem _ List.mem_cons_self))))).trans (frl p9 h9)
                              have hh39 : zh_ok D cA RTg ro sz H0 t39.heap lo39 := ⟨z39.1, z39.2.1, l39, z39.2.2.2⟩
                              have kp39 := kpl.trans (c39.mono (ms' := yMc) (by decide))
                              have kf39 := kfl.trans (c39.mono (ms' := kF) (by decide))
                              have jg39 := j39
                              have fa39 := jg39.1
                              have sf39 : sfR ro [ru, rF, rT, dr, df, dt] s.heap t39.heap := fun p9 k9 hp hk hn => fr39 p9 (by obtain ⟨n1, -⟩ := l_n6 hn; exact l_n2 n1 (ro_ne hp rfo (by omega)))
                              have jrr39 := hclose t39.heap rr sf39 jg39.2.2.1.2.2.2.2.2 (zh_fq (fr39 dr (l_n2 hne.1.symm (ro_ne hdr.2.1 rfo (by decide)))) hdr.2.2.1) (zh_fq (fr39 dr (l_n2 hne.1.symm (ro_ne hdr.2.1 rfo (by decide)))) hdr.2.2.2.1)
                              rw [l_set hrr] at jrr39
                              have jcy39 : jCY D cA ro t39.heap x L (Z, R) := ⟨hJZ.kept hx10 kf39 (by decide), jrr39⟩
                              have e39 : goR L ze rr t0.toInt iv.toInt jw.toInt v39.toInt := e39
                              refine W.eq (g2 := F0 m 251 ls [.long v39, .long te]) rfl ?_
                              have hn9 := go_ne (t1 := te.toInt) hjL hjl.1 hWr hoA hoB htkt0 hM9 ha8 hbm9.2.1 hbd9.2.1 e39
                              have hb8 := go_b hjL hjl.1 hWr hoA hoB e39 hn9
                              refine ff_lsub hx hb (eX11_between (251, .lsub, 1) (List.mem_of_getElem? (i := 119) rfl)) (by omega) (by omega) (fun v40 e40 => ?_)
                              exact vx_ret (W.widen (k := 1) (n := 6) (Nat.zero_le _) (Nat.zero_le _) (W.lret hx hb hr (fun t ht hW => ⟨_, _, ro, L, (Z, R), rfl, ⟨_, rfl, rfl⟩, fun _ _ h => h, by rw [ht]; exact hh39.l0, by rw [ht]; exact kp39, by rw [ht]; exact jcy39, rfl, rfl, Or.inr ⟨rfl, hgb9, ze, rr, hze, hrr, iv.toInt, hbm9, Or.inr (Or.inr ⟨by omega, _, _, hbd9, e39, by omega⟩)⟩⟩) hh39.2.2.1 (eX11_between (252, .lreturn, 1) (List.mem_of_getElem? (i := 120) rfl))))
                            · skip
                              refine lv_iload hx hb (eX11_between (232, .iload 13, 2) (List.mem_of_getElem? (i := 109) rfl)) (lv_at hl 0 rfl) ?_
                              refine ff_i2l hx hb (eX11_between (234, .i2l, 1) (List.mem_of_getElem? (i := 110) rfl)) (fun v41 e41 => ?_)
                              refine lv_goto hx hb (eX11_between (235, .goto 17, 3) (List.mem_of_getElem? (i := 111) rfl)) (tgt := 252) rfl ?_
                              exact vx_ret (W.widen (k := 1) (n := 6) (Nat.zero_le _) (Nat.zero_le _) (W.lret hx hb hr (fun t ht hW => ⟨_, _, ro, L, (Z, R), rfl, ⟨_, rfl, rfl⟩, fun _ _ h => h, by rw [ht]; exact hh0.l0, by rw [ht]; exact kpl, by rw [ht]; exact jcy35, rfl, rfl, Or.inr ⟨rfl, hgb9, ze, rr, hze, hrr, iv.toInt, hbm9, Or.inr (Or.inl ⟨by omega, by rw [show v41.toInt = jw.toInt by omega]; exact hbd9⟩)⟩⟩) hh0.2.2.1 (eX11_between (252, .lreturn, 1) (List.mem_of_getElem? (i := 120) rfl))))
                          | succ n9 ihjw =>
                            intro jw ls H lo0 hjw hbjw hijw hh0 kpl kfl jgl frl hl
                            have fal := jgl.1
                            have sf42 : sfR ro [ru, rF, rT, dr, df, dt] s.heap H := fun p9 k9 hp hk hn => frl p9 (by obtain ⟨n1, -⟩ := l_n6 hn; exact l_n2 n1 (ro_ne hp rfo (by omega)))
                            have jrr42 := hclose H rr sf42 jgl.2.2.1.2.2.2.2.2 (zh_fq (frl dr (l_n2 hne.1.symm (ro_ne hdr.2.1 rfo (by decide)))) hdr.2.2.1) (zh_fq (frl dr (l_n2 hne.1.symm (ro_ne hdr.2.1 rfo (by decide)))) hdr.2.2.2.1)
                            rw [l_set hrr] at jrr42
                            have jcy42 : jCY D cA ro H x L (Z, R) := ⟨hJZ.kept hx10 kfl (by decide), jrr42⟩
                            refine lv_iload hx hb (eX11_between (196, .iload 13, 2) (List.mem_of_getElem? (i := 93) rfl)) (lv_at hl 0 rfl) ?_
                            refine ff_if_le hx hb (eX11_between (198, .ifCond .le 28, 3) (List.mem_of_getElem? (i := 94) rfl)) (tgt := 226) rfl (fun c43 => ?_) (fun c43 => ?_)
                            · skip
                              have hbd9 : bdR L ze rr t0.toInt te.toInt iv.toInt jw.toInt := ⟨by omega, Or.inl (by omega), hijw⟩
                              refine lv_iload hx hb (eX11_between (226, .iload 6, 2) (List.mem_of_getElem? (i := 106) rfl)) (lv_at hl 8 rfl) ?_
                              refine ff_iconst hx hb (eX11_between (228, .iconst 1, 1) (List.mem_of_getElem? (i := 107) rfl)) (by decide) (by decide) (fun v44 e44 => ?_)
                              refine ff_icmp_ne hx hb (eX11_between (229, .if_icmp .ne 9, 3) (List.mem_of_getElem? (i := 108) rfl)) (tgt := 238) rfl (fun c45 => ?_) (fun c45 => ?_)
                              · skip
                                refine lv_lload hx hb (eX11_between (238, .lload 4, 2) (List.mem_of_getElem? (i := 112) rfl)) (lv_at hl 7 rfl) ?_
                                refine lv_aload_n hx hb (eX11_between (240, .aload_n 0, 1) (List.mem_of_getElem? (i := 113) rfl)) rfl (lv_at hl 5 rfl) ?_
                                refine lv_aload hx hb (eX11_between (241, .aload 7, 2) (List.mem_of_getElem? (i := 114) rfl)) (lv_at hl 4 rfl) ?_
                                refine lv_lload_n hx hb (eX11_between (243, .lload_n 2, 1) (List.mem_of_getElem? (i := 115) rfl)) rfl (lv_at hl 6 rfl) ?_
                                refine lv_iload hx hb (eX11_between (244, .iload 12, 2) (List.mem_of_getElem? (i := 116) rfl)) (lv_at hl 1 rfl) ?_
                                refine lv_iload hx hb (eX11_between (246, .iload 13, 2) (List.mem_of_getElem? (i := 117) rfl)) (lv_at hl 0 rfl) ?_
                                refine tz_rowV (As := [.ref zq, .long t0, .int iv, .int jw]) (st := [.long te]) (b := x) (C := RX11) (Ts := gT) hx hb hml hown h2 (fun _ h => h) (hX11_goOnE l D cA ro sz H0 x zq t0 iv jw fo zA zB ze lp L ru rF rT rr hx10 rfo rzq hjl hoA hoB9 (by omega) (by omega) htkt0 hM9 (by omega) (by omega) hl60 hT9 hoS) ⟨rfl, rfl⟩ ⟨by decide, by decide⟩ ⟨by decide, by decide⟩ (tb_6 96 rfl rfl) (tb_1 1 rfl rfl) (tb_6 93 rfl rfl) (tb_6 95 rfl rfl) (tb_0 2 rfl rfl) (show yX11_goOn.cls ≠ "java/lang/invoke/MethodHandle" ∧ yX11_goOn.cls ≠ "java/lang/invoke/VarHandle" ∧ (parseMethodDescriptor yX11_goOn.desc).map (fun d => d.parameters.length) = some 4 by decide +kernel) zs_blindB (zs_ob hh0 hx10 (show RTg[10]? = some (0, 10, 0, fsX11) from rfl) (zCX11 hKa.1.1.1)) (fun U hU hW => ⟨rfl, by rw [hU]; exact hh0.l0, ⟨zKb s U hW.alike hKa.1.1, hBQ.alike hW.alike⟩, by rw [hU]; exact jgl⟩) hh0.2.2.1 hl.1 (Nat.le_of_ble_eq_true rfl) (eX11_between (248, .invokevirtual 374, 3) (List.mem_of_getElem? (i := 118) rfl)) (fun r46 s46 t46 lo46 g46 f46 l46 => ?_)
                                obtain ⟨v46, q46, e46, z46, c46, j46, fx46⟩ := f46
                                cases q46
                                rw [g46] at c46 fx46
                                have fr46 : ∀ p9 : Nat, p9 ∉ [ru, fo] → t46.heap[p9]? = s.heap[p9]? := fun p9 h9 => (fx46 p9 (fun q => h9 (by rcases List.mem_cons.mp q with q | q; (rw [q]; exact List.mem_cons_self); (rw [List.mem_singleton.mp q]; exact (List.mem_cons_of_mem _ List.mem_cons_self))))).trans (frl p9 h9)
                                have hh46 : zh_ok D cA RTg ro sz H0 t46.heap lo46 := ⟨z46.1, z46.2.1, l46, z46.2.2.2⟩
                                have kp46 := kpl.trans (c46.mono (ms' := yMc) (by decide))
                                have kf46 := kfl.trans (c46.mono (ms' := kF) (by decide))
                                have jg46 := j46
                                have fa46 := jg46.1
                                have sf46 : sfR ro [ru, rF, rT, dr, df, dt] s.heap t46.heap := fun p9 k9 hp hk hn => fr46 p9 (by obtain ⟨n1, -⟩ := l_n6 hn; exact l_n2 n1 (ro_ne hp rfo (by omega)))
                                have jrr46 := hclose t46.heap rr sf46 jg46.2.2.1.2.2.2.2.2 (zh_fq (fr46 dr (l_n2 hne.1.symm (ro_ne hdr.2.1 rfo (by decide)))) hdr.2.2.1) (zh_fq (fr46 dr (l_n2 hne.1.symm (ro_ne hdr.2.1 rfo (by decide)))) hdr.2.2.2.1)
                                rw [l_set hrr] at jrr46
                                have jcy46 : jCY D cA ro t46.heap x L (Z, R) := ⟨hJZ.kept hx10 kf46 (by decide), jrr46⟩
                                have e46 : goR L ze rr t0.toInt iv.toInt jw.toInt v46.toInt := e46
                                refine W.eq (g2 := F0 m 251 ls [.long v46, .long te]) rfl ?_
                                have hn9 := go_ne (t1 := te.toInt) hjL hjl.1 hWr hoA hoB htkt0 hM9 ha8 hbm9.2.1 hbd9.2.1 e46
                                have hb8 := go_b hjL hjl.1 hWr hoA hoB e46 hn9
                                refine ff_lsub hx hb (eX11_between (251, .lsub, 1) (List.mem_of_getElem? (i := 119) rfl)) (by omega) (by omega) (fun v47 e47 => ?_)
                                exact vx_ret (W.widen (k := 1) (n := 6) (Nat.zero_le _) (Nat.zero_le _) (W.lret hx hb hr (fun t ht hW => ⟨_, _, ro, L, (Z, R), rfl, ⟨_, rfl, rfl⟩, fun _ _ h => h, by rw [ht]; exact hh46.l0, by rw [ht]; exact kp46, by rw [ht]; exact jcy46, rfl, rfl, Or.inr ⟨rfl, hgb9, ze, rr, hze, hrr, iv.toInt, hbm9, Or.inr (Or.inr ⟨by omega, _, _, hbd9, e46, by omega⟩)⟩⟩) hh46.2.2.1 (eX11_between (252, .lreturn, 1) (List.mem_of_getElem? (i := 120) rfl))))
                              · skip
                                refine lv_iload hx hb (eX11_between (232, .iload 13, 2) (List.mem_of_getElem? (i := 109) rfl)) (lv_at hl 0 rfl) ?_
                                refine ff_i2l hx hb (eX11_between (234, .i2l, 1) (List.mem_of_getElem? (i := 110) rfl)) (fun v48 e48 => ?_)
                                refine lv_goto hx hb (eX11_between (235, .goto 17, 3) (List.mem_of_getElem? (i := 111) rfl)) (tgt := 252) rfl ?_
                                exact vx_ret (W.widen (k := 1) (n := 6) (Nat.zero_le _) (Nat.zero_le _) (W.lret hx hb hr (fun t ht hW => ⟨_, _, ro, L, (Z, R), rfl, ⟨_, rfl, rfl⟩, fun _ _ h => h, by rw [ht]; exact hh0.l0, by rw [ht]; exact kpl, by rw [ht]; exact jcy42, rfl, rfl, Or.inr ⟨rfl, hgb9, ze, rr, hze, hrr, iv.toInt, hbm9, Or.inr (Or.inl ⟨by omega, by rw [show v48.toInt = jw.toInt by omega]; exact hbd9⟩)⟩⟩) hh0.2.2.1 (eX11_between (252, .lreturn, 1) (List.mem_of_getElem? (i := 120) rfl))))
                            · skip
                              refine lv_aload_n hx hb (eX11_between (201, .aload_n 0, 1) (List.mem_of_getElem? (i := 95) rfl)) rfl (lv_at hl 5 rfl) ?_
                              refine lv_aload hx hb (eX11_between (202, .aload 7, 2) (List.mem_of_getElem? (i := 96) rfl)) (lv_at hl 4 rfl) ?_
                              refine lv_lload_n hx hb (eX11_between (204, .lload_n 2, 1) (List.mem_of_getElem? (i := 97) rfl)) rfl (lv_at hl 6 rfl) ?_
                              refine lv_iload hx hb (eX11_between (205, .iload 12, 2) (List.mem_of_getElem? (i := 98) rfl)) (lv_at hl 1 rfl) ?_
                              refine lv_iload hx hb (eX11_between (207, .iload 13, 2) (List.mem_of_getElem? (i := 99) rfl)) (lv_at hl 0 rfl) ?_
                              refine tz_rowV (As := [.ref zq, .long t0, .int iv, .int jw]) (st := []) (b := x) (C := RX11) (Ts := gT) hx hb hml hown h2 (fun _ h => h) (hX11_goOnE l D cA ro sz H0 x zq t0 iv jw fo zA zB ze lp L ru rF rT rr hx10 rfo rzq hjl hoA hoB9 (by omega) (by omega) htkt0 hM9 (by omega) (by omega) hl60 hT9 hoS) ⟨rfl, rfl⟩ ⟨by decide, by decide⟩ ⟨by decide, by decide⟩ (tb_6 96 rfl rfl) (tb_1 1 rfl rfl) (tb_6 93 rfl rfl) (tb_6 95 rfl rfl) (tb_0 2 rfl rfl) (show yX11_goOn.cls ≠ "java/lang/invoke/MethodHandle" ∧ yX11_goOn.cls ≠ "java/lang/invoke/VarHandle" ∧ (parseMethodDescriptor yX11_goOn.desc).map (fun d => d.parameters.length) = some 4 by decide +kernel) zs_blindB (zs_ob hh0 hx10 (show RTg[10]? = some (0, 10, 0, fsX11) from rfl) (zCX11 hKa.1.1.1)) (fun U hU hW => ⟨rfl, by rw [hU]; exact hh0.l0, ⟨zKb s U hW.alike hKa.1.1, hBQ.alike hW.alike⟩, by rw [hU]; exact jgl⟩) hh0.2.2.1 hl.1 (Nat.le_of_ble_eq_true rfl) (eX11_between (209, .invokevirtual 374, 3) (List.mem_of_getElem? (i := 100) rfl)) (fun r49 s49 t49 lo49 g49 f49 l49 => ?_)
                              obtain ⟨v49, q49, e49, z49, c49, j49, fx49⟩ := f49
                              cases q49
                              rw [g49] at c49 fx49
                              have fr49 : ∀ p9 : Nat, p9 ∉ [ru, fo] → t49.heap[p9]? = s.heap[p9]? := fun p9 h9 => (fx49 p9 (fun q => h9 (by rcases List.mem_cons.mp q with q | q; (rw [q]; exact List.mem_cons_self); (rw [List.mem_singleton.mp q]; exact (List.mem_cons_of_mem _ List.mem_cons_self))))).trans (frl p9 h9)
                              have hh49 : zh_ok D cA RTg ro sz H0 t49.heap lo49 := ⟨z49.1, z49.2.1, l49, z49.2.2.2⟩
                              have kp49 := kpl.trans (c49.mono (ms' := yMc) (by decide))
                              have kf49 := kfl.trans (c49.mono (ms' := kF) (by decide))
                              have jg49 := j49
                              have fa49 := jg49.1
                              have sf49 : sfR ro [ru, rF, rT, dr, df, dt] s.heap t49.heap := fun p9 k9 hp hk hn => fr49 p9 (by obtain ⟨n1, -⟩ := l_n6 hn; exact l_n2 n1 (ro_ne hp rfo (by omega)))
                              have jrr49 := hclose t49.heap rr sf49 jg49.2.2.1.2.2.2.2.2 (zh_fq (fr49 dr (l_n2 hne.1.symm (ro_ne hdr.2.1 rfo (by decide)))) hdr.2.2.1) (zh_fq (fr49 dr (l_n2 hne.1.symm (ro_ne hdr.2.1 rfo (by decide)))) hdr.2.2.2.1)
                              rw [l_set hrr] at jrr49
                              have jcy49 : jCY D cA ro t49.heap x L (Z, R) := ⟨hJZ.kept hx10 kf49 (by decide), jrr49⟩
                              have e49 : goR L ze rr t0.toInt iv.toInt jw.toInt v49.toInt := e49
                              refine W.eq (g2 := F0 m 212 ls [.long v49]) rfl ?_
                              refine lv_lload hx hb (eX11_between (212, .lload 4, 2) (List.mem_of_getElem? (i := 101) rfl)) (lv_at hl 7 rfl) ?_
                              refine zu_S (vs := [.long v49, .long te]) (rest := []) hx hb hml hown hts0 zu_BT (hX11_comesBehindE l v49 te) ⟨rfl, rfl⟩ ⟨by decide, by decide⟩ ⟨by decide, by decide⟩ (tb_6 121 rfl rfl) (tb_1 1 rfl rfl) (tb_6 119 rfl rfl) (tb_6 120 rfl rfl) (show yX11_comesBehind.cls ≠ "java/lang/invoke/MethodHandle" ∧ yX11_comesBehind.cls ≠ "java/lang/invoke/VarHandle" ∧ (parseMethodDescriptor yX11_comesBehind.desc).map (fun d => d.parameters.length) = some 2 by decide +kernel) rfl (fun _ _ _ => trivial) hl.1 (Nat.le_of_ble_eq_true rfl) (eX11_between (214, .invokestatic 392, 3) (List.mem_of_getElem? (i := 102) rfl)) (fun w50 f50 => ?_)
                              obtain ⟨v50, rfl, e50⟩ := f50
                              refine ff_if_eq hx hb (eX11_between (217, .ifCond .eq 9, 3) (List.mem_of_getElem? (i := 103) rfl)) (tgt := 226) rfl (fun c51 => ?_) (fun c51 => ?_)
                              · skip
                                have hbd9 : bdR L ze rr t0.toInt te.toInt iv.toInt jw.toInt := ⟨by omega, Or.inr ⟨v49.toInt, e49, by unfold NONEI; omega, by omega⟩, hijw⟩
                                refine lv_iload hx hb (eX11_between (226, .iload 6, 2) (List.mem_of_getElem? (i := 106) rfl)) (lv_at hl 8 rfl) ?_
                                refine ff_iconst hx hb (eX11_between (228, .iconst 1, 1) (List.mem_of_getElem? (i := 107) rfl)) (by decide) (by decide) (fun v52 e52 => ?_)
                                refine ff_icmp_ne hx hb (eX11_between (229, .if_icmp .ne 9, 3) (List.mem_of_getElem? (i := 108) rfl)) (tgt := 238) rfl (fun c53 => ?_) (fun c53 => ?_)
                                · skip
                                  refine lv_lload hx hb (eX11_between (238, .lload 4, 2) (List.mem_of_getElem? (i := 112) rfl)) (lv_at hl 7 rfl) ?_
                                  refine lv_aload_n hx hb (eX11_between (240, .aload_n 0, 1) (List.mem_of_getElem? (i := 113) rfl)) rfl (lv_at hl 5 rfl) ?_
                                  refine lv_aload hx hb (eX11_between (241, .aload 7, 2) (List.mem_of_getElem? (i := 114) rfl)) (lv_at hl 4 rfl) ?_
                                  refine lv_lload_n hx hb (eX11_between (243, .lload_n 2, 1) (List.mem_of_getElem? (i := 115) rfl)) rfl (lv_at hl 6 rfl) ?_
                                  refine lv_iload hx hb (eX11_between (244, .iload 12, 2) (List.mem_of_getElem? (i := 116) rfl)) (lv_at hl 1 rfl) ?_
                                  refine lv_iload hx hb (eX11_between (246, .iload 13, 2) (List.mem_of_getElem? (i := 117) rfl)) (lv_at hl 0 rfl) ?_
                                  refine tz_rowV (As := [.ref zq, .long t0, .int iv, .int jw]) (st := [.long te]) (b := x) (C := RX11) (Ts := gT) hx hb hml hown h2 (fun _ h => h) (hX11_goOnE l D cA ro sz H0 x zq t0 iv jw fo zA zB ze lp L ru rF rT rr hx10 rfo rzq hjl hoA hoB9 (by omega) (by omega) htkt0 hM9 (by omega) (by omega) hl60 hT9 hoS) ⟨rfl, rfl⟩ ⟨by decide, by decide⟩ ⟨by decide, by decide⟩ (tb_6 96 rfl rfl) (tb_1 1 rfl rfl) (tb_6 93 rfl rfl) (tb_6 95 rfl rfl) (tb_0 2 rfl rfl) (show yX11_goOn.cls ≠ "java/lang/invoke/MethodHandle" ∧ yX11_goOn.cls ≠ "java/lang/invoke/VarHandle" ∧ (parseMethodDescriptor yX11_goOn.desc).map (fun d => d.parameters.length) = some 4 by decide +kernel) zs_blindB (zs_ob hh49 hx10 (show RTg[10]? = some (0, 10, 0, fsX11) from rfl) (zCX11 hKa.1.1.1)) (fun U hU hW => ⟨rfl, by rw [hU]; exact hh49.l0, ⟨zKb s U hW.alike hKa.1.1, hBQ.alike hW.alike⟩, by rw [hU]; exact jg49⟩) hh49.2.2.1 hl.1 (Nat.le_of_ble_eq_true rfl) (eX11_between (248, .invokevirtual 374, 3) (List.mem_of_getElem? (i := 118) rfl)) (fun r54 s54 t54 lo54 g54 f54 l54 => ?_)
                                  obtain ⟨v54, q54, e54, z54, c54, j54, fx54⟩ := f54
                                  cases q54
                                  rw [g54] at c54 fx54
                                  have fr54 : ∀ p9 : Nat, p9 ∉ [ru, fo] → t54.heap[p9]? = s.heap[p9]? := fun p9 h9 => (fx54 p9 (fun q => h9 (by rcases List.mem_cons.mp q with q | q; (rw [q]; exact List.mem_cons_self); (rw [List.mem_singleton.mp q]; exact (List.mem_cons_of_mem _ List.mem_cons_self))))).trans (fr49 p9 h9)
                                  have hh54 : zh_ok D cA RTg ro sz H0 t54.heap lo54 := ⟨z54.1, z54.2.1, l54, z54.2.2.2⟩
                                  have kp54 := kp49.trans (c54.mono (ms' := yMc) (by decide))
                                  have kf54 := kf49.trans (c54.mono (ms' := kF) (by decide))
                                  have jg54 := j54
                                  have fa54 := jg54.1
                                  have sf54 : sfR ro [ru, rF, rT, dr, df, dt] s.heap t54.heap := fun p9 k9 hp hk hn => fr54 p9 (by obtain ⟨n1, -⟩ := l_n6 hn; exact l_n2 n1 (ro_ne hp rfo (by omega)))
                                  have jrr54 := hclose t54.heap rr sf54 jg54.2.2.1.2.2.2.2.2 (zh_fq (fr54 dr (l_n2 hne.1.symm (ro_ne hdr.2.1 rfo (by decide)))) hdr.2.2.1) (zh_fq (fr54 dr (l_n2 hne.1.symm (ro_ne hdr.2.1 rfo (by decide)))) hdr.2.2.2.1)
                                  rw [l_set hrr] at jrr54
                                  have jcy54 : jCY D cA ro t54.heap x L (Z, R) := ⟨hJZ.kept hx10 kf54 (by decide), jrr54⟩
                                  have e54 : goR L ze rr t0.toInt iv.toInt jw.toInt v54.toInt := e54
                                  refine W.eq (g2 := F0 m 251 ls [.long v54, .long te]) rfl ?_
                                  have hn9 := go_ne (t1 := te.toInt) hjL hjl.1 hWr hoA hoB htkt0 hM9 ha8 hbm9.2.1 hbd9.2.1 e54
                                  have hb8 := go_b hjL hjl.1 hWr hoA hoB e54 hn9
                                  refine ff_lsub hx hb (eX11_between (251, .lsub, 1) (List.mem_of_getElem? (i := 119) rfl)) (by omega) (by omega) (fun v55 e55 => ?_)
                                  exact vx_ret (W.widen (k := 1) (n := 6) (Nat.zero_le _) (Nat.zero_le _) (W.lret hx hb hr (fun t ht hW => ⟨_, _, ro, L, (Z, R), rfl, ⟨_, rfl, rfl⟩, fun _ _ h => h, by rw [ht]; exact hh54.l0, by rw [ht]; exact kp54, by rw [ht]; exact jcy54, rfl, rfl, Or.inr ⟨rfl, hgb9, ze, rr, hze, hrr, iv.toInt, hbm9, Or.inr (Or.inr ⟨by omega, _, _, hbd9, e54, by omega⟩)⟩⟩) hh54.2.2.1 (eX11_between (252, .lreturn, 1) (List.mem_of_getElem? (i := 120) rfl))))
                                · skip
                                  refine lv_iload hx hb (eX11_between (232, .iload 13, 2) (List.mem_of_getElem? (i := 109) rfl)) (lv_at hl 0 rfl) ?_
                                  refine ff_i2l hx hb (eX11_between (234, .i2l, 1) (List.mem_of_getElem? (i := 110) rfl)) (fun v56 e56 => ?_)
                                  refine lv_goto hx hb (eX11_between (235, .goto 17, 3) (List.mem_of_getElem? (i := 111) rfl)) (tgt := 252) rfl ?_
                                  exact vx_ret (W.widen (k := 1) (n := 6) (Nat.zero_le _) (Nat.zero_le _) (W.lret hx hb hr (fun t ht hW => ⟨_, _, ro, L, (Z, R), rfl, ⟨_, rfl, rfl⟩, fun _ _ h => h, by rw [ht]; exact hh49.l0, by rw [ht]; exact kp49, by rw [ht]; exact jcy49, rfl, rfl, Or.inr ⟨rfl, hgb9, ze, rr, hze, hrr, iv.toInt, hbm9, Or.inr (Or.inl ⟨by omega, by rw [show v56.toInt = jw.toInt by omega]; exact hbd9⟩)⟩⟩) hh49.2.2.1 (eX11_between (252, .lreturn, 1) (List.mem_of_getElem? (i := 120) rfl))))
                              · skip
                                refine ff_iinc (k := 0) hx hb (eX11_between (220, .iinc 13 (-1), 3) (List.mem_of_getElem? (i := 104) rfl)) hl rfl (by decide) (by decide) (by decide) (by omega) (by omega) (fun v57 e57 ls57 hl57 => ?_)
                                refine lv_goto hx hb (eX11_between (223, .goto (-27), 3) (List.mem_of_getElem? (i := 105) rfl)) (tgt := 196) rfl ?_
                                have hno9 : ¬ okG L ze rr t0.toInt te.toInt iv.toInt jw.toInt := fun g9 => by obtain ⟨x9, h7, h6, h5⟩ := g9; have h9 := e49; have h4 := goR_one h7 h9; unfold NONEI at h6; omega
                                exact ihjw v57 ls57 _ _ (by omega) (by omega) (fun k9 hk9 => by by_cases e9 : k9 = jw.toInt; (rw [e9]; exact hno9); exact hijw k9 (by omega)) hh49 kp49 kf49 jg49 fr49 (lv_sub hl57 [0, 1, 2, 3, 4, 5, 6, 7, 8] rfl)
                        exact lp196 v33.toInt.toNat v33 ls34 _ _ (by omega) (by omega) (fun k9 hk9 => c2_no hjL hjl.1 hWr hoA hoB hq9 (by omega)) hh0 kpl kfl jgl frl (lv_sub hl34 [0, 1, 2, 3, 4, 5, 6, 7, 8] rfl)
                      · skip
                        refine lv_iload hx hb (eX11_between (181, .iload 12, 2) (List.mem_of_getElem? (i := 85) rfl)) (lv_at hl 0 rfl) ?_
                        refine ff_i2l hx hb (eX11_between (183, .i2l, 1) (List.mem_of_getElem? (i := 86) rfl)) (fun v58 e58 => ?_)
                        exact vx_ret (W.widen (k := 1) (n := 6) (Nat.zero_le _) (Nat.zero_le _) (W.lret hx hb hr (fun t ht hW => ⟨_, _, ro, L, (Z, R), rfl, ⟨_, rfl, rfl⟩, fun _ _ h => h, by rw [ht]; exact hh0.l0, by rw [ht]; exact kpl, by rw [ht]; exact jcy30, rfl, rfl, Or.inr ⟨rfl, hgb9, ze, rr, hze, hrr, iv.toInt, hbm9, Or.inl ⟨by omega, by omega⟩⟩⟩) hh0.2.2.1 (eX11_between (184, .lreturn, 1) (List.mem_of_getElem? (i := 87) rfl))))
                    | succ n9 ihiv =>
                      intro iv ls H lo0 hiv hbiv hiiv hh0 kpl kfl jgl frl hl
                      have fal := jgl.1
                      have sf59 : sfR ro [ru, rF, rT, dr, df, dt] s.heap H := fun p9 k9 hp hk hn => frl p9 (by obtain ⟨n1, -⟩ := l_n6 hn; exact l_n2 n1 (ro_ne hp rfo (by omega)))
                      have jrr59 := hclose H rr sf59 jgl.2.2.1.2.2.2.2.2 (zh_fq (frl dr (l_n2 hne.1.symm (ro_ne hdr.2.1 rfo (by decide)))) hdr.2.2.1) (zh_fq (frl dr (l_n2 hne.1.symm (ro_ne hdr.2.1 rfo (by decide)))) hdr.2.2.2.1)
                      rw [l_set hrr] at jrr59
                      have jcy59 : jCY D cA ro H x L (Z, R) := ⟨hJZ.kept hx10 kfl (by decide), jrr59⟩
                      refine lv_iload hx hb (eX11_between (147, .iload 12, 2) (List.mem_of_getElem? (i := 70) rfl)) (lv_at hl 0 rfl) ?_
                      refine ff_if_le hx hb (eX11_between (149, .ifCond .le 27, 3) (List.mem_of_getElem? (i := 71) rfl)) (tgt := 176) rfl (fun c60 => ?_) (fun c60 => ?_)
                      · skip
                        have hbm9 : bmR L ze rr t0.toInt te.toInt iv.toInt := ⟨by omega, Or.inl (by omega), hiiv⟩
                        refine lv_iload hx hb (eX11_between (176, .iload 6, 2) (List.mem_of_getElem? (i := 83) rfl)) (lv_at hl 7 rfl) ?_
                        refine ff_if_ne hx hb (eX11_between (178, .ifCond .ne 7, 3) (List.mem_of_getElem? (i := 84) rfl)) (tgt := 185) rfl (fun c61 => ?_) (fun c61 => ?_)
                        · skip
                          refine lv_lload hx hb (eX11_between (185, .lload 8, 2) (List.mem_of_getElem? (i := 88) rfl)) (lv_at hl 2 rfl) ?_
                          refine lv_iload hx hb (eX11_between (187, .iload 12, 2) (List.mem_of_getElem? (i := 89) rfl)) (lv_at hl 0 rfl) ?_
                          refine lv_lload hx hb (eX11_between (189, .lload 10, 2) (List.mem_of_getElem? (i := 90) rfl)) (lv_at hl 1 rfl) ?_
                          refine zu_S (vs := [.long v20, .int iv, .long v26]) (rest := []) hx hb hml hown hts0 zBM_B (hX2_daysApartE l cA v20 iv v26 (by omega) (by omega) (by omega) (by omega)) ⟨rfl, rfl⟩ ⟨by decide, by decide⟩ ⟨by decide, by decide⟩ (tb_6 124 rfl rfl) (tb_1 13 rfl rfl) (tb_6 122 rfl rfl) (tb_6 123 rfl rfl) (show yX2_daysApart.cls ≠ "java/lang/invoke/MethodHandle" ∧ yX2_daysApart.cls ≠ "java/lang/invoke/VarHandle" ∧ (parseMethodDescriptor yX2_daysApart.desc).map (fun d => d.parameters.length) = some 3 by decide +kernel) rfl (fun U hU hW => (hBQ.alike hW.alike).bm (D := D) (ro := ro) (by rw [hU]; exact hh0.l0)) hl.1 (Nat.le_of_ble_eq_true rfl) (eX11_between (191, .invokestatic 396, 3) (List.mem_of_getElem? (i := 91) rfl)) (fun w62 f62 => ?_)
                          obtain ⟨v62, rfl, e62⟩ := f62
                          refine lv_istore hx hb (eX11_between (194, .istore 13, 2) (List.mem_of_getElem? (i := 92) rfl)) hl (by decide) rfl (fun ls63 hl63 => ?_)
                          rw [hlm9, show v26.toInt = mtI L te.toInt + 1439 by rw [← hmmte]; omega] at e62
                          have hv9 : mtV (lmM L ze rr t0.toInt / 1440) iv.toInt := by rcases hbm9.2.1 with g9 | ⟨x9, g9, g8, -⟩; (rw [g9]; exact mtV_0 ha8 (by omega) (by omega)); exact (go_G g9 g8).1
                          obtain ⟨q9, hq9⟩ := mtG_ex hv9
                          have hr8 := e62.2.2 q9 hv9 hq9
                          have hc9 := c2_0 (t1 := te.toInt) hjL hjl.1 hWr hoA hoB hte9 hbm9.2.1 hq9
                          have lp196 : ∀ (n9 : Nat) (jw : Int32) (ls : Array Slot) (H : Heap) (lo0 : List Loc), jw.toInt ≤ (n9 : Int) → (0 ≤ jw.toInt ∧ jw.toInt ≤ 1000000000) → (∀ k9 : Int, jw.toInt < k9 → ¬ okG L ze rr t0.toInt te.toInt iv.toInt k9) → zh_ok D cA RTg ro sz H0 H lo0 → zc_kept D RTg ro yMc s.heap H → zc_kept D RTg ro kF s.heap H → jGo D cA ro H x fo zq zA zB ze lp L ru rF rT rr → (∀ p9 : Nat, p9 ∉ [ru, fo] → H[p9]? = s.heap[p9]?) → lv_has ls 14 [(13, .int jw), (12, .int iv), (10, .long v26), (8, .long v20), (7, .ref zq), (0, .ref x), (2, .long t0), (4, .long te), (6, .int w0)] → W p l e (headSpec (gW yX11_between cX11_between 14 (some .long)) { frames := 6, cells := 1, slots := 6, locals := 176 }).room s m ([.ref x, .int zi, .long t0, .long te, .int w0] : List Value).toArray below meth c H lo0 0 0 (vx_MQ below (yy_Q D cA ro sz H0 x vL (spBY zi.toInt t0.toInt te.toInt w0.toInt L (Z, R))) (yy_X D cA ro sz H0 x L (Z, R) (spBY zi.toInt t0.toInt te.toInt w0.toInt L (Z, R))) ([.ref x, .int zi, .long t0, .long te, .int w0] : List Value).toArray s 1 6 (zy_fr sz)) (F0 m 196 ls []) := by
                            intro n9
                            induction n9 with
                            | zero =>
                              intro jw ls H lo0 hjw hbjw hijw hh0 kpl kfl jgl frl hl
                              have fal := jgl.1
                              have sf64 : sfR ro [ru, rF, rT, dr, df, dt] s.heap H := fun p9 k9 hp hk hn => frl p9 (by obtain ⟨n1, -⟩ := l_n6 hn; exact l_n2 n1 (ro_ne hp rfo (by omega)))
                              have jrr64 := hclose H rr sf64 jgl.2.2.1.2.2.2.2.2 (zh_fq (frl dr (l_n2 hne.1.symm (ro_ne hdr.2.1 rfo (by decide)))) hdr.2.2.1) (zh_fq (frl dr (l_n2 hne.1.symm (ro_ne hdr.2.1 rfo (by decide)))) hdr.2.2.2.1)
                              rw [l_set hrr] at jrr64
                              have jcy64 : jCY D cA ro H x L (Z, R) := ⟨hJZ.kept hx10 kfl (by decide), jrr64⟩
                              refine lv_iload hx hb (eX11_between (196, .iload 13, 2) (List.mem_of_getElem? (i := 93) rfl)) (lv_at hl 0 rfl) ?_
                              refine ff_if_le hx hb (eX11_between (198, .ifCond .le 28, 3) (List.mem_of_getElem? (i := 94) rfl)) (tgt := 226) rfl (fun c65 => ?_) (fun c65 => (by exfalso; omega))
                              have hbd9 : bdR L ze rr t0.toInt te.toInt iv.toInt jw.toInt := ⟨by omega, Or.inl (by omega), hijw⟩
                              refine lv_iload hx hb (eX11_between (226, .iload 6, 2) (List.mem_of_getElem? (i := 106) rfl)) (lv_at hl 8 rfl) ?_
                              refine ff_iconst hx hb (eX11_between (228, .iconst 1, 1) (List.mem_of_getElem? (i := 107) rfl)) (by decide) (by decide) (fun v66 e66 => ?_)
                              refine ff_icmp_ne hx hb (eX11_between (229, .if_icmp .ne 9, 3) (List.mem_of_getElem? (i := 108) rfl)) (tgt := 238) rfl (fun c67 => ?_) (fun c67 => ?_)
                              · skip
                                refine lv_lload hx hb (eX11_between (238, .lload 4, 2) (List.mem_of_getElem? (i := 112) rfl)) (lv_at hl 7 rfl) ?_
                                refine lv_aload_n hx hb (eX11_between (240, .aload_n 0, 1) (List.mem_of_getElem? (i := 113) rfl)) rfl (lv_at hl 5 rfl) ?_
                                refine lv_aload hx hb (eX11_between (241, .aload 7, 2) (List.mem_of_getElem? (i := 114) rfl)) (lv_at hl 4 rfl) ?_
                                refine lv_lload_n hx hb (eX11_between (243, .lload_n 2, 1) (List.mem_of_getElem? (i := 115) rfl)) rfl (lv_at hl 6 rfl) ?_
                                refine lv_iload hx hb (eX11_between (244, .iload 12, 2) (List.mem_of_getElem? (i := 116) rfl)) (lv_at hl 1 rfl) ?_
                                refine lv_iload hx hb (eX11_between (246, .iload 13, 2) (List.mem_of_getElem? (i := 117) rfl)) (lv_at hl 0 rfl) ?_
                                refine tz_rowV (As := [.ref zq, .long t0, .int iv, .int jw]) (st := [.long te]) (b := x) (C := RX11) (Ts := gT) hx hb hml hown h2 (fun _ h => h) (hX11_goOnE l D cA ro sz H0 x zq t0 iv jw fo zA zB ze lp L ru rF rT rr hx10 rfo rzq hjl hoA hoB9 (by omega) (by omega) htkt0 hM9 (by omega) (by omega) hl60 hT9 hoS) ⟨rfl, rfl⟩ ⟨by decide, by decide⟩ ⟨by decide, by decide⟩ (tb_6 96 rfl rfl) (tb_1 1 rfl rfl) (tb_6 93 rfl rfl) (tb_6 95 rfl rfl) (tb_0 2 rfl rfl) (show yX11_goOn.cls ≠ "java/lang/invoke/MethodHandle" ∧ yX11_goOn.cls ≠ "java/lang/invoke/VarHandle" ∧ (parseMethodDescriptor yX11_goOn.desc).map (fun d => d.parameters.length) = some 4 by decide +kernel) zs_blindB (zs_ob hh0 hx10 (show RTg[10]? = some (0, 10, 0, fsX11) from rfl) (zCX11 hKa.1.1.1)) (fun U hU hW => ⟨rfl, by rw [hU]; exact hh0.l0, ⟨zKb s U hW.alike hKa.1.1, hBQ.alike hW.alike⟩, by rw [hU]; exact jgl⟩) hh0.2.2.1 hl.1 (Nat.le_of_ble_eq_true rfl) (eX11_between (248, .invokevirtual 374, 3) (List.mem_of_getElem? (i := 118) rfl)) (fun r68 s68 t68 lo68 g68 f68 l68 => ?_)
                                obtain ⟨v68, q68, e68, z68, c68, j68, fx68⟩ := f68
                                cases q68
                                rw [g68] at c68 fx68
                                have fr68 : ∀ p9 : Nat, p9 ∉ [ru, fo] → t68.heap[p9]? = s.heap[p9]? := fun p9 h9 => (fx68 p9 (fun q => h9 (by rcases List.mem_cons.mp q with q | q; (rw [q]; exact List.mem_cons_self); (rw [List.mem_singleton.mp q]; exact (List.mem_cons_of_mem _ List.mem_cons_self))))).trans (frl p9 h9)
                                have hh68 : zh_ok D cA RTg ro sz H0 t68.heap lo68 := ⟨z68.1, z68.2.1, l68, z68.2.2.2⟩
                                have kp68 := kpl.trans (c68.mono (ms' := yMc) (by decide))
                                have kf68 := kfl.trans (c68.mono (ms' := kF) (by decide))
                                have jg68 := j68
                                have fa68 := jg68.1
                                have sf68 : sfR ro [ru, rF, rT, dr, df, dt] s.heap t68.heap := fun p9 k9 hp hk hn => fr68 p9 (by obtain ⟨n1, -⟩ := l_n6 hn; exact l_n2 n1 (ro_ne hp rfo (by omega)))
                                have jrr68 := hclose t68.heap rr sf68 jg68.2.2.1.2.2.2.2.2 (zh_fq (fr68 dr (l_n2 hne.1.symm (ro_ne hdr.2.1 rfo (by decide)))) hdr.2.2.1) (zh_fq (fr68 dr (l_n2 hne.1.symm (ro_ne hdr.2.1 rfo (by decide)))) hdr.2.2.2.1)
                                rw [l_set hrr] at jrr68
                                have jcy68 : jCY D cA ro t68.heap x L (Z, R) := ⟨hJZ.kept hx10 kf68 (by decide), jrr68⟩
                                have e68 : goR L ze rr t0.toInt iv.toInt jw.toInt v68.toInt := e68
                                refine W.eq (g2 := F0 m 251 ls [.long v68, .long te]) rfl ?_
                                have hn9 := go_ne (t1 := te.toInt) hjL hjl.1 hWr hoA hoB htkt0 hM9 ha8 hbm9.2.1 hbd9.2.1 e68
                                have hb8 := go_b hjL hjl.1 hWr hoA hoB e68 hn9
                                refine ff_lsub hx hb (eX11_between (251, .lsub, 1) (List.mem_of_getElem? (i := 119) rfl)) (by omega) (by omega) (fun v69 e69 => ?_)
                                exact vx_ret (W.widen (k := 1) (n := 6) (Nat.zero_le _) (Nat.zero_le _) (W.lret hx hb hr (fun t ht hW => ⟨_, _, ro, L, (Z, R), rfl, ⟨_, rfl, rfl⟩, fun _ _ h => h, by rw [ht]; exact hh68.l0, by rw [ht]; exact kp68, by rw [ht]; exact jcy68, rfl, rfl, Or.inr ⟨rfl, hgb9, ze, rr, hze, hrr, iv.toInt, hbm9, Or.inr (Or.inr ⟨by omega, _, _, hbd9, e68, by omega⟩)⟩⟩) hh68.2.2.1 (eX11_between (252, .lreturn, 1) (List.mem_of_getElem? (i := 120) rfl))))
                              · skip
                                refine lv_iload hx hb (eX11_between (232, .iload 13, 2) (List.mem_of_getElem? (i := 109) rfl)) (lv_at hl 0 rfl) ?_
                                refine ff_i2l hx hb (eX11_between (234, .i2l, 1) (List.mem_of_getElem? (i := 110) rfl)) (fun v70 e70 => ?_)
                                refine lv_goto hx hb (eX11_between (235, .goto 17, 3) (List.mem_of_getElem? (i := 111) rfl)) (tgt := 252) rfl ?_
                                exact vx_ret (W.widen (k := 1) (n := 6) (Nat.zero_le _) (Nat.zero_le _) (W.lret hx hb hr (fun t ht hW => ⟨_, _, ro, L, (Z, R), rfl, ⟨_, rfl, rfl⟩, fun _ _ h => h, by rw [ht]; exact hh0.l0, by rw [ht]; exact kpl, by rw [ht]; exact jcy64, rfl, rfl, Or.inr ⟨rfl, hgb9, ze, rr, hze, hrr, iv.toInt, hbm9, Or.inr (Or.inl ⟨by omega, by rw [show v70.toInt = jw.toInt by omega]; exact hbd9⟩)⟩⟩) hh0.2.2.1 (eX11_between (252, .lreturn, 1) (List.mem_of_getElem? (i := 120) rfl))))
                            | succ n9 ihjw =>
                              intro jw ls H lo0 hjw hbjw hijw hh0 kpl kfl jgl frl hl
                              have fal := jgl.1
                              have sf71 : sfR ro [ru, rF, rT, dr, df, dt] s.heap H := fun p9 k9 hp hk hn => frl p9 (by obtain ⟨n1, -⟩ := l_n6 hn; exact l_n2 n1 (ro_ne hp rfo (by omega)))
                              have jrr71 := hclose H rr sf71 jgl.2.2.1.2.2.2.2.2 (zh_fq (frl dr (l_n2 hne.1.symm (ro_ne hdr.2.1 rfo (by decide)))) hdr.2.2.1) (zh_fq (frl dr (l_n2 hne.1.symm (ro_ne hdr.2.1 rfo (by decide)))) hdr.2.2.2.1)
                              rw [l_set hrr] at jrr71
                              have jcy71 : jCY D cA ro H x L (Z, R) := ⟨hJZ.kept hx10 kfl (by decide), jrr71⟩
                              refine lv_iload hx hb (eX11_between (196, .iload 13, 2) (List.mem_of_getElem? (i := 93) rfl)) (lv_at hl 0 rfl) ?_
                              refine ff_if_le hx hb (eX11_between (198, .ifCond .le 28, 3) (List.mem_of_getElem? (i := 94) rfl)) (tgt := 226) rfl (fun c72 => ?_) (fun c72 => ?_)
                              · skip
                                have hbd9 : bdR L ze rr t0.toInt te.toInt iv.toInt jw.toInt := ⟨by omega, Or.inl (by omega), hijw⟩
                                refine lv_iload hx hb (eX11_between (226, .iload 6, 2) (List.mem_of_getElem? (i := 106) rfl)) (lv_at hl 8 rfl) ?_
                                refine ff_iconst hx hb (eX11_between (228, .iconst 1, 1) (List.mem_of_getElem? (i := 107) rfl)) (by decide) (by decide) (fun v73 e73 => ?_)
                                refine ff_icmp_ne hx hb (eX11_between (229, .if_icmp .ne 9, 3) (List.mem_of_getElem? (i := 108) rfl)) (tgt := 238) rfl (fun c74 => ?_) (fun c74 => ?_)
                                · skip
                                  refine lv_lload hx hb (eX11_between (238, .lload 4, 2) (List.mem_of_getElem? (i := 112) rfl)) (lv_at hl 7 rfl) ?_
                                  refine lv_aload_n hx hb (eX11_between (240, .aload_n 0, 1) (List.mem_of_getElem? (i := 113) rfl)) rfl (lv_at hl 5 rfl) ?_
                                  refine lv_aload hx hb (eX11_between (241, .aload 7, 2) (List.mem_of_getElem? (i := 114) rfl)) (lv_at hl 4 rfl) ?_
                                  refine lv_lload_n hx hb (eX11_between (243, .lload_n 2, 1) (List.mem_of_getElem? (i := 115) rfl)) rfl (lv_at hl 6 rfl) ?_
                                  refine lv_iload hx hb (eX11_between (244, .iload 12, 2) (List.mem_of_getElem? (i := 116) rfl)) (lv_at hl 1 rfl) ?_
                                  refine lv_iload hx hb (eX11_between (246, .iload 13, 2) (List.mem_of_getElem? (i := 117) rfl)) (lv_at hl 0 rfl) ?_
                                  refine tz_rowV (As := [.ref zq, .long t0, .int iv, .int jw]) (st := [.long te]) (b := x) (C := RX11) (Ts := gT) hx hb hml hown h2 (fun _ h => h) (hX11_goOnE l D cA ro sz H0 x zq t0 iv jw fo zA zB ze lp L ru rF rT rr hx10 rfo rzq hjl hoA hoB9 (by omega) (by omega) htkt0 hM9 (by omega) (by omega) hl60 hT9 hoS) ⟨rfl, rfl⟩ ⟨by decide, by decide⟩ ⟨by decide, by decide⟩ (tb_6 96 rfl rfl) (tb_1 1 rfl rfl) (tb_6 93 rfl rfl) (tb_6 95 rfl rfl) (tb_0 2 rfl rfl) (show yX11_goOn.cls ≠ "java/lang/invoke/MethodHandle" ∧ yX11_goOn.cls ≠ "java/lang/invoke/VarHandle" ∧ (parseMethodDescriptor yX11_goOn.desc).map (fun d => d.parameters.length) = some 4 by decide +kernel) zs_blindB (zs_ob hh0 hx10 (show RTg[10]? = some (0, 10, 0, fsX11) from rfl) (zCX11 hKa.1.1.1)) (fun U hU hW => ⟨rfl, by rw [hU]; exact hh0.l0, ⟨zKb s U hW.alike hKa.1.1, hBQ.alike hW.alike⟩, by rw [hU]; exact jgl⟩) hh0.2.2.1 hl.1 (Nat.le_of_ble_eq_true rfl) (eX11_between (248, .invokevirtual 374, 3) (List.mem_of_getElem? (i := 118) rfl)) (fun r75 s75 t75 lo75 g75 f75 l75 => ?_)
                                  obtain ⟨v75, q75, e75, z75, c75, j75, fx75⟩ := f75
                                  cases q75
                                  rw [g75] at c75 fx75
                                  have fr75 : ∀ p9 : Nat, p9 ∉ [ru, fo] → t75.heap[p9]? = s.heap[p9]? := fun p9 h9 => (fx75 p9 (fun q => h9 (by rcases List.mem_cons.mp q with q | q; (rw [q]; exact List.mem_cons_self); (rw [List.mem_singleton.mp q]; exact (List.mem_cons_of_mem _ List.mem_cons_self))))).trans (frl p9 h9)
                                  have hh75 : zh_ok D cA RTg ro sz H0 t75.heap lo75 := ⟨z75.1, z75.2.1, l75, z75.2.2.2⟩
                                  have kp75 := kpl.trans (c75.mono (ms' := yMc) (by decide))
                                  have kf75 := kfl.trans (c75.mono (ms' := kF) (by decide))
                                  have jg75 := j75
                                  have fa75 := jg75.1
                                  have sf75 : sfR ro [ru, rF, rT, dr, df, dt] s.heap t75.heap := fun p9 k9 hp hk hn => fr75 p9 (by obtain ⟨n1, -⟩ := l_n6 hn; exact l_n2 n1 (ro_ne hp rfo (by omega)))
                                  have jrr75 := hclose t75.heap rr sf75 jg75.2.2.1.2.2.2.2.2 (zh_fq (fr75 dr (l_n2 hne.1.symm (ro_ne hdr.2.1 rfo (by decide)))) hdr.2.2.1) (zh_fq (fr75 dr (l_n2 hne.1.symm (ro_ne hdr.2.1 rfo (by decide)))) hdr.2.2.2.1)
                                  rw [l_set hrr] at jrr75
                                  have jcy75 : jCY D cA ro t75.heap x L (Z, R) := ⟨hJZ.kept hx10 kf75 (by decide), jrr75⟩
                                  have e75 : goR L ze rr t0.toInt iv.toInt jw.toInt v75.toInt := e75
                                  refine W.eq (g2 := F0 m 251 ls [.long v75, .long te]) rfl ?_
                                  have hn9 := go_ne (t1 := te.toInt) hjL hjl.1 hWr hoA hoB htkt0 hM9 ha8 hbm9.2.1 hbd9.2.1 e75
                                  have hb8 := go_b hjL hjl.1 hWr hoA hoB e75 hn9
                                  refine ff_lsub hx hb (eX11_between (251, .lsub, 1) (List.mem_of_getElem? (i := 119) rfl)) (by omega) (by omega) (fun v76 e76 => ?_)
                                  exact vx_ret (W.widen (k := 1) (n := 6) (Nat.zero_le _) (Nat.zero_le _) (W.lret hx hb hr (fun t ht hW => ⟨_, _, ro, L, (Z, R), rfl, ⟨_, rfl, rfl⟩, fun _ _ h => h, by rw [ht]; exact hh75.l0, by rw [ht]; exact kp75, by rw [ht]; exact jcy75, rfl, rfl, Or.inr ⟨rfl, hgb9, ze, rr, hze, hrr, iv.toInt, hbm9, Or.inr (Or.inr ⟨by omega, _, _, hbd9, e75, by omega⟩)⟩⟩) hh75.2.2.1 (eX11_between (252, .lreturn, 1) (List.mem_of_getElem? (i := 120) rfl))))
                                · skip
                                  refine lv_iload hx hb (eX11_between (232, .iload 13, 2) (List.mem_of_getElem? (i := 109) rfl)) (lv_at hl 0 rfl) ?_
                                  refine ff_i2l hx hb (eX11_between (234, .i2l, 1) (List.mem_of_getElem? (i := 110) rfl)) (fun v77 e77 => ?_)
                                  refine lv_goto hx hb (eX11_between (235, .goto 17, 3) (List.mem_of_getElem? (i := 111) rfl)) (tgt := 252) rfl ?_
                                  exact vx_ret (W.widen (k := 1) (n := 6) (Nat.zero_le _) (Nat.zero_le _) (W.lret hx hb hr (fun t ht hW => ⟨_, _, ro, L, (Z, R), rfl, ⟨_, rfl, rfl⟩, fun _ _ h => h, by rw [ht]; exact hh0.l0, by rw [ht]; exact kpl, by rw [ht]; exact jcy71, rfl, rfl, Or.inr ⟨rfl, hgb9, ze, rr, hze, hrr, iv.toInt, hbm9, Or.inr (Or.inl ⟨by omega, by rw [show v77.toInt = jw.toInt by omega]; exact hbd9⟩)⟩⟩) hh0.2.2.1 (eX11_between (252, .lreturn, 1) (List.mem_of_getElem? (i := 120) rfl))))
                              · skip
                                refine lv_aload_n hx hb (eX11_between (201, .aload_n 0, 1) (List.mem_of_getElem? (i := 95) rfl)) rfl (lv_at hl 5 rfl) ?_
                                refine lv_aload hx hb (eX11_between (202, .aload 7, 2) (List.mem_of_getElem? (i := 96) rfl)) (lv_at hl 4 rfl) ?_
                                refine lv_lload_n hx hb (eX11_between (204, .lload_n 2, 1) (List.mem_of_getElem? (i := 97) rfl)) rfl (lv_at hl 6 rfl) ?_
                                refine lv_iload hx hb (eX11_between (205, .iload 12, 2) (List.mem_of_getElem? (i := 98) rfl)) (lv_at hl 1 rfl) ?_
                                refine lv_iload hx hb (eX11_between (207, .iload 13, 2) (List.mem_of_getElem? (i := 99) rfl)) (lv_at hl 0 rfl) ?_
                                refine tz_rowV (As := [.ref zq, .long t0, .int iv, .int jw]) (st := []) (b := x) (C := RX11) (Ts := gT) hx hb hml hown h2 (fun _ h => h) (hX11_goOnE l D cA ro sz H0 x zq t0 iv jw fo zA zB ze lp L ru rF rT rr hx10 rfo rzq hjl hoA hoB9 (by omega) (by omega) htkt0 hM9 (by omega) (by omega) hl60 hT9 hoS) ⟨rfl, rfl⟩ ⟨by decide, by decide⟩ ⟨by decide, by decide⟩ (tb_6 96 rfl rfl) (tb_1 1 rfl rfl) (tb_6 93 rfl rfl) (tb_6 95 rfl rfl) (tb_0 2 rfl rfl) (show yX11_goOn.cls ≠ "java/lang/invoke/MethodHandle" ∧ yX11_goOn.cls ≠ "java/lang/invoke/VarHandle" ∧ (parseMethodDescriptor yX11_goOn.desc).map (fun d => d.parameters.length) = some 4 by decide +kernel) zs_blindB (zs_ob hh0 hx10 (show RTg[10]? = some (0, 10, 0, fsX11) from rfl) (zCX11 hKa.1.1.1)) (fun U hU hW => ⟨rfl, by rw [hU]; exact hh0.l0, ⟨zKb s U hW.alike hKa.1.1, hBQ.alike hW.alike⟩, by rw [hU]; exact jgl⟩) hh0.2.2.1 hl.1 (Nat.le_of_ble_eq_true rfl) (eX11_between (209, .invokevirtual 374, 3) (List.mem_of_getElem? (i := 100) rfl)) (fun r78 s78 t78 lo78 g78 f78 l78 => ?_)
                                obtain ⟨v78, q78, e78, z78, c78, j78, fx78⟩ := f78
                                cases q78
                                rw [g78] at c78 fx78
                                have fr78 : ∀ p9 : Nat, p9 ∉ [ru, fo] → t78.heap[p9]? = s.heap[p9]? := fun p9 h9 => (fx78 p9 (fun q => h9 (by rcases List.mem_cons.mp q with q | q; (rw [q]; exact List.mem_cons_self); (rw [List.mem_singleton.mp q]; exact (List.mem_cons_of_mem _ List.mem_cons_self))))).trans (frl p9 h9)
                                have hh78 : zh_ok D cA RTg ro sz H0 t78.heap lo78 := ⟨z78.1, z78.2.1, l78, z78.2.2.2⟩
                                have kp78 := kpl.trans (c78.mono (ms' := yMc) (by decide))
                                have kf78 := kfl.trans (c78.mono (ms' := kF) (by decide))
                                have jg78 := j78
                                have fa78 := jg78.1
                                have sf78 : sfR ro [ru, rF, rT, dr, df, dt] s.heap t78.heap := fun p9 k9 hp hk hn => fr78 p9 (by obtain ⟨n1, -⟩ := l_n6 hn; exact l_n2 n1 (ro_ne hp rfo (by omega)))
                                have jrr78 := hclose t78.heap rr sf78 jg78.2.2.1.2.2.2.2.2 (zh_fq (fr78 dr (l_n2 hne.1.symm (ro_ne hdr.2.1 rfo (by decide)))) hdr.2.2.1) (zh_fq (fr78 dr (l_n2 hne.1.symm (ro_ne hdr.2.1 rfo (by decide)))) hdr.2.2.2.1)
                                rw [l_set hrr] at jrr78
                                have jcy78 : jCY D cA ro t78.heap x L (Z, R) := ⟨hJZ.kept hx10 kf78 (by decide), jrr78⟩
                                have e78 : goR L ze rr t0.toInt iv.toInt jw.toInt v78.toInt := e78
                                refine W.eq (g2 := F0 m 212 ls [.long v78]) rfl ?_
                                refine lv_lload hx hb (eX11_between (212, .lload 4, 2) (List.mem_of_getElem? (i := 101) rfl)) (lv_at hl 7 rfl) ?_
                                refine zu_S (vs := [.long v78, .long te]) (rest := []) hx hb hml hown hts0 zu_BT (hX11_comesBehindE l v78 te) ⟨rfl, rfl⟩ ⟨by decide, by decide⟩ ⟨by decide, by decide⟩ (tb_6 121 rfl rfl) (tb_1 1 rfl rfl) (tb_6 119 rfl rfl) (tb_6 120 rfl rfl) (show yX11_comesBehind.cls ≠ "java/lang/invoke/MethodHandle" ∧ yX11_comesBehind.cls ≠ "java/lang/invoke/VarHandle" ∧ (parseMethodDescriptor yX11_comesBehind.desc).map (fun d => d.parameters.length) = some 2 by decide +kernel) rfl (fun _ _ _ => trivial) hl.1 (Nat.le_of_ble_eq_true rfl) (eX11_between (214, .invokestatic 392, 3) (List.mem_of_getElem? (i := 102) rfl)) (fun w79 f79 => ?_)
                                obtain ⟨v79, rfl, e79⟩ := f79
                                refine ff_if_eq hx hb (eX11_between (217, .ifCond .eq 9, 3) (List.mem_of_getElem? (i := 103) rfl)) (tgt := 226) rfl (fun c80 => ?_) (fun c80 => ?_)
                                · skip
                                  have hbd9 : bdR L ze rr t0.toInt te.toInt iv.toInt jw.toInt := ⟨by omega, Or.inr ⟨v78.toInt, e78, by unfold NONEI; omega, by omega⟩, hijw⟩
                                  refine lv_iload hx hb (eX11_between (226, .iload 6, 2) (List.mem_of_getElem? (i := 106) rfl)) (lv_at hl 8 rfl) ?_
                                  refine ff_iconst hx hb (eX11_between (228, .iconst 1, 1) (List.mem_of_getElem? (i := 107) rfl)) (by decide) (by decide) (fun v81 e81 => ?_)
                                  refine ff_icmp_ne hx hb (eX11_between (229, .if_icmp .ne 9, 3) (List.mem_of_getElem? (i := 108) rfl)) (tgt := 238) rfl (fun c82 => ?_) (fun c82 => ?_)
                                  · skip
                                    refine lv_lload hx hb (eX11_between (238, .lload 4, 2) (List.mem_of_getElem? (i := 112) rfl)) (lv_at hl 7 rfl) ?_
                                    refine lv_aload_n hx hb (eX11_between (240, .aload_n 0, 1) (List.mem_of_getElem? (i := 113) rfl)) rfl (lv_at hl 5 rfl) ?_
                                    refine lv_aload hx hb (eX11_between (241, .aload 7, 2) (List.mem_of_getElem? (i := 114) rfl)) (lv_at hl 4 rfl) ?_
                                    refine lv_lload_n hx hb (eX11_between (243, .lload_n 2, 1) (List.mem_of_getElem? (i := 115) rfl)) rfl (lv_at hl 6 rfl) ?_
                                    refine lv_iload hx hb (eX11_between (244, .iload 12, 2) (List.mem_of_getElem? (i := 116) rfl)) (lv_at hl 1 rfl) ?_
                                    refine lv_iload hx hb (eX11_between (246, .iload 13, 2) (List.mem_of_getElem? (i := 117) rfl)) (lv_at hl 0 rfl) ?_
                                    refine tz_rowV (As := [.ref zq, .long t0, .int iv, .int jw]) (st := [.long te]) (b := x) (C := RX11) (Ts := gT) hx hb hml hown h2 (fun _ h => h) (hX11_goOnE l D cA ro sz H0 x zq t0 iv jw fo zA zB ze lp L ru rF rT rr hx10 rfo rzq hjl hoA hoB9 (by omega) (by omega) htkt0 hM9 (by omega) (by omega) hl60 hT9 hoS) ⟨rfl, rfl⟩ ⟨by decide, by decide⟩ ⟨by decide, by decide⟩ (tb_6 96 rfl rfl) (tb_1 1 rfl rfl) (tb_6 93 rfl rfl) (tb_6 95 rfl rfl) (tb_0 2 rfl rfl) (show yX11_goOn.cls ≠ "java/lang/invoke/MethodHandle" ∧ yX11_goOn.cls ≠ "java/lang/invoke/VarHandle" ∧ (parseMethodDescriptor yX11_goOn.desc).map (fun d => d.parameters.length) = some 4 by decide +kernel) zs_blindB (zs_ob hh78 hx10 (show RTg[10]? = some (0, 10, 0, fsX11) from rfl) (zCX11 hKa.1.1.1)) (fun U hU hW => ⟨rfl, by rw [hU]; exact hh78.l0, ⟨zKb s U hW.alike hKa.1.1, hBQ.alike hW.alike⟩, by rw [hU]; exact jg78⟩) hh78.2.2.1 hl.1 (Nat.le_of_ble_eq_true rfl) (eX11_between (248, .invokevirtual 374, 3) (List.mem_of_getElem? (i := 118) rfl)) (fun r83 s83 t83 lo83 g83 f83 l83 => ?_)
                                    obtain ⟨v83, q83, e83, z83, c83, j83, fx83⟩ := f83
                                    cases q83
                                    rw [g83] at c83 fx83
                                    have fr83 : ∀ p9 : Nat, p9 ∉ [ru, fo] → t83.heap[p9]? = s.heap[p9]? := fun p9 h9 => (fx83 p9 (fun q => h9 (by rcases List.mem_cons.mp q with q | q; (rw [q]; exact List.mem_cons_self); (rw [List.mem_singleton.mp q]; exact (List.mem_cons_of_mem _ List.mem_cons_self))))).trans (fr78 p9 h9)
                                    have hh83 : zh_ok D cA RTg ro sz H0 t83.heap lo83 := ⟨z83.1, z83.2.1, l83, z83.2.2.2⟩
                                    have kp83 := kp78.trans (c83.mono (ms' := yMc) (by decide))
                                    have kf83 := kf78.trans (c83.mono (ms' := kF) (by decide))
                                    have jg83 := j83
                                    have fa83 := jg83.1
                                    have sf83 : sfR ro [ru, rF, rT, dr, df, dt] s.heap t83.heap := fun p9 k9 hp hk hn => fr83 p9 (by obtain ⟨n1, -⟩ := l_n6 hn; exact l_n2 n1 (ro_ne hp rfo (by omega)))
                                    have jrr83 := hclose t83.heap rr sf83 jg83.2.2.1.2.2.2.2.2 (zh_fq (fr83 dr (l_n2 hne.1.symm (ro_ne hdr.2.1 rfo (by decide)))) hdr.2.2.1) (zh_fq (fr83 dr (l_n2 hne.1.symm (ro_ne hdr.2.1 rfo (by decide)))) hdr.2.2.2.1)
                                    rw [l_set hrr] at jrr83
                                    have jcy83 : jCY D cA ro t83.heap x L (Z, R) := ⟨hJZ.kept hx10 kf83 (by decide), jrr83⟩
                                    have e83 : goR L ze rr t0.toInt iv.toInt jw.toInt v83.toInt := e83
                                    refine W.eq (g2 := F0 m 251 ls [.long v83, .long te]) rfl ?_
                                    have hn9 := go_ne (t1 := te.toInt) hjL hjl.1 hWr hoA hoB htkt0 hM9 ha8 hbm9.2.1 hbd9.2.1 e83
                                    have hb8 := go_b hjL hjl.1 hWr hoA hoB e83 hn9
                                    refine ff_lsub hx hb (eX11_between (251, .lsub, 1) (List.mem_of_getElem? (i := 119) rfl)) (by omega) (by omega) (fun v84 e84 => ?_)
                                    exact vx_ret (W.widen (k := 1) (n := 6) (Nat.zero_le _) (Nat.zero_le _) (W.lret hx hb hr (fun t ht hW => ⟨_, _, ro, L, (Z, R), rfl, ⟨_, rfl, rfl⟩, fun _ _ h => h, by rw [ht]; exact hh83.l0, by rw [ht]; exact kp83, by rw [ht]; exact jcy83, rfl, rfl, Or.inr ⟨rfl, hgb9, ze, rr, hze, hrr, iv.toInt, hbm9, Or.inr (Or.inr ⟨by omega, _, _, hbd9, e83, by omega⟩)⟩⟩) hh83.2.2.1 (eX11_between (252, .lreturn, 1) (List.mem_of_getElem? (i := 120) rfl))))
                                  · skip
                                    refine lv_iload hx hb (eX11_between (232, .iload 13, 2) (List.mem_of_getElem? (i := 109) rfl)) (lv_at hl 0 rfl) ?_
                                    refine ff_i2l hx hb (eX11_between (234, .i2l, 1) (List.mem_of_getElem? (i := 110) rfl)) (fun v85 e85 => ?_)
                                    refine lv_goto hx hb (eX11_between (235, .goto 17, 3) (List.mem_of_getElem? (i := 111) rfl)) (tgt := 252) rfl ?_
                                    exact vx_ret (W.widen (k := 1) (n := 6) (Nat.zero_le _) (Nat.zero_le _) (W.lret hx hb hr (fun t ht hW => ⟨_, _, ro, L, (Z, R), rfl, ⟨_, rfl, rfl⟩, fun _ _ h => h, by rw [ht]; exact hh78.l0, by rw [ht]; exact kp78, by rw [ht]; exact jcy78, rfl, rfl, Or.inr ⟨rfl, hgb9, ze, rr, hze, hrr, iv.toInt, hbm9, Or.inr (Or.inl ⟨by omega, by rw [show v85.toInt = jw.toInt by omega]; exact hbd9⟩)⟩⟩) hh78.2.2.1 (eX11_between (252, .lreturn, 1) (List.mem_of_getElem? (i := 120) rfl))))
                                · skip
                                  refine ff_iinc (k := 0) hx hb (eX11_between (220, .iinc 13 (-1), 3) (List.mem_of_getElem? (i := 104) rfl)) hl rfl (by decide) (by decide) (by decide) (by omega) (by omega) (fun v86 e86 ls86 hl86 => ?_)
                                  refine lv_goto hx hb (eX11_between (223, .goto (-27), 3) (List.mem_of_getElem? (i := 105) rfl)) (tgt := 196) rfl ?_
                                  have hno9 : ¬ okG L ze rr t0.toInt te.toInt iv.toInt jw.toInt := fun g9 => by obtain ⟨x9, h7, h6, h5⟩ := g9; have h9 := e78; have h4 := goR_one h7 h9; unfold NONEI at h6; omega
                                  exact ihjw v86 ls86 _ _ (by omega) (by omega) (fun k9 hk9 => by by_cases e9 : k9 = jw.toInt; (rw [e9]; exact hno9); exact hijw k9 (by omega)) hh78 kp78 kf78 jg78 fr78 (lv_sub hl86 [0, 1, 2, 3, 4, 5, 6, 7, 8] rfl)
                          exact lp196 v62.toInt.toNat v62 ls63 _ _ (by omega) (by omega) (fun k9 hk9 => c2_no hjL hjl.1 hWr hoA hoB hq9 (by omega)) hh0 kpl kfl jgl frl (lv_sub hl63 [0, 1, 2, 3, 4, 5, 6, 7, 8] rfl)
                        · skip
                          refine lv_iload hx hb (eX11_between (181, .iload 12, 2) (List.mem_of_getElem? (i := 85) rfl)) (lv_at hl 0 rfl) ?_
                          refine ff_i2l hx hb (eX11_between (183, .i2l, 1) (List.mem_of_getElem? (i := 86) rfl)) (fun v87 e87 => ?_)
                          exact vx_ret (W.widen (k := 1) (n := 6) (Nat.zero_le _) (Nat.zero_le _) (W.lret hx hb hr (fun t ht hW => ⟨_, _, ro, L, (Z, R), rfl, ⟨_, rfl, rfl⟩, fun _ _ h => h, by rw [ht]; exact hh0.l0, by rw [ht]; exact kpl, by rw [ht]; exact jcy59, rfl, rfl, Or.inr ⟨rfl, hgb9, ze, rr, hze, hrr, iv.toInt, hbm9, Or.inl ⟨by omega, by omega⟩⟩⟩) hh0.2.2.1 (eX11_between (184, .lreturn, 1) (List.mem_of_getElem? (i := 87) rfl))))
                      · skip
                        refine lv_aload_n hx hb (eX11_between (152, .aload_n 0, 1) (List.mem_of_getElem? (i := 72) rfl)) rfl (lv_at hl 4 rfl) ?_
                        refine lv_aload hx hb (eX11_between (153, .aload 7, 2) (List.mem_of_getElem? (i := 73) rfl)) (lv_at hl 3 rfl) ?_
                        refine lv_lload_n hx hb (eX11_between (155, .lload_n 2, 1) (List.mem_of_getElem? (i := 74) rfl)) rfl (lv_at hl 5 rfl) ?_
                        refine lv_iload hx hb (eX11_between (156, .iload 12, 2) (List.mem_of_getElem? (i := 75) rfl)) (lv_at hl 0 rfl) ?_
                        refine ff_iconst hx hb (eX11_between (158, .iconst 0, 1) (List.mem_of_getElem? (i := 76) rfl)) (by decide) (by decide) (fun v88 e88 => ?_)
                        refine tz_rowV (As := [.ref zq, .long t0, .int iv, .int v88]) (st := []) (b := x) (C := RX11) (Ts := gT) hx hb hml hown h2 (fun _ h => h) (hX11_goOnE l D cA ro sz H0 x zq t0 iv v88 fo zA zB ze lp L ru rF rT rr hx10 rfo rzq hjl hoA hoB9 (by omega) (by omega) htkt0 hM9 (by omega) (by omega) hl60 hT9 hoS) ⟨rfl, rfl⟩ ⟨by decide, by decide⟩ ⟨by decide, by decide⟩ (tb_6 96 rfl rfl) (tb_1 1 rfl rfl) (tb_6 93 rfl rfl) (tb_6 95 rfl rfl) (tb_0 2 rfl rfl) (show yX11_goOn.cls ≠ "java/lang/invoke/MethodHandle" ∧ yX11_goOn.cls ≠ "java/lang/invoke/VarHandle" ∧ (parseMethodDescriptor yX11_goOn.desc).map (fun d => d.parameters.length) = some 4 by decide +kernel) zs_blindB (zs_ob hh0 hx10 (show RTg[10]? = some (0, 10, 0, fsX11) from rfl) (zCX11 hKa.1.1.1)) (fun U hU hW => ⟨rfl, by rw [hU]; exact hh0.l0, ⟨zKb s U hW.alike hKa.1.1, hBQ.alike hW.alike⟩, by rw [hU]; exact jgl⟩) hh0.2.2.1 hl.1 (Nat.le_of_ble_eq_true rfl) (eX11_between (159, .invokevirtual 374, 3) (List.mem_of_getElem? (i := 77) rfl)) (fun r89 s89 t89 lo89 g89 f89 l89 => ?_)
                        obtain ⟨v89, q89, e89, z89, c89, j89, fx89⟩ := f89
                        cases q89
                        rw [g89] at c89 fx89
                        have fr89 : ∀ p9 : Nat, p9 ∉ [ru, fo] → t89.heap[p9]? = s.heap[p9]? := fun p9 h9 => (fx89 p9 (fun q => h9 (by rcases List.mem_cons.mp q with q | q; (rw [q]; exact List.mem_cons_self); (rw [List.mem_singleton.mp q]; exact (List.mem_cons_of_mem _ List.mem_cons_self))))).trans (frl p9 h9)
                        have hh89 : zh_ok D cA RTg ro sz H0 t89.heap lo89 := ⟨z89.1, z89.2.1, l89, z89.2.2.2⟩
                        have kp89 := kpl.trans (c89.mono (ms' := yMc) (by decide))
                        have kf89 := kfl.trans (c89.mono (ms' := kF) (by decide))
                        have jg89 := j89
                        have fa89 := jg89.1
                        have sf89 : sfR ro [ru, rF, rT, dr, df, dt] s.heap t89.heap := fun p9 k9 hp hk hn => fr89 p9 (by obtain ⟨n1, -⟩ := l_n6 hn; exact l_n2 n1 (ro_ne hp rfo (by omega)))
                        have jrr89 := hclose t89.heap rr sf89 jg89.2.2.1.2.2.2.2.2 (zh_fq (fr89 dr (l_n2 hne.1.symm (ro_ne hdr.2.1 rfo (by decide)))) hdr.2.2.1) (zh_fq (fr89 dr (l_n2 hne.1.symm (ro_ne hdr.2.1 rfo (by decide)))) hdr.2.2.2.1)
                        rw [l_set hrr] at jrr89
                        have jcy89 : jCY D cA ro t89.heap x L (Z, R) := ⟨hJZ.kept hx10 kf89 (by decide), jrr89⟩
                        have e89 : goR L ze rr t0.toInt iv.toInt v88.toInt v89.toInt := e89
                        refine W.eq (g2 := F0 m 162 ls [.long v89]) rfl ?_
                        refine lv_lload hx hb (eX11_between (162, .lload 4, 2) (List.mem_of_getElem? (i := 78) rfl)) (lv_at hl 6 rfl) ?_
                        refine zu_S (vs := [.long v89, .long te]) (rest := []) hx hb hml hown hts0 zu_BT (hX11_comesBehindE l v89 te) ⟨rfl, rfl⟩ ⟨by decide, by decide⟩ ⟨by decide, by decide⟩ (tb_6 121 rfl rfl) (tb_1 1 rfl rfl) (tb_6 119 rfl rfl) (tb_6 120 rfl rfl) (show yX11_comesBehind.cls ≠ "java/lang/invoke/MethodHandle" ∧ yX11_comesBehind.cls ≠ "java/lang/invoke/VarHandle" ∧ (parseMethodDescriptor yX11_comesBehind.desc).map (fun d => d.parameters.length) = some 2 by decide +kernel) rfl (fun _ _ _ => trivial) hl.1 (Nat.le_of_ble_eq_true rfl) (eX11_between (164, .invokestatic 392, 3) (List.mem_of_getElem? (i := 79) rfl)) (fun w90 f90 => ?_)
                        obtain ⟨v90, rfl, e90⟩ := f90
                        refine ff_if_eq hx hb (eX11_between (167, .ifCond .eq 9, 3) (List.mem_of_getElem? (i := 80) rfl)) (tgt := 176) rfl (fun c91 => ?_) (fun c91 => ?_)
                        · skip
                          have hbm9 : bmR L ze rr t0.toInt te.toInt iv.toInt := ⟨by omega, Or.inr ⟨v89.toInt, by have h9 := e89; rw [show v88.toInt = 0 by omega] at h9; exact h9, by unfold NONEI; omega, by omega⟩, hiiv⟩
                          refine lv_iload hx hb (eX11_between (176, .iload 6, 2) (List.mem_of_getElem? (i := 83) rfl)) (lv_at hl 7 rfl) ?_
                          refine ff_if_ne hx hb (eX11_between (178, .ifCond .ne 7, 3) (List.mem_of_getElem? (i := 84) rfl)) (tgt := 185) rfl (fun c92 => ?_) (fun c92 => ?_)
                          · skip
                            refine lv_lload hx hb (eX11_between (185, .lload 8, 2) (List.mem_of_getElem? (i := 88) rfl)) (lv_at hl 2 rfl) ?_
                            refine lv_iload hx hb (eX11_between (187, .iload 12, 2) (List.mem_of_getElem? (i := 89) rfl)) (lv_at hl 0 rfl) ?_
                            refine lv_lload hx hb (eX11_between (189, .lload 10, 2) (List.mem_of_getElem? (i := 90) rfl)) (lv_at hl 1 rfl) ?_
                            refine zu_S (vs := [.long v20, .int iv, .long v26]) (rest := []) hx hb hml hown hts0 zBM_B (hX2_daysApartE l cA v20 iv v26 (by omega) (by omega) (by omega) (by omega)) ⟨rfl, rfl⟩ ⟨by decide, by decide⟩ ⟨by decide, by decide⟩ (tb_6 124 rfl rfl) (tb_1 13 rfl rfl) (tb_6 122 rfl rfl) (tb_6 123 rfl rfl) (show yX2_daysApart.cls ≠ "java/lang/invoke/MethodHandle" ∧ yX2_daysApart.cls ≠ "java/lang/invoke/VarHandle" ∧ (parseMethodDescriptor yX2_daysApart.desc).map (fun d => d.parameters.length) = some 3 by decide +kernel) rfl (fun U hU hW => (hBQ.alike hW.alike).bm (D := D) (ro := ro) (by rw [hU]; exact hh89.l0)) hl.1 (Nat.le_of_ble_eq_true rfl) (eX11_between (191, .invokestatic 396, 3) (List.mem_of_getElem? (i := 91) rfl)) (fun w93 f93 => ?_)
                            obtain ⟨v93, rfl, e93⟩ := f93
                            refine lv_istore hx hb (eX11_between (194, .istore 13, 2) (List.mem_of_getElem? (i := 92) rfl)) hl (by decide) rfl (fun ls94 hl94 => ?_)
                            rw [hlm9, show v26.toInt = mtI L te.toInt + 1439 by rw [← hmmte]; omega] at e93
                            have hv9 : mtV (lmM L ze rr t0.toInt / 1440) iv.toInt := by rcases hbm9.2.1 with g9 | ⟨x9, g9, g8, -⟩; (rw [g9]; exact mtV_0 ha8 (by omega) (by omega)); exact (go_G g9 g8).1
                            obtain ⟨q9, hq9⟩ := mtG_ex hv9
                            have hr8 := e93.2.2 q9 hv9 hq9
                            have hc9 := c2_0 (t1 := te.toInt) hjL hjl.1 hWr hoA hoB hte9 hbm9.2.1 hq9
                            have lp196 : ∀ (n9 : Nat) (jw : Int32) (ls : Array Slot) (H : Heap) (lo0 : List Loc), jw.toInt ≤ (n9 : Int) → (0 ≤ jw.toInt ∧ jw.toInt ≤ 1000000000) → (∀ k9 : Int, jw.toInt < k9 → ¬ okG L ze rr t0.toInt te.toInt iv.toInt k9) → zh_ok D cA RTg ro sz H0 H lo0 → zc_kept D RTg ro yMc s.heap H → zc_kept D RTg ro kF s.heap H → jGo D cA ro H x fo zq zA zB ze lp L ru rF rT rr → (∀ p9 : Nat, p9 ∉ [ru, fo] → H[p9]? = s.heap[p9]?) → lv_has ls 14 [(13, .int jw), (12, .int iv), (10, .long v26), (8, .long v20), (7, .ref zq), (0, .ref x), (2, .long t0), (4, .long te), (6, .int w0)] → W p l e (headSpec (gW yX11_between cX11_between 14 (some .long)) { frames := 6, cells := 1, slots := 6, locals := 176 }).room s m ([.ref x, .int zi, .long t0, .long te, .int w0] : List Value).toArray below meth c H lo0 0 0 (vx_MQ below (yy_Q D cA ro sz H0 x vL (spBY zi.toInt t0.toInt te.toInt w0.toInt L (Z, R))) (yy_X D cA ro sz H0 x L (Z, R) (spBY zi.toInt t0.toInt te.toInt w0.toInt L (Z, R))) ([.ref x, .int zi, .long t0, .long te, .int w0] : List Value).toArray s 1 6 (zy_fr sz)) (F0 m 196 ls []) := by
                              intro n9
                              induction n9 with
                              | zero =>
                                intro jw ls H lo0 hjw hbjw hijw hh0 kpl kfl jgl frl hl
                                have fal := jgl.1
                                have sf95 : sfR ro [ru, rF, rT, dr, df, dt] s.heap H := fun p9 k9 hp hk hn => frl p9 (by obtain ⟨n1, -⟩ := l_n6 hn; exact l_n2 n1 (ro_ne hp rfo (by omega)))
                                have jrr95 := hclose H rr sf95 jgl.2.2.1.2.2.2.2.2 (zh_fq (frl dr (l_n2 hne.1.symm (ro_ne hdr.2.1 rfo (by decide)))) hdr.2.2.1) (zh_fq (frl dr (l_n2 hne.1.symm (ro_ne hdr.2.1 rfo (by decide)))) hdr.2.2.2.1)
                                rw [l_set hrr] at jrr95
                                have jcy95 : jCY D cA ro H x L (Z, R) := ⟨hJZ.kept hx10 kfl (by decide), jrr95⟩
                                refine lv_iload hx hb (eX11_between (196, .iload 13, 2) (List.mem_of_getElem? (i := 93) rfl)) (lv_at hl 0 rfl) ?_
                                refine ff_if_le hx hb (eX11_between (198, .ifCond .le 28, 3) (List.mem_of_getElem? (i := 94) rfl)) (tgt := 226) rfl (fun c96 => ?_) (fun c96 => (by exfalso; omega))
                                have hbd9 : bdR L ze rr t0.toInt te.toInt iv.toInt jw.toInt := ⟨by omega, Or.inl (by omega), hijw⟩
                                refine lv_iload hx hb (eX11_between (226, .iload 6, 2) (List.mem_of_getElem? (i := 106) rfl)) (lv_at hl 8 rfl) ?_
                                refine ff_iconst hx hb (eX11_between (228, .iconst 1, 1) (List.mem_of_getElem? (i := 107) rfl)) (by decide) (by decide) (fun v97 e97 => ?_)
                                refine ff_icmp_ne hx hb (eX11_between (229, .if_icmp .ne 9, 3) (List.mem_of_getElem? (i := 108) rfl)) (tgt := 238) rfl (fun c98 => ?_) (fun c98 => ?_)
                                · skip
                                  refine lv_lload hx hb (eX11_between (238, .lload 4, 2) (List.mem_of_getElem? (i := 112) rfl)) (lv_at hl 7 rfl) ?_
                                  refine lv_aload_n hx hb (eX11_between (240, .aload_n 0, 1) (List.mem_of_getElem? (i := 113) rfl)) rfl (lv_at hl 5 rfl) ?_
                                  refine lv_aload hx hb (eX11_between (241, .aload 7, 2) (List.mem_of_getElem? (i := 114) rfl)) (lv_at hl 4 rfl) ?_
                                  refine lv_lload_n hx hb (eX11_between (243, .lload_n 2, 1) (List.mem_of_getElem? (i := 115) rfl)) rfl (lv_at hl 6 rfl) ?_
                                  refine lv_iload hx hb (eX11_between (244, .iload 12, 2) (List.mem_of_getElem? (i := 116) rfl)) (lv_at hl 1 rfl) ?_
                                  refine lv_iload hx hb (eX11_between (246, .iload 13, 2) (List.mem_of_getElem? (i := 117) rfl)) (lv_at hl 0 rfl) ?_
                                  refine tz_rowV (As := [.ref zq, .long t0, .int iv, .int jw]) (st := [.long te]) (b := x) (C := RX11) (Ts := gT) hx hb hml hown h2 (fun _ h => h) (hX11_goOnE l D cA ro sz H0 x zq t0 iv jw fo zA zB ze lp L ru rF rT rr hx10 rfo rzq hjl hoA hoB9 (by omega) (by omega) htkt0 hM9 (by omega) (by omega) hl60 hT9 hoS) ⟨rfl, rfl⟩ ⟨by decide, by decide⟩ ⟨by decide, by decide⟩ (tb_6 96 rfl rfl) (tb_1 1 rfl rfl) (tb_6 93 rfl rfl) (tb_6 95 rfl rfl) (tb_0 2 rfl rfl) (show yX11_goOn.cls ≠ "java/lang/invoke/MethodHandle" ∧ yX11_goOn.cls ≠ "java/lang/invoke/VarHandle" ∧ (parseMethodDescriptor yX11_goOn.desc).map (fun d => d.parameters.length) = some 4 by decide +kernel) zs_blindB (zs_ob hh0 hx10 (show RTg[10]? = some (0, 10, 0, fsX11) from rfl) (zCX11 hKa.1.1.1)) (fun U hU hW => ⟨rfl, by rw [hU]; exact hh0.l0, ⟨zKb s U hW.alike hKa.1.1, hBQ.alike hW.alike⟩, by rw [hU]; exact jgl⟩) hh0.2.2.1 hl.1 (Nat.le_of_ble_eq_true rfl) (eX11_between (248, .invokevirtual 374, 3) (List.mem_of_getElem? (i := 118) rfl)) (fun r99 s99 t99 lo99 g99 f99 l99 => ?_)
                                  obtain ⟨v99, q99, e99, z99, c99, j99, fx99⟩ := f99
                                  cases q99
                                  rw [g99] at c99 fx99
                                  have fr99 : ∀ p9 : Nat, p9 ∉ [ru, fo] → t99.heap[p9]? = s.heap[p9]? := fun p9 h9 => (fx99 p9 (fun q => h9 (by rcases List.mem_cons.mp q with q | q; (rw [q]; exact List.mem_cons_self); (rw [List.mem_singleton.mp q]; exact (List.mem_cons_of_mem _ List.mem_cons_self))))).trans (frl p9 h9)
                                  have hh99 : zh_ok D cA RTg ro sz H0 t99.heap lo99 := ⟨z99.1, z99.2.1, l99, z99.2.2.2⟩
                                  have kp99 := kpl.trans (c99.mono (ms' := yMc) (by decide))
                                  have kf99 := kfl.trans (c99.mono (ms' := kF) (by decide))
                                  have jg99 := j99
                                  have fa99 := jg99.1
                                  have sf99 : sfR ro [ru, rF, rT, dr, df, dt] s.heap t99.heap := fun p9 k9 hp hk hn => fr99 p9 (by obtain ⟨n1, -⟩ := l_n6 hn; exact l_n2 n1 (ro_ne hp rfo (by omega)))
                                  have jrr99 := hclose t99.heap rr sf99 jg99.2.2.1.2.2.2.2.2 (zh_fq (fr99 dr (l_n2 hne.1.symm (ro_ne hdr.2.1 rfo (by decide)))) hdr.2.2.1) (zh_fq (fr99 dr (l_n2 hne.1.symm (ro_ne hdr.2.1 rfo (by decide)))) hdr.2.2.2.1)
                                  rw [l_set hrr] at jrr99
                                  have jcy99 : jCY D cA ro t99.heap x L (Z, R) := ⟨hJZ.kept hx10 kf99 (by decide), jrr99⟩
                                  have e99 : goR L ze rr t0.toInt iv.toInt jw.toInt v99.toInt := e99
                                  refine W.eq (g2 := F0 m 251 ls [.long v99, .long te]) rfl ?_
                                  have hn9 := go_ne (t1 := te.toInt) hjL hjl.1 hWr hoA hoB htkt0 hM9 ha8 hbm9.2.1 hbd9.2.1 e99
                                  have hb8 := go_b hjL hjl.1 hWr hoA hoB e99 hn9
                                  refine ff_lsub hx hb (eX11_between (251, .lsub, 1) (List.mem_of_getElem? (i := 119) rfl)) (by omega) (by omega) (fun v100 e100 => ?_)
                                  exact vx_ret (W.widen (k := 1) (n := 6) (Nat.zero_le _) (Nat.zero_le _) (W.lret hx hb hr (fun t ht hW => ⟨_, _, ro, L, (Z, R), rfl, ⟨_, rfl, rfl⟩, fun _ _ h => h, by rw [ht]; exact hh99.l0, by rw [ht]; exact kp99, by rw [ht]; exact jcy99, rfl, rfl, Or.inr ⟨rfl, hgb9, ze, rr, hze, hrr, iv.toInt, hbm9, Or.inr (Or.inr ⟨by omega, _, _, hbd9, e99, by omega⟩)⟩⟩) hh99.2.2.1 (eX11_between (252, .lreturn, 1) (List.mem_of_getElem? (i := 120) rfl))))
                                · skip
                                  refine lv_iload hx hb (eX11_between (232, .iload 13, 2) (List.mem_of_getElem? (i := 109) rfl)) (lv_at hl 0 rfl) ?_
                                  refine ff_i2l hx hb (eX11_between (234, .i2l, 1) (List.mem_of_getElem? (i := 110) rfl)) (fun v101 e101 => ?_)
                                  refine lv_goto hx hb (eX11_between (235, .goto 17, 3) (List.mem_of_getElem? (i := 111) rfl)) (tgt := 252) rfl ?_
                                  exact vx_ret (W.widen (k := 1) (n := 6) (Nat.zero_le _) (Nat.zero_le _) (W.lret hx hb hr (fun t ht hW => ⟨_, _, ro, L, (Z, R), rfl, ⟨_, rfl, rfl⟩, fun _ _ h => h, by rw [ht]; exact hh0.l0, by rw [ht]; exact kpl, by rw [ht]; exact jcy95, rfl, rfl, Or.inr ⟨rfl, hgb9, ze, rr, hze, hrr, iv.toInt, hbm9, Or.inr (Or.inl ⟨by omega, by rw [show v101.toInt = jw.toInt by omega]; exact hbd9⟩)⟩⟩) hh0.2.2.1 (eX11_between (252, .lreturn, 1) (List.mem_of_getElem? (i := 120) rfl))))
                              | succ n9 ihjw =>
                                intro jw ls H lo0 hjw hbjw hijw hh0 kpl kfl jgl frl hl
                                have fal := jgl.1
                                have sf102 : sfR ro [ru, rF, rT, dr, df, dt] s.heap H := fun p9 k9 hp hk hn => frl p9 (by obtain ⟨n1, -⟩ := l_n6 hn; exact l_n2 n1 (ro_ne hp rfo (by omega)))
                                have jrr102 := hclose H rr sf102 jgl.2.2.1.2.2.2.2.2 (zh_fq (frl dr (l_n2 hne.1.symm (ro_ne hdr.2.1 rfo (by decide)))) hdr.2.2.1) (zh_fq (frl dr (l_n2 hne.1.symm (ro_ne hdr.2.1 rfo (by decide)))) hdr.2.2.2.1)
                                rw [l_set hrr] at jrr102
                                have jcy102 : jCY D cA ro H x L (Z, R) := ⟨hJZ.kept hx10 kfl (by decide), jrr102⟩
                                refine lv_iload hx hb (eX11_between (196, .iload 13, 2) (List.mem_of_getElem? (i := 93) rfl)) (lv_at hl 0 rfl) ?_
                                refine ff_if_le hx hb (eX11_between (198, .ifCond .le 28, 3) (List.mem_of_getElem? (i := 94) rfl)) (tgt := 226) rfl (fun c103 => ?_) (fun c103 => ?_)
                                · skip
                                  have hbd9 : bdR L ze rr t0.toInt te.toInt iv.toInt jw.toInt := ⟨by omega, Or.inl (by omega), hijw⟩
                                  refine lv_iload hx hb (eX11_between (226, .iload 6, 2) (List.mem_of_getElem? (i := 106) rfl)) (lv_at hl 8 rfl) ?_
                                  refine ff_iconst hx hb (eX11_between (228, .iconst 1, 1) (List.mem_of_getElem? (i := 107) rfl)) (by decide) (by decide) (fun v104 e104 => ?_)
                                  refine ff_icmp_ne hx hb (eX11_between (229, .if_icmp .ne 9, 3) (List.mem_of_getElem? (i := 108) rfl)) (tgt := 238) rfl (fun c105 => ?_) (fun c105 => ?_)
                                  · skip
                                    refine lv_lload hx hb (eX11_between (238, .lload 4, 2) (List.mem_of_getElem? (i := 112) rfl)) (lv_at hl 7 rfl) ?_
                                    refine lv_aload_n hx hb (eX11_between (240, .aload_n 0, 1) (List.mem_of_getElem? (i := 113) rfl)) rfl (lv_at hl 5 rfl) ?_
                                    refine lv_aload hx hb (eX11_between (241, .aload 7, 2) (List.mem_of_getElem? (i := 114) rfl)) (lv_at hl 4 rfl) ?_
                                    refine lv_lload_n hx hb (eX11_between (243, .lload_n 2, 1) (List.mem_of_getElem? (i := 115) rfl)) rfl (lv_at hl 6 rfl) ?_
                                    refine lv_iload hx hb (eX11_between (244, .iload 12, 2) (List.mem_of_getElem? (i := 116) rfl)) (lv_at hl 1 rfl) ?_
                                    refine lv_iload hx hb (eX11_between (246, .iload 13, 2) (List.mem_of_getElem? (i := 117) rfl)) (lv_at hl 0 rfl) ?_
                                    refine tz_rowV (As := [.ref zq, .long t0, .int iv, .int jw]) (st := [.long te]) (b := x) (C := RX11) (Ts := gT) hx hb hml hown h2 (fun _ h => h) (hX11_goOnE l D cA ro sz H0 x zq t0 iv jw fo zA zB ze lp L ru rF rT rr hx10 rfo rzq hjl hoA hoB9 (by omega) (by omega) htkt0 hM9 (by omega) (by omega) hl60 hT9 hoS) ⟨rfl, rfl⟩ ⟨by decide, by decide⟩ ⟨by decide, by decide⟩ (tb_6 96 rfl rfl) (tb_1 1 rfl rfl) (tb_6 93 rfl rfl) (tb_6 95 rfl rfl) (tb_0 2 rfl rfl) (show yX11_goOn.cls ≠ "java/lang/invoke/MethodHandle" ∧ yX11_goOn.cls ≠ "java/lang/invoke/VarHandle" ∧ (parseMethodDescriptor yX11_goOn.desc).map (fun d => d.parameters.length) = some 4 by decide +kernel) zs_blindB (zs_ob hh0 hx10 (show RTg[10]? = some (0, 10, 0, fsX11) from rfl) (zCX11 hKa.1.1.1)) (fun U hU hW => ⟨rfl, by rw [hU]; exact hh0.l0, ⟨zKb s U hW.alike hKa.1.1, hBQ.alike hW.alike⟩, by rw [hU]; exact jgl⟩) hh0.2.2.1 hl.1 (Nat.le_of_ble_eq_true rfl) (eX11_between (248, .invokevirtual 374, 3) (List.mem_of_getElem? (i := 118) rfl)) (fun r106 s106 t106 lo106 g106 f106 l106 => ?_)
                                    obtain ⟨v106, q106, e106, z106, c106, j106, fx106⟩ := f106
                                    cases q106
                                    rw [g106] at c106 fx106
                                    have fr106 : ∀ p9 : Nat, p9 ∉ [ru, fo] → t106.heap[p9]? = s.heap[p9]? := fun p9 h9 => (fx106 p9 (fun q => h9 (by rcases List.mem_cons.mp q with q | q; (rw [q]; exact List.mem_cons_self); (rw [List.mem_singleton.mp q]; exact (List.mem_cons_of_mem _ List.mem_cons_self))))).trans (frl p9 h9)
                                    have hh106 : zh_ok D cA RTg ro sz H0 t106.heap lo106 := ⟨z106.1, z106.2.1, l106, z106.2.2.2⟩
                                    have kp106 := kpl.trans (c106.mono (ms' := yMc) (by decide))
                                    have kf106 := kfl.trans (c106.mono (ms' := kF) (by decide))
                                    have jg106 := j106
                                    have fa106 := jg106.1
                                    have sf106 : sfR ro [ru, rF, rT, dr, df, dt] s.heap t106.heap := fun p9 k9 hp hk hn => fr106 p9 (by obtain ⟨n1, -⟩ := l_n6 hn; exact l_n2 n1 (ro_ne hp rfo (by omega)))
                                    have jrr106 := hclose t106.heap rr sf106 jg106.2.2.1.2.2.2.2.2 (zh_fq (fr106 dr (l_n2 hne.1.symm (ro_ne hdr.2.1 rfo (by decide)))) hdr.2.2.1) (zh_fq (fr106 dr (l_n2 hne.1.symm (ro_ne hdr.2.1 rfo (by decide)))) hdr.2.2.2.1)
                                    rw [l_set hrr] at jrr106
                                    have jcy106 : jCY D cA ro t106.heap x L (Z, R) := ⟨hJZ.kept hx10 kf106 (by decide), jrr106⟩
                                    have e106 : goR L ze rr t0.toInt iv.toInt jw.toInt v106.toInt := e106
                                    refine W.eq (g2 := F0 m 251 ls [.long v106, .long te]) rfl ?_
                                    have hn9 := go_ne (t1 := te.toInt) hjL hjl.1 hWr hoA hoB htkt0 hM9 ha8 hbm9.2.1 hbd9.2.1 e106
                                    have hb8 := go_b hjL hjl.1 hWr hoA hoB e106 hn9
                                    refine ff_lsub hx hb (eX11_between (251, .lsub, 1) (List.mem_of_getElem? (i := 119) rfl)) (by omega) (by omega) (fun v107 e107 => ?_)
                                    exact vx_ret (W.widen (k := 1) (n := 6) (Nat.zero_le _) (Nat.zero_le _) (W.lret hx hb hr (fun t ht hW => ⟨_, _, ro, L, (Z, R), rfl, ⟨_, rfl, rfl⟩, fun _ _ h => h, by rw [ht]; exact hh106.l0, by rw [ht]; exact kp106, by rw [ht]; exact jcy106, rfl, rfl, Or.inr ⟨rfl, hgb9, ze, rr, hze, hrr, iv.toInt, hbm9, Or.inr (Or.inr ⟨by omega, _, _, hbd9, e106, by omega⟩)⟩⟩) hh106.2.2.1 (eX11_between (252, .lreturn, 1) (List.mem_of_getElem? (i := 120) rfl))))
                                  · skip
                                    refine lv_iload hx hb (eX11_between (232, .iload 13, 2) (List.mem_of_getElem? (i := 109) rfl)) (lv_at hl 0 rfl) ?_
                                    refine ff_i2l hx hb (eX11_between (234, .i2l, 1) (List.mem_of_getElem? (i := 110) rfl)) (fun v108 e108 => ?_)
                                    refine lv_goto hx hb (eX11_between (235, .goto 17, 3) (List.mem_of_getElem? (i := 111) rfl)) (tgt := 252) rfl ?_
                                    exact vx_ret (W.widen (k := 1) (n := 6) (Nat.zero_le _) (Nat.zero_le _) (W.lret hx hb hr (fun t ht hW => ⟨_, _, ro, L, (Z, R), rfl, ⟨_, rfl, rfl⟩, fun _ _ h => h, by rw [ht]; exact hh0.l0, by rw [ht]; exact kpl, by rw [ht]; exact jcy102, rfl, rfl, Or.inr ⟨rfl, hgb9, ze, rr, hze, hrr, iv.toInt, hbm9, Or.inr (Or.inl ⟨by omega, by rw [show v108.toInt = jw.toInt by omega]; exact hbd9⟩)⟩⟩) hh0.2.2.1 (eX11_between (252, .lreturn, 1) (List.mem_of_getElem? (i := 120) rfl))))
                                · skip
                                  refine lv_aload_n hx hb (eX11_between (201, .aload_n 0, 1) (List.mem_of_getElem? (i := 95) rfl)) rfl (lv_at hl 5 rfl) ?_
                                  refine lv_aload hx hb (eX11_between (202, .aload 7, 2) (List.mem_of_getElem? (i := 96) rfl)) (lv_at hl 4 rfl) ?_
                                  refine lv_lload_n hx hb (eX11_between (204, .lload_n 2, 1) (List.mem_of_getElem? (i := 97) rfl)) rfl (lv_at hl 6 rfl) ?_
                                  refine lv_iload hx hb (eX11_between (205, .iload 12, 2) (List.mem_of_getElem? (i := 98) rfl)) (lv_at hl 1 rfl) ?_
                                  refine lv_iload hx hb (eX11_between (207, .iload 13, 2) (List.mem_of_getElem? (i := 99) rfl)) (lv_at hl 0 rfl) ?_
                                  refine tz_rowV (As := [.ref zq, .long t0, .int iv, .int jw]) (st := []) (b := x) (C := RX11) (Ts := gT) hx hb hml hown h2 (fun _ h => h) (hX11_goOnE l D cA ro sz H0 x zq t0 iv jw fo zA zB ze lp L ru rF rT rr hx10 rfo rzq hjl hoA hoB9 (by omega) (by omega) htkt0 hM9 (by omega) (by omega) hl60 hT9 hoS) ⟨rfl, rfl⟩ ⟨by decide, by decide⟩ ⟨by decide, by decide⟩ (tb_6 96 rfl rfl) (tb_1 1 rfl rfl) (tb_6 93 rfl rfl) (tb_6 95 rfl rfl) (tb_0 2 rfl rfl) (show yX11_goOn.cls ≠ "java/lang/invoke/MethodHandle" ∧ yX11_goOn.cls ≠ "java/lang/invoke/VarHandle" ∧ (parseMethodDescriptor yX11_goOn.desc).map (fun d => d.parameters.length) = some 4 by decide +kernel) zs_blindB (zs_ob hh0 hx10 (show RTg[10]? = some (0, 10, 0, fsX11) from rfl) (zCX11 hKa.1.1.1)) (fun U hU hW => ⟨rfl, by rw [hU]; exact hh0.l0, ⟨zKb s U hW.alike hKa.1.1, hBQ.alike hW.alike⟩, by rw [hU]; exact jgl⟩) hh0.2.2.1 hl.1 (Nat.le_of_ble_eq_true rfl) (eX11_between (209, .invokevirtual 374, 3) (List.mem_of_getElem? (i := 100) rfl)) (fun r109 s109 t109 lo109 g109 f109 l109 => ?_)
                                  obtain ⟨v109, q109, e109, z109, c109, j109, fx109⟩ := f109
                                  cases q109
                                  rw [g109] at c109 fx109
                                  have fr109 : ∀ p9 : Nat, p9 ∉ [ru, fo] → t109.heap[p9]? = s.heap[p9]? := fun p9 h9 => (fx109 p9 (fun q => h9 (by rcases List.mem_cons.mp q with q | q; (rw [q]; exact List.mem_cons_self); (rw [List.mem_singleton.mp q]; exact (List.mem_cons_of_mem _ List.mem_cons_self))))).trans (frl p9 h9)
                                  have hh109 : zh_ok D cA RTg ro sz H0 t109.heap lo109 := ⟨z109.1, z109.2.1, l109, z109.2.2.2⟩
                                  have kp109 := kpl.trans (c109.mono (ms' := yMc) (by decide))
                                  have kf109 := kfl.trans (c109.mono (ms' := kF) (by decide))
                                  have jg109 := j109
                                  have fa109 := jg109.1
                                  have sf109 : sfR ro [ru, rF, rT, dr, df, dt] s.heap t109.heap := fun p9 k9 hp hk hn => fr109 p9 (by obtain ⟨n1, -⟩ := l_n6 hn; exact l_n2 n1 (ro_ne hp rfo (by omega)))
                                  have jrr109 := hclose t109.heap rr sf109 jg109.2.2.1.2.2.2.2.2 (zh_fq (fr109 dr (l_n2 hne.1.symm (ro_ne hdr.2.1 rfo (by decide)))) hdr.2.2.1) (zh_fq (fr109 dr (l_n2 hne.1.symm (ro_ne hdr.2.1 rfo (by decide)))) hdr.2.2.2.1)
                                  rw [l_set hrr] at jrr109
                                  have jcy109 : jCY D cA ro t109.heap x L (Z, R) := ⟨hJZ.kept hx10 kf109 (by decide), jrr109⟩
                                  have e109 : goR L ze rr t0.toInt iv.toInt jw.toInt v109.toInt := e109
                                  refine W.eq (g2 := F0 m 212 ls [.long v109]) rfl ?_
                                  refine lv_lload hx hb (eX11_between (212, .lload 4, 2) (List.mem_of_getElem? (i := 101) rfl)) (lv_at hl 7 rfl) ?_
                                  refine zu_S (vs := [.long v109, .long te]) (rest := []) hx hb hml hown hts0 zu_BT (hX11_comesBehindE l v109 te) ⟨rfl, rfl⟩ ⟨by decide, by decide⟩ ⟨by decide, by decide⟩ (tb_6 121 rfl rfl) (tb_1 1 rfl rfl) (tb_6 119 rfl rfl) (tb_6 120 rfl rfl) (show yX11_comesBehind.cls ≠ "java/lang/invoke/MethodHandle" ∧ yX11_comesBehind.cls ≠ "java/lang/invoke/VarHandle" ∧ (parseMethodDescriptor yX11_comesBehind.desc).map (fun d => d.parameters.length) = some 2 by decide +kernel) rfl (fun _ _ _ => trivial) hl.1 (Nat.le_of_ble_eq_true rfl) (eX11_between (214, .invokestatic 392, 3) (List.mem_of_getElem? (i := 102) rfl)) (fun w110 f110 => ?_)
                                  obtain ⟨v110, rfl, e110⟩ := f110
                                  refine ff_if_eq hx hb (eX11_between (217, .ifCond .eq 9, 3) (List.mem_of_getElem? (i := 103) rfl)) (tgt := 226) rfl (fun c111 => ?_) (fun c111 => ?_)
                                  · skip
                                    have hbd9 : bdR L ze rr t0.toInt te.toInt iv.toInt jw.toInt := ⟨by omega, Or.inr ⟨v109.toInt, e109, by unfold NONEI; omega, by omega⟩, hijw⟩
                                    refine lv_iload hx hb (eX11_between (226, .iload 6, 2) (List.mem_of_getElem? (i := 106) rfl)) (lv_at hl 8 rfl) ?_
                                    refine ff_iconst hx hb (eX11_between (228, .iconst 1, 1) (List.mem_of_getElem? (i := 107) rfl)) (by decide) (by decide) (fun v112 e112 => ?_)
                                    refine ff_icmp_ne hx hb (eX11_between (229, .if_icmp .ne 9, 3) (List.mem_of_getElem? (i := 108) rfl)) (tgt := 238) rfl (fun c113 => ?_) (fun c113 => ?_)
                                    · skip
                                      refine lv_lload hx hb (eX11_between (238, .lload 4, 2) (List.mem_of_getElem? (i := 112) rfl)) (lv_at hl 7 rfl) ?_
                                      refine lv_aload_n hx hb (eX11_between (240, .aload_n 0, 1) (List.mem_of_getElem? (i := 113) rfl)) rfl (lv_at hl 5 rfl) ?_
                                      refine lv_aload hx hb (eX11_between (241, .aload 7, 2) (List.mem_of_getElem? (i := 114) rfl)) (lv_at hl 4 rfl) ?_
                                      refine lv_lload_n hx hb (eX11_between (243, .lload_n 2, 1) (List.mem_of_getElem? (i := 115) rfl)) rfl (lv_at hl 6 rfl) ?_
                                      refine lv_iload hx hb (eX11_between (244, .iload 12, 2) (List.mem_of_getElem? (i := 116) rfl)) (lv_at hl 1 rfl) ?_
                                      refine lv_iload hx hb (eX11_between (246, .iload 13, 2) (List.mem_of_getElem? (i := 117) rfl)) (lv_at hl 0 rfl) ?_
                                      refine tz_rowV (As := [.ref zq, .long t0, .int iv, .int jw]) (st := [.long te]) (b := x) (C := RX11) (Ts := gT) hx hb hml hown h2 (fun _ h => h) (hX11_goOnE l D cA ro sz H0 x zq t0 iv jw fo zA zB ze lp L ru rF rT rr hx10 rfo rzq hjl hoA hoB9 (by omega) (by omega) htkt0 hM9 (by omega) (by omega) hl60 hT9 hoS) ⟨rfl, rfl⟩ ⟨by decide, by decide⟩ ⟨by decide, by decide⟩ (tb_6 96 rfl rfl) (tb_1 1 rfl rfl) (tb_6 93 rfl rfl) (tb_6 95 rfl rfl) (tb_0 2 rfl rfl) (show yX11_goOn.cls ≠ "java/lang/invoke/MethodHandle" ∧ yX11_goOn.cls ≠ "java/lang/invoke/VarHandle" ∧ (parseMethodDescriptor yX11_goOn.desc).map (fun d => d.parameters.length) = some 4 by decide +kernel) zs_blindB (zs_ob hh109 hx10 (show RTg[10]? = some (0, 10, 0, fsX11) from rfl) (zCX11 hKa.1.1.1)) (fun U hU hW => ⟨rfl, by rw [hU]; exact hh109.l0, ⟨zKb s U hW.alike hKa.1.1, hBQ.alike hW.alike⟩, by rw [hU]; exact jg109⟩) hh109.2.2.1 hl.1 (Nat.le_of_ble_eq_true rfl) (eX11_between (248, .invokevirtual 374, 3) (List.mem_of_getElem? (i := 118) rfl)) (fun r114 s114 t114 lo114 g114 f114 l114 => ?_)
                                      obtain ⟨v114, q114, e114, z114, c114, j114, fx114⟩ := f114
                                      cases q114
                                      rw [g114] at c114 fx114
                                      have fr114 : ∀ p9 : Nat, p9 ∉ [ru, fo] → t114.heap[p9]? = s.heap[p9]? := fun p9 h9 => (fx114 p9 (fun q => h9 (by rcases List.mem_cons.mp q with q | q; (rw [q]; exact List.mem_cons_self); (rw [List.mem_singleton.mp q]; exact (List.mem_cons_of_mem _ List.mem_cons_self))))).trans (fr109 p9 h9)
                                      have hh114 : zh_ok D cA RTg ro sz H0 t114.heap lo114 := ⟨z114.1, z114.2.1, l114, z114.2.2.2⟩
                                      have kp114 := kp109.trans (c114.mono (ms' := yMc) (by decide))
                                      have kf114 := kf109.trans (c114.mono (ms' := kF) (by decide))
                                      have jg114 := j114
                                      have fa114 := jg114.1
                                      have sf114 : sfR ro [ru, rF, rT, dr, df, dt] s.heap t114.heap := fun p9 k9 hp hk hn => fr114 p9 (by obtain ⟨n1, -⟩ := l_n6 hn; exact l_n2 n1 (ro_ne hp rfo (by omega)))
                                      have jrr114 := hclose t114.heap rr sf114 jg114.2.2.1.2.2.2.2.2 (zh_fq (fr114 dr (l_n2 hne.1.symm (ro_ne hdr.2.1 rfo (by decide)))) hdr.2.2.1) (zh_fq (fr114 dr (l_n2 hne.1.symm (ro_ne hdr.2.1 rfo (by decide)))) hdr.2.2.2.1)
                                      rw [l_set hrr] at jrr114
                                      have jcy114 : jCY D cA ro t114.heap x L (Z, R) := ⟨hJZ.kept hx10 kf114 (by decide), jrr114⟩
                                      have e114 : goR L ze rr t0.toInt iv.toInt jw.toInt v114.toInt := e114
                                      refine W.eq (g2 := F0 m 251 ls [.long v114, .long te]) rfl ?_
                                      have hn9 := go_ne (t1 := te.toInt) hjL hjl.1 hWr hoA hoB htkt0 hM9 ha8 hbm9.2.1 hbd9.2.1 e114
                                      have hb8 := go_b hjL hjl.1 hWr hoA hoB e114 hn9
                                      refine ff_lsub hx hb (eX11_between (251, .lsub, 1) (List.mem_of_getElem? (i := 119) rfl)) (by omega) (by omega) (fun v115 e115 => ?_)
                                      exact vx_ret (W.widen (k := 1) (n := 6) (Nat.zero_le _) (Nat.zero_le _) (W.lret hx hb hr (fun t ht hW => ⟨_, _, ro, L, (Z, R), rfl, ⟨_, rfl, rfl⟩, fun _ _ h => h, by rw [ht]; exact hh114.l0, by rw [ht]; exact kp114, by rw [ht]; exact jcy114, rfl, rfl, Or.inr ⟨rfl, hgb9, ze, rr, hze, hrr, iv.toInt, hbm9, Or.inr (Or.inr ⟨by omega, _, _, hbd9, e114, by omega⟩)⟩⟩) hh114.2.2.1 (eX11_between (252, .lreturn, 1) (List.mem_of_getElem? (i := 120) rfl))))
                                    · skip
                                      refine lv_iload hx hb (eX11_between (232, .iload 13, 2) (List.mem_of_getElem? (i := 109) rfl)) (lv_at hl 0 rfl) ?_
                                      refine ff_i2l hx hb (eX11_between (234, .i2l, 1) (List.mem_of_getElem? (i := 110) rfl)) (fun v116 e116 => ?_)
                                      refine lv_goto hx hb (eX11_between (235, .goto 17, 3) (List.mem_of_getElem? (i := 111) rfl)) (tgt := 252) rfl ?_
                                      exact vx_ret (W.widen (k := 1) (n := 6) (Nat.zero_le _) (Nat.zero_le _) (W.lret hx hb hr (fun t ht hW => ⟨_, _, ro, L, (Z, R), rfl, ⟨_, rfl, rfl⟩, fun _ _ h => h, by rw [ht]; exact hh109.l0, by rw [ht]; exact kp109, by rw [ht]; exact jcy109, rfl, rfl, Or.inr ⟨rfl, hgb9, ze, rr, hze, hrr, iv.toInt, hbm9, Or.inr (Or.inl ⟨by omega, by rw [show v116.toInt = jw.toInt by omega]; exact hbd9⟩)⟩⟩) hh109.2.2.1 (eX11_between (252, .lreturn, 1) (List.mem_of_getElem? (i := 120) rfl))))
                                  · skip
                                    refine ff_iinc (k := 0) hx hb (eX11_between (220, .iinc 13 (-1), 3) (List.mem_of_getElem? (i := 104) rfl)) hl rfl (by decide) (by decide) (by decide) (by omega) (by omega) (fun v117 e117 ls117 hl117 => ?_)
                                    refine lv_goto hx hb (eX11_between (223, .goto (-27), 3) (List.mem_of_getElem? (i := 105) rfl)) (tgt := 196) rfl ?_
                                    have hno9 : ¬ okG L ze rr t0.toInt te.toInt iv.toInt jw.toInt := fun g9 => by obtain ⟨x9, h7, h6, h5⟩ := g9; have h9 := e109; have h4 := goR_one h7 h9; unfold NONEI at h6; omega
                                    exact ihjw v117 ls117 _ _ (by omega) (by omega) (fun k9 hk9 => by by_cases e9 : k9 = jw.toInt; (rw [e9]; exact hno9); exact hijw k9 (by omega)) hh109 kp109 kf109 jg109 fr109 (lv_sub hl117 [0, 1, 2, 3, 4, 5, 6, 7, 8] rfl)
                            exact lp196 v93.toInt.toNat v93 ls94 _ _ (by omega) (by omega) (fun k9 hk9 => c2_no hjL hjl.1 hWr hoA hoB hq9 (by omega)) hh89 kp89 kf89 jg89 fr89 (lv_sub hl94 [0, 1, 2, 3, 4, 5, 6, 7, 8] rfl)
                          · skip
                            refine lv_iload hx hb (eX11_between (181, .iload 12, 2) (List.mem_of_getElem? (i := 85) rfl)) (lv_at hl 0 rfl) ?_
                            refine ff_i2l hx hb (eX11_between (183, .i2l, 1) (List.mem_of_getElem? (i := 86) rfl)) (fun v118 e118 => ?_)
                            exact vx_ret (W.widen (k := 1) (n := 6) (Nat.zero_le _) (Nat.zero_le _) (W.lret hx hb hr (fun t ht hW => ⟨_, _, ro, L, (Z, R), rfl, ⟨_, rfl, rfl⟩, fun _ _ h => h, by rw [ht]; exact hh89.l0, by rw [ht]; exact kp89, by rw [ht]; exact jcy89, rfl, rfl, Or.inr ⟨rfl, hgb9, ze, rr, hze, hrr, iv.toInt, hbm9, Or.inl ⟨by omega, by omega⟩⟩⟩) hh89.2.2.1 (eX11_between (184, .lreturn, 1) (List.mem_of_getElem? (i := 87) rfl))))
                        · skip
                          refine ff_iinc (k := 0) hx hb (eX11_between (170, .iinc 12 (-1), 3) (List.mem_of_getElem? (i := 81) rfl)) hl rfl (by decide) (by decide) (by decide) (by omega) (by omega) (fun v119 e119 ls119 hl119 => ?_)
                          refine lv_goto hx hb (eX11_between (173, .goto (-26), 3) (List.mem_of_getElem? (i := 82) rfl)) (tgt := 147) rfl ?_
                          have hno9 : ¬ okG L ze rr t0.toInt te.toInt iv.toInt 0 := fun g9 => by obtain ⟨x9, h7, h6, h5⟩ := g9; have h9 := e89; rw [show v88.toInt = 0 by omega] at h9; have h4 := goR_one h7 h9; unfold NONEI at h6; omega
                          exact ihiv v119 ls119 _ _ (by omega) (by omega) (fun k9 hk9 => by by_cases e9 : k9 = iv.toInt; (rw [e9]; exact hno9); exact hiiv k9 (by omega)) hh89 kp89 kf89 jg89 fr89 (lv_sub hl119 [0, 1, 2, 3, 4, 5, 6, 7] rfl)
                  obtain ⟨hea9, heb9, a9, b9, ha9, hb9, hr9⟩ := e28
                  have hab9 := inM_le ha9 hb9 (by have := lm_lat (e := ze) (r := rr) hjL hWr hoA hoB hte9; omega)
                  exact lp147 v28.toInt.toNat v28 ls29 _ _ (by omega) (by omega) (fun k9 hk9 => c1_no hjL hjl.1 hWr hoA hoB ha9 hb9 (by omega)) hh24 kp18 kf18 jg18 fr18 (lv_sub hl29 [0, 1, 2, 3, 4, 6, 7, 8] rfl)
                · skip
                  exact zx_leafGW (ik := 83) (is := 326) (ic := 87) (cls := "java/lang/IllegalArgumentException") (text := "a local time of no year") hx hb hst hown h2 hKa.1 hh hh18 (by rw [hl21.1, hml]) hex hlk ⟨by decide, by decide, by decide, by decide⟩ (tb_2 121 rfl rfl) (tb_1 17 rfl rfl) (by decide) (gAt_in gAt_1) (by decide +kernel) (by decide) (by decide) (fun t h7 h8 => ⟨hh18.grow h7 h8, kp18.trans (kept_grow hh18 h8), jcy18.kept hx10 (kept_grow (ms := []) hh18 h8) (by decide), Or.inl ⟨rfl, 0, rfl, rfl, Or.inl ⟨rfl, fun g => by have g9 := g.2.2.2.2.2.2.2.2 ze rr hze hrr; rw [← hlm9] at g9; rcases e22 with h | h; (exfalso; omega); exact h.2 g9⟩⟩⟩) (eX11_between (112, .new 83, 3) (List.mem_of_getElem? (i := 54) rfl)) (eX11_between (115, .dup, 1) (List.mem_of_getElem? (i := 55) rfl)) (eX11_between (116, .ldc_w 326, 3) (List.mem_of_getElem? (i := 56) rfl)) (eX11_between (119, .invokespecial 87, 3) (List.mem_of_getElem? (i := 57) rfl)) (eX11_between (122, .athrow, 1) (List.mem_of_getElem? (i := 58) rfl))
              · skip
                exact zx_leafGW (ik := 83) (is := 384) (ic := 87) (cls := "java/lang/IllegalArgumentException") (text := "instants that are not apart so") hx hb hst hown h2 hKa.1 hh hh6 (by rw [hl3.1, hml]) hex hlk ⟨by decide, by decide, by decide, by decide⟩ (tb_2 121 rfl rfl) (tb_1 17 rfl rfl) (by decide) (gAt_in gAt_1) (by decide +kernel) (by decide) (by decide) (fun t h7 h8 => ⟨hh6.grow h7 h8, kp0.trans (kept_grow hh6 h8), hJC.kept hx10 (kept_grow (ms := []) hh6 h8) (by decide), Or.inl ⟨rfl, 0, rfl, rfl, Or.inl ⟨rfl, fun g => by have g1 := g.1; have g2 : zi.toInt < (Z.length : Int) := g.2.1; have g3 := g.2.2.1; have g4 := g.2.2.2.1; have g5 := g.2.2.2.2.1; have g6 := g.2.2.2.2.2.1; have g7 := g.2.2.2.2.2.2.1; have g8 := g.2.2.2.2.2.2.2.1; first | omega | (rcases e4 with h | h; (exfalso; omega); exact h.2 g3) | (rcases e6 with h | h; (exfalso; omega); exact h.2 g4)⟩⟩⟩) (eX11_between (75, .new 83, 3) (List.mem_of_getElem? (i := 36) rfl)) (eX11_between (78, .dup, 1) (List.mem_of_getElem? (i := 37) rfl)) (eX11_between (79, .ldc_w 384, 3) (List.mem_of_getElem? (i := 38) rfl)) (eX11_between (82, .invokespecial 87, 3) (List.mem_of_getElem? (i := 39) rfl)) (eX11_between (85, .athrow, 1) (List.mem_of_getElem? (i := 40) rfl))
          · skip
            exact zx_leafGW (ik := 83) (is := 380) (ic := 87) (cls := "java/lang/IllegalArgumentException") (text := "no such zone, instant or part") hx hb hst hown h2 hKa.1 hh hh6 (by rw [hl3.1, hml]) hex hlk ⟨by decide, by decide, by decide, by decide⟩ (tb_2 121 rfl rfl) (tb_1 17 rfl rfl) (by decide) (gAt_in gAt_1) (by decide +kernel) (by decide) (by decide) (fun t h7 h8 => ⟨hh6.grow h7 h8, kp0.trans (kept_grow hh6 h8), hJC.kept hx10 (kept_grow (ms := []) hh6 h8) (by decide), Or.inl ⟨rfl, 0, rfl, rfl, Or.inl ⟨rfl, fun g => by have g1 := g.1; have g2 : zi.toInt < (Z.length : Int) := g.2.1; have g3 := g.2.2.1; have g4 := g.2.2.2.1; have g5 := g.2.2.2.2.1; have g6 := g.2.2.2.2.2.1; have g7 := g.2.2.2.2.2.2.1; have g8 := g.2.2.2.2.2.2.2.1; first | omega | (rcases e4 with h | h; (exfalso; omega); exact h.2 g3) | (rcases e6 with h | h; (exfalso; omega); exact h.2 g4)⟩⟩⟩) (eX11_between (46, .new 83, 3) (List.mem_of_getElem? (i := 21) rfl)) (eX11_between (49, .dup, 1) (List.mem_of_getElem? (i := 22) rfl)) (eX11_between (50, .ldc_w 380, 3) (List.mem_of_getElem? (i := 23) rfl)) (eX11_between (53, .invokespecial 87, 3) (List.mem_of_getElem? (i := 24) rfl)) (eX11_between (56, .athrow, 1) (List.mem_of_getElem? (i := 25) rfl))
