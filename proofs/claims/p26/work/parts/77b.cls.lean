set_option maxRecDepth 100000 in
set_option maxHeartbeats 4000000 in
theorem hX2_yearOf (l : Launch) (n : Int64) (hn1 : -400000000 ≤ n.toInt) (hn2 : n.toInt ≤ 400000000) : zu_M l yX2_yearOf (gW yX2_yearOf cX2_yearOf 3 (some .int)) { frames := 1, cells := 0, slots := 0, locals := 22 } (fun vs => vs = [.long n]) zT (fun _ w => ∃ r : Int32, w = .int r ∧ isY n.toInt r.toInt ∧ -1200000 ≤ r.toInt ∧ r.toInt ≤ 1200000) := by
  refine zy_ofW (cc := cX2_yearOf) (maxL := 3) (ret := (some .int)) (by decide +kernel) rfl ?_
  intro p e s m args below meth c s1 B hml hv
  obtain ⟨vs, rfl, rfl, hKp⟩ := hv
  have hx := B.exec
  have hb := B.bytes
  have hr := B.returns
  have hlk := B.notSynchronized
  have hts0 := atoms_spec (ws := gW yX2_yearOf cX2_yearOf 3 (some .int)) B.pre
  have h2 : ∀ w ∈ gT, w.before ([.long n] : List Value).toArray s = true := fun w hw => hts0 w (List.mem_cons_of_mem _ hw)
  have hown : s.vm.findClass RX2 = some m.cls := findClass_of_methodNamed B.named
  have hl := lv_entry [.long n] (n := 3) (Nat.le_of_ble_eq_true rfl)
  rw [lg_entry_eq]
  generalize (lg_sl [.long n] ++ List.replicate (3 - (lg_sl [.long n]).length) Slot.unset).toArray = ls at hl ⊢
  have b_n := zn_i64 n
  refine lv_lload_n hx hb (eX2_yearOf (0, .lload_n 0, 1) (List.mem_of_getElem? (i := 0) rfl)) rfl (lv_at hl 0 rfl) ?_
  refine ff_ldc2 (n := 731204528) hx hb hown h2 (clX2_ok 45 731204528 (List.mem_of_getElem? (i := 12) rfl)) (eX2_yearOf (1, .ldc2_w 45, 3) (List.mem_of_getElem? (i := 1) rfl)) (fun v1 e1 => ?_)
  refine ff_ladd hx hb (eX2_yearOf (4, .ladd, 1) (List.mem_of_getElem? (i := 2) rfl)) (by omega) (by omega) (fun v2 e2 => ?_)
  refine ff_ldc2 (n := 400) hx hb hown h2 (clX2_ok 43 400 (List.mem_of_getElem? (i := 11) rfl)) (eX2_yearOf (5, .ldc2_w 43, 3) (List.mem_of_getElem? (i := 3) rfl)) (fun v3 e3 => ?_)
  refine ff_lmulR hx hb (eX2_yearOf (8, .lmul, 1) (List.mem_of_getElem? (i := 4) rfl)) (e3) (by omega) (by omega) (fun v4 e4 => ?_)
  refine ff_ldc2 (n := 146097) hx hb hown h2 (clX2_ok 47 146097 (List.mem_of_getElem? (i := 13) rfl)) (eX2_yearOf (9, .ldc2_w 47, 3) (List.mem_of_getElem? (i := 5) rfl)) (fun v5 e5 => ?_)
  refine ff_ldivP hx hb (eX2_yearOf (12, .ldiv, 1) (List.mem_of_getElem? (i := 6) rfl)) (by omega) (e5) (by decide) (fun v6 e6 => ?_)
  refine ff_ldc2 (n := 2000000) hx hb hown h2 (clX2_ok 29 2000000 (List.mem_of_getElem? (i := 4) rfl)) (eX2_yearOf (13, .ldc2_w 29, 3) (List.mem_of_getElem? (i := 7) rfl)) (fun v7 e7 => ?_)
  refine ff_lsub hx hb (eX2_yearOf (16, .lsub, 1) (List.mem_of_getElem? (i := 8) rfl)) (by omega) (by omega) (fun v8 e8 => ?_)
  refine ff_l2i hx hb (eX2_yearOf (17, .l2i, 1) (List.mem_of_getElem? (i := 9) rfl)) (by omega) (by omega) (fun v9 e9 => ?_)
  refine lv_istore_n hx hb (eX2_yearOf (18, .istore_n 2, 1) (List.mem_of_getElem? (i := 10) rfl)) rfl hl (by decide) rfl (fun ls10 hl10 => ?_)
  refine lv_iload_n hx hb (eX2_yearOf (19, .iload_n 2, 1) (List.mem_of_getElem? (i := 11) rfl)) rfl (lv_at hl10 0 rfl) ?_
  refine zu_S (vs := [.int v9]) (rest := []) hx hb hml hown hts0 zu_BT (hX2_yearStart l v9 (by omega) (by omega)) ⟨rfl, rfl⟩ ⟨by decide, by decide⟩ ⟨by decide, by decide⟩ (tb_2 193 rfl rfl) (tb_1 13 rfl rfl) (tb_2 191 rfl rfl) (tb_2 192 rfl rfl) (show yX2_yearStart.cls ≠ "java/lang/invoke/MethodHandle" ∧ yX2_yearStart.cls ≠ "java/lang/invoke/VarHandle" ∧ (parseMethodDescriptor yX2_yearStart.desc).map (fun d => d.parameters.length) = some 1 by decide +kernel) rfl (fun _ _ _ => trivial) hl10.1 (Nat.le_of_ble_eq_true rfl) (eX2_yearOf (20, .invokestatic 49, 3) (List.mem_of_getElem? (i := 12) rfl)) (fun w11 f11 => ?_)
  obtain ⟨v11, rfl, e11⟩ := f11
  refine lv_lload_n hx hb (eX2_yearOf (23, .lload_n 0, 1) (List.mem_of_getElem? (i := 13) rfl)) rfl (lv_at hl10 1 rfl) ?_
  refine ff_lcmp hx hb (eX2_yearOf (24, .lcmp, 1) (List.mem_of_getElem? (i := 14) rfl)) (fun v12 e12 => ?_)
  refine ff_if_le hx hb (eX2_yearOf (25, .ifCond .le 7, 3) (List.mem_of_getElem? (i := 15) rfl)) (tgt := 32) rfl (fun c13 => ?_) (fun c13 => ?_)
  · skip
    refine lv_iload_n hx hb (eX2_yearOf (32, .iload_n 2, 1) (List.mem_of_getElem? (i := 20) rfl)) rfl (lv_at hl10 0 rfl) ?_
    refine ff_iconst hx hb (eX2_yearOf (33, .iconst 1, 1) (List.mem_of_getElem? (i := 21) rfl)) (by decide) (by decide) (fun v14 e14 => ?_)
    refine ff_iadd hx hb (eX2_yearOf (34, .iadd, 1) (List.mem_of_getElem? (i := 22) rfl)) (by omega) (by omega) (fun v15 e15 => ?_)
    refine zu_S (vs := [.int v15]) (rest := []) hx hb hml hown hts0 zu_BT (hX2_yearStart l v15 (by omega) (by omega)) ⟨rfl, rfl⟩ ⟨by decide, by decide⟩ ⟨by decide, by decide⟩ (tb_2 193 rfl rfl) (tb_1 13 rfl rfl) (tb_2 191 rfl rfl) (tb_2 192 rfl rfl) (show yX2_yearStart.cls ≠ "java/lang/invoke/MethodHandle" ∧ yX2_yearStart.cls ≠ "java/lang/invoke/VarHandle" ∧ (parseMethodDescriptor yX2_yearStart.desc).map (fun d => d.parameters.length) = some 1 by decide +kernel) rfl (fun _ _ _ => trivial) hl10.1 (Nat.le_of_ble_eq_true rfl) (eX2_yearOf (35, .invokestatic 49, 3) (List.mem_of_getElem? (i := 23) rfl)) (fun w16 f16 => ?_)
    obtain ⟨v16, rfl, e16⟩ := f16
    have g16 := (show v16.toInt = ysI (v9.toInt + 1) by rw [e16, show v15.toInt = v9.toInt + 1 by omega])
    refine lv_lload_n hx hb (eX2_yearOf (38, .lload_n 0, 1) (List.mem_of_getElem? (i := 24) rfl)) rfl (lv_at hl10 1 rfl) ?_
    refine ff_lcmp hx hb (eX2_yearOf (39, .lcmp, 1) (List.mem_of_getElem? (i := 25) rfl)) (fun v17 e17 => ?_)
    refine ff_if_gt hx hb (eX2_yearOf (40, .ifCond .gt 9, 3) (List.mem_of_getElem? (i := 26) rfl)) (tgt := 49) rfl (fun c18 => ?_) (fun c18 => ?_)
    · skip
      refine lv_iload_n hx hb (eX2_yearOf (49, .iload_n 2, 1) (List.mem_of_getElem? (i := 31) rfl)) rfl (lv_at hl10 0 rfl) ?_
      exact zu_iret (y := yX2_yearOf) (ws := []) (rm := {}) hx hb hr hlk rfl ⟨_, rfl, by (have h9 := yr_guess (n := n.toInt) (E := v6.toInt) (by omega) (by omega); rw [show v6.toInt - 2000000 - 1 = v9.toInt - 1 by omega, show v6.toInt - 2000000 + 2 = v9.toInt + 2 by omega] at h9; have h8 := yr_pick h9.1 h9.2; refine ⟨?_, by omega, by omega⟩; first | (rw [show v9.toInt = v9.toInt - 1 by omega]; exact h8.1 (by omega)) | (rw [show v9.toInt = v9.toInt + 1 by omega]; exact h8.2.1 (by omega) (by omega)) | (exact h8.2.2 (by omega) (by omega)))⟩ (eX2_yearOf (50, .ireturn, 1) (List.mem_of_getElem? (i := 32) rfl))
    · skip
      refine lv_iload_n hx hb (eX2_yearOf (43, .iload_n 2, 1) (List.mem_of_getElem? (i := 27) rfl)) rfl (lv_at hl10 0 rfl) ?_
      refine ff_iconst hx hb (eX2_yearOf (44, .iconst 1, 1) (List.mem_of_getElem? (i := 28) rfl)) (by decide) (by decide) (fun v19 e19 => ?_)
      refine ff_iadd hx hb (eX2_yearOf (45, .iadd, 1) (List.mem_of_getElem? (i := 29) rfl)) (by omega) (by omega) (fun v20 e20 => ?_)
      refine lv_goto hx hb (eX2_yearOf (46, .goto 4, 3) (List.mem_of_getElem? (i := 30) rfl)) (tgt := 50) rfl ?_
      exact zu_iret (y := yX2_yearOf) (ws := []) (rm := {}) hx hb hr hlk rfl ⟨_, rfl, by (have h9 := yr_guess (n := n.toInt) (E := v6.toInt) (by omega) (by omega); rw [show v6.toInt - 2000000 - 1 = v9.toInt - 1 by omega, show v6.toInt - 2000000 + 2 = v9.toInt + 2 by omega] at h9; have h8 := yr_pick h9.1 h9.2; refine ⟨?_, by omega, by omega⟩; first | (rw [show v20.toInt = v9.toInt - 1 by omega]; exact h8.1 (by omega)) | (rw [show v20.toInt = v9.toInt + 1 by omega]; exact h8.2.1 (by omega) (by omega)) | (exact h8.2.2 (by omega) (by omega)))⟩ (eX2_yearOf (50, .ireturn, 1) (List.mem_of_getElem? (i := 32) rfl))
  · skip
    refine lv_iload_n hx hb (eX2_yearOf (28, .iload_n 2, 1) (List.mem_of_getElem? (i := 16) rfl)) rfl (lv_at hl10 0 rfl) ?_
    refine ff_iconst hx hb (eX2_yearOf (29, .iconst 1, 1) (List.mem_of_getElem? (i := 17) rfl)) (by decide) (by decide) (fun v21 e21 => ?_)
    refine ff_isub hx hb (eX2_yearOf (30, .isub, 1) (List.mem_of_getElem? (i := 18) rfl)) (by omega) (by omega) (fun v22 e22 => ?_)
    exact zu_iret (y := yX2_yearOf) (ws := []) (rm := {}) hx hb hr hlk rfl ⟨_, rfl, by (have h9 := yr_guess (n := n.toInt) (E := v6.toInt) (by omega) (by omega); rw [show v6.toInt - 2000000 - 1 = v9.toInt - 1 by omega, show v6.toInt - 2000000 + 2 = v9.toInt + 2 by omega] at h9; have h8 := yr_pick h9.1 h9.2; refine ⟨?_, by omega, by omega⟩; first | (rw [show v22.toInt = v9.toInt - 1 by omega]; exact h8.1 (by omega)) | (rw [show v22.toInt = v9.toInt + 1 by omega]; exact h8.2.1 (by omega) (by omega)) | (exact h8.2.2 (by omega) (by omega)))⟩ (eX2_yearOf (31, .ireturn, 1) (List.mem_of_getElem? (i := 19) rfl))
set_option maxRecDepth 100000 in
set_option maxHeartbeats 4000000 in
theorem hX2_weekdayOf (l : Launch) (n : Int64) (hn1 : -400000000 ≤ n.toInt) (hn2 : n.toInt ≤ 400000000) : zu_M l yX2_weekdayOf (gW yX2_weekdayOf cX2_weekdayOf 2 (some .int)) { frames := 0, cells := 0, slots := 0, locals := 0 } (fun vs => vs = [.long n]) zT (fun _ w => ∃ r : Int32, w = .int r ∧ r.toInt = (n.toInt + 3) % 7 + 1) := by
  refine zy_ofW (cc := cX2_weekdayOf) (maxL := 2) (ret := (some .int)) (by decide +kernel) rfl ?_
  intro p e s m args below meth c s1 B hml hv
  obtain ⟨vs, rfl, rfl, hKp⟩ := hv
  have hx := B.exec
  have hb := B.bytes
  have hr := B.returns
  have hlk := B.notSynchronized
  have hts0 := atoms_spec (ws := gW yX2_weekdayOf cX2_weekdayOf 2 (some .int)) B.pre
  have h2 : ∀ w ∈ gT, w.before ([.long n] : List Value).toArray s = true := fun w hw => hts0 w (List.mem_cons_of_mem _ hw)
  have hown : s.vm.findClass RX2 = some m.cls := findClass_of_methodNamed B.named
  have hl := lv_entry [.long n] (n := 2) (Nat.le_of_ble_eq_true rfl)
  rw [lg_entry_eq]
  generalize (lg_sl [.long n] ++ List.replicate (2 - (lg_sl [.long n]).length) Slot.unset).toArray = ls at hl ⊢
  have b_n := zn_i64 n
  refine lv_lload_n hx hb (eX2_weekdayOf (0, .lload_n 0, 1) (List.mem_of_getElem? (i := 0) rfl)) rfl (lv_at hl 0 rfl) ?_
  refine ff_ldc2 (n := 5118431696) hx hb hown h2 (clX2_ok 104 5118431696 (List.mem_of_getElem? (i := 19) rfl)) (eX2_weekdayOf (1, .ldc2_w 104, 3) (List.mem_of_getElem? (i := 1) rfl)) (fun v1 e1 => ?_)
  refine ff_ladd hx hb (eX2_weekdayOf (4, .ladd, 1) (List.mem_of_getElem? (i := 2) rfl)) (by omega) (by omega) (fun v2 e2 => ?_)
  refine ff_ldc2 (n := 3) hx hb hown h2 (clX2_ok 33 3 (List.mem_of_getElem? (i := 6) rfl)) (eX2_weekdayOf (5, .ldc2_w 33, 3) (List.mem_of_getElem? (i := 3) rfl)) (fun v3 e3 => ?_)
  refine ff_ladd hx hb (eX2_weekdayOf (8, .ladd, 1) (List.mem_of_getElem? (i := 4) rfl)) (by omega) (by omega) (fun v4 e4 => ?_)
  refine ff_ldc2 (n := 7) hx hb hown h2 (clX2_ok 106 7 (List.mem_of_getElem? (i := 20) rfl)) (eX2_weekdayOf (9, .ldc2_w 106, 3) (List.mem_of_getElem? (i := 5) rfl)) (fun v5 e5 => ?_)
  refine ff_lrem hx hb (eX2_weekdayOf (12, .lrem, 1) (List.mem_of_getElem? (i := 6) rfl)) (e5) (by decide) (fun v6 e6 => ?_)
  refine ff_l2i hx hb (eX2_weekdayOf (13, .l2i, 1) (List.mem_of_getElem? (i := 7) rfl)) (by omega) (by omega) (fun v7 e7 => ?_)
  refine ff_iconst hx hb (eX2_weekdayOf (14, .iconst 1, 1) (List.mem_of_getElem? (i := 8) rfl)) (by decide) (by decide) (fun v8 e8 => ?_)
  refine ff_iadd hx hb (eX2_weekdayOf (15, .iadd, 1) (List.mem_of_getElem? (i := 9) rfl)) (by omega) (by omega) (fun v9 e9 => ?_)
  exact zu_iret (y := yX2_weekdayOf) (ws := []) (rm := {}) hx hb hr hlk rfl ⟨_, rfl, by omega⟩ (eX2_weekdayOf (16, .ireturn, 1) (List.mem_of_getElem? (i := 10) rfl))
set_option maxRecDepth 100000 in
set_option maxHeartbeats 4000000 in
theorem hX2_thursdayOf (l : Launch) (n : Int64) (hn1 : -400000000 ≤ n.toInt) (hn2 : n.toInt ≤ 400000000) : zu_M l yX2_thursdayOf (gW yX2_thursdayOf cX2_thursdayOf 2 (some .long)) { frames := 1, cells := 0, slots := 0, locals := 21 } (fun vs => vs = [.long n]) zT (fun _ w => ∃ r : Int64, w = .long r ∧ r.toInt = n.toInt - (n.toInt + 3) % 7 + 3) := by
  refine zy_ofW (cc := cX2_thursdayOf) (maxL := 2) (ret := (some .long)) (by decide +kernel) rfl ?_
  intro p e s m args below meth c s1 B hml hv
  obtain ⟨vs, rfl, rfl, hKp⟩ := hv
  have hx := B.exec
  have hb := B.bytes
  have hr := B.returns
  have hlk := B.notSynchronized
  have hts0 := atoms_spec (ws := gW yX2_thursdayOf cX2_thursdayOf 2 (some .long)) B.pre
  have h2 : ∀ w ∈ gT, w.before ([.long n] : List Value).toArray s = true := fun w hw => hts0 w (List.mem_cons_of_mem _ hw)
  have hown : s.vm.findClass RX2 = some m.cls := findClass_of_methodNamed B.named
  have hl := lv_entry [.long n] (n := 2) (Nat.le_of_ble_eq_true rfl)
  rw [lg_entry_eq]
  generalize (lg_sl [.long n] ++ List.replicate (2 - (lg_sl [.long n]).length) Slot.unset).toArray = ls at hl ⊢
  have b_n := zn_i64 n
  refine lv_lload_n hx hb (eX2_thursdayOf (0, .lload_n 0, 1) (List.mem_of_getElem? (i := 0) rfl)) rfl (lv_at hl 0 rfl) ?_
  refine lv_lload_n hx hb (eX2_thursdayOf (1, .lload_n 0, 1) (List.mem_of_getElem? (i := 1) rfl)) rfl (lv_at hl 0 rfl) ?_
  refine zu_S (vs := [.long n]) (rest := [.long n]) hx hb hml hown hts0 zu_BT (hX2_weekdayOf l n (by omega) (by omega)) ⟨rfl, rfl⟩ ⟨by decide, by decide⟩ ⟨by decide, by decide⟩ (tb_2 231 rfl rfl) (tb_1 13 rfl rfl) (tb_3 1 rfl rfl) (tb_2 230 rfl rfl) (show yX2_weekdayOf.cls ≠ "java/lang/invoke/MethodHandle" ∧ yX2_weekdayOf.cls ≠ "java/lang/invoke/VarHandle" ∧ (parseMethodDescriptor yX2_weekdayOf.desc).map (fun d => d.parameters.length) = some 1 by decide +kernel) rfl (fun _ _ _ => trivial) hl.1 (Nat.le_of_ble_eq_true rfl) (eX2_thursdayOf (2, .invokestatic 108, 3) (List.mem_of_getElem? (i := 2) rfl)) (fun w1 f1 => ?_)
  obtain ⟨v1, rfl, e1⟩ := f1
  refine ff_i2l hx hb (eX2_thursdayOf (5, .i2l, 1) (List.mem_of_getElem? (i := 3) rfl)) (fun v2 e2 => ?_)
  refine ff_lsub hx hb (eX2_thursdayOf (6, .lsub, 1) (List.mem_of_getElem? (i := 4) rfl)) (by omega) (by omega) (fun v3 e3 => ?_)
  refine ff_ldc2 (n := 4) hx hb hown h2 (clX2_ok 35 4 (List.mem_of_getElem? (i := 7) rfl)) (eX2_thursdayOf (7, .ldc2_w 35, 3) (List.mem_of_getElem? (i := 5) rfl)) (fun v4 e4 => ?_)
  refine ff_ladd hx hb (eX2_thursdayOf (10, .ladd, 1) (List.mem_of_getElem? (i := 6) rfl)) (by omega) (by omega) (fun v5 e5 => ?_)
  exact zu_lret (y := yX2_thursdayOf) (ws := []) (rm := {}) hx hb hr hlk ⟨_, rfl, by omega⟩ (eX2_thursdayOf (11, .lreturn, 1) (List.mem_of_getElem? (i := 7) rfl))
