set_option maxRecDepth 100000 in
set_option maxHeartbeats 4000000 in
theorem hX2_weekStart (l : Launch) (y : Int32) (wk : Int32) (hy1 : -1000000 ≤ y.toInt) (hy2 : y.toInt ≤ 1000000) (hw1 : 0 ≤ wk.toInt) (hw2 : wk.toInt ≤ 100) : zu_M l yX2_weekStart (gW yX2_weekStart cX2_weekStart 4 (some .long)) { frames := 1, cells := 0, slots := 0, locals := 22 } (fun vs => vs = [.int y, .int wk]) zT (fun _ w => ∃ r : Int64, w = .long r ∧ r.toInt = fwI y.toInt + 7 * (wk.toInt - 1) ∧ -400000000 ≤ r.toInt ∧ r.toInt ≤ 400000000) := by
  refine zy_ofW (cc := cX2_weekStart) (maxL := 4) (ret := (some .long)) (by decide +kernel) rfl ?_
  intro p e s m args below meth c s1 B hml hv
  obtain ⟨vs, rfl, rfl, hKp⟩ := hv
  have hx := B.exec
  have hb := B.bytes
  have hr := B.returns
  have hlk := B.notSynchronized
  have hts0 := atoms_spec (ws := gW yX2_weekStart cX2_weekStart 4 (some .long)) B.pre
  have h2 : ∀ w ∈ gT, w.before ([.int y, .int wk] : List Value).toArray s = true := fun w hw => hts0 w (List.mem_cons_of_mem _ hw)
  have hown : s.vm.findClass RX2 = some m.cls := findClass_of_methodNamed B.named
  have hl := lv_entry [.int y, .int wk] (n := 4) (Nat.le_of_ble_eq_true rfl)
  rw [lg_entry_eq]
  generalize (lg_sl [.int y, .int wk] ++ List.replicate (4 - (lg_sl [.int y, .int wk]).length) Slot.unset).toArray = ls at hl ⊢
  have b_y := zn_i32 y
  have b_wk := zn_i32 wk
  refine lv_iload_n hx hb (eX2_weekStart (0, .iload_n 0, 1) (List.mem_of_getElem? (i := 0) rfl)) rfl (lv_at hl 0 rfl) ?_
  refine zu_S (vs := [.int y]) (rest := []) hx hb hml hown hts0 zu_BT (hX2_yearStart l y (by omega) (by omega)) ⟨rfl, rfl⟩ ⟨by decide, by decide⟩ ⟨by decide, by decide⟩ (tb_2 193 rfl rfl) (tb_1 13 rfl rfl) (tb_2 191 rfl rfl) (tb_2 192 rfl rfl) (show yX2_yearStart.cls ≠ "java/lang/invoke/MethodHandle" ∧ yX2_yearStart.cls ≠ "java/lang/invoke/VarHandle" ∧ (parseMethodDescriptor yX2_yearStart.desc).map (fun d => d.parameters.length) = some 1 by decide +kernel) rfl (fun _ _ _ => trivial) hl.1 (Nat.le_of_ble_eq_true rfl) (eX2_weekStart (1, .invokestatic 49, 3) (List.mem_of_getElem? (i := 1) rfl)) (fun w1 f1 => ?_)
  obtain ⟨v1, rfl, e1⟩ := f1
  have g1 := ys_bd2 (y := y.toInt) (by omega) (by omega)
  refine ff_ldc2 (n := 3) hx hb hown h2 (clX2_ok 33 3 (List.mem_of_getElem? (i := 6) rfl)) (eX2_weekStart (4, .ldc2_w 33, 3) (List.mem_of_getElem? (i := 2) rfl)) (fun v2 e2 => ?_)
  refine ff_ladd hx hb (eX2_weekStart (7, .ladd, 1) (List.mem_of_getElem? (i := 3) rfl)) (by omega) (by omega) (fun v3 e3 => ?_)
  refine lv_lstore_n hx hb (eX2_weekStart (8, .lstore_n 2, 1) (List.mem_of_getElem? (i := 4) rfl)) rfl hl (by decide) rfl (fun ls4 hl4 => ?_)
  refine lv_lload_n hx hb (eX2_weekStart (9, .lload_n 2, 1) (List.mem_of_getElem? (i := 5) rfl)) rfl (lv_at hl4 0 rfl) ?_
  refine lv_lload_n hx hb (eX2_weekStart (10, .lload_n 2, 1) (List.mem_of_getElem? (i := 6) rfl)) rfl (lv_at hl4 0 rfl) ?_
  refine zu_S (vs := [.long v3]) (rest := [.long v3]) hx hb hml hown hts0 zu_BT (hX2_weekdayOf l v3 (by omega) (by omega)) ⟨rfl, rfl⟩ ⟨by decide, by decide⟩ ⟨by decide, by decide⟩ (tb_2 231 rfl rfl) (tb_1 13 rfl rfl) (tb_3 1 rfl rfl) (tb_2 230 rfl rfl) (show yX2_weekdayOf.cls ≠ "java/lang/invoke/MethodHandle" ∧ yX2_weekdayOf.cls ≠ "java/lang/invoke/VarHandle" ∧ (parseMethodDescriptor yX2_weekdayOf.desc).map (fun d => d.parameters.length) = some 1 by decide +kernel) rfl (fun _ _ _ => trivial) hl4.1 (Nat.le_of_ble_eq_true rfl) (eX2_weekStart (11, .invokestatic 108, 3) (List.mem_of_getElem? (i := 7) rfl)) (fun w5 f5 => ?_)
  obtain ⟨v5, rfl, e5⟩ := f5
  refine ff_i2l hx hb (eX2_weekStart (14, .i2l, 1) (List.mem_of_getElem? (i := 8) rfl)) (fun v6 e6 => ?_)
  refine ff_lsub hx hb (eX2_weekStart (15, .lsub, 1) (List.mem_of_getElem? (i := 9) rfl)) (by omega) (by omega) (fun v7 e7 => ?_)
  refine ff_lconst hx hb (eX2_weekStart (16, .lconst 1, 1) (List.mem_of_getElem? (i := 10) rfl)) rfl (fun v8 e8 => ?_)
  refine ff_ladd hx hb (eX2_weekStart (17, .ladd, 1) (List.mem_of_getElem? (i := 11) rfl)) (by omega) (by omega) (fun v9 e9 => ?_)
  refine ff_ldc2 (n := 7) hx hb hown h2 (clX2_ok 106 7 (List.mem_of_getElem? (i := 20) rfl)) (eX2_weekStart (18, .ldc2_w 106, 3) (List.mem_of_getElem? (i := 12) rfl)) (fun v10 e10 => ?_)
  refine lv_iload_n hx hb (eX2_weekStart (21, .iload_n 1, 1) (List.mem_of_getElem? (i := 13) rfl)) rfl (lv_at hl4 2 rfl) ?_
  refine ff_iconst hx hb (eX2_weekStart (22, .iconst 1, 1) (List.mem_of_getElem? (i := 14) rfl)) (by decide) (by decide) (fun v11 e11 => ?_)
  refine ff_isub hx hb (eX2_weekStart (23, .isub, 1) (List.mem_of_getElem? (i := 15) rfl)) (by omega) (by omega) (fun v12 e12 => ?_)
  refine ff_i2l hx hb (eX2_weekStart (24, .i2l, 1) (List.mem_of_getElem? (i := 16) rfl)) (fun v13 e13 => ?_)
  refine ff_lmulL hx hb (eX2_weekStart (25, .lmul, 1) (List.mem_of_getElem? (i := 17) rfl)) (e10) (by omega) (by omega) (fun v14 e14 => ?_)
  refine ff_ladd hx hb (eX2_weekStart (26, .ladd, 1) (List.mem_of_getElem? (i := 18) rfl)) (by omega) (by omega) (fun v15 e15 => ?_)
  exact zu_lret (y := yX2_weekStart) (ws := []) (rm := {}) hx hb hr hlk ⟨_, rfl, by (unfold fwI; omega)⟩ (eX2_weekStart (27, .lreturn, 1) (List.mem_of_getElem? (i := 19) rfl))
set_option maxRecDepth 100000 in
set_option maxHeartbeats 4000000 in
theorem hX11_weekDay (l : Launch) (hst : l.stackTraces = false) (D : va_G) (cA : Nat → ClassId) (ro : Nat → Option Nat) (sz : Nat) (H0 : Heap) (x : Nat) (y : Int32) (wk : Int32) (d : Int32) : vx_Met l yX11_weekDay (gW yX11_weekDay cX11_weekDay 6 (some .long)) { frames := 6, cells := 1, slots := 6, locals := 82 } (zd_PX D cA ro sz H0 [.ref x, .int y, .int wk, .int d]) (zg_QXl (wdV y.toInt wk.toInt d.toInt) (wdG y.toInt wk.toInt d.toInt)) (zg_XX D cA ro sz H0 (wdV y.toInt wk.toInt d.toInt)) 1 6 (zy_fr sz) := by
  refine vx_ofW (cc := cX11_weekDay) (maxL := 6) (ret := (some .long)) (by decide +kernel) rfl ?_
  intro p e s m args below meth c s1 B hml hex hv
  obtain ⟨rfl, hh, hKx, hKp⟩ := hv
  have hx := B.exec
  have hb := B.bytes
  have hr := B.returns
  have hlk := B.notSynchronized
  have hts0 := atoms_spec (ws := gW yX11_weekDay cX11_weekDay 6 (some .long)) B.pre
  have h2 : ∀ w ∈ gT, w.before ([.ref x, .int y, .int wk, .int d] : List Value).toArray s = true := fun w hw => hts0 w (List.mem_cons_of_mem _ hw)
  have hown : s.vm.findClass RX11 = some m.cls := findClass_of_methodNamed B.named
  have hl := lv_entry [.ref x, .int y, .int wk, .int d] (n := 6) (Nat.le_of_ble_eq_true rfl)
  rw [lg_entry_eq]
  generalize (lg_sl [.ref x, .int y, .int wk, .int d] ++ List.replicate (6 - (lg_sl [.ref x, .int y, .int wk, .int d]).length) Slot.unset).toArray = ls at hl ⊢
  have b_y := zn_i32 y
  have b_wk := zn_i32 wk
  have b_d := zn_i32 d
  have hBM : ∀ U : State, U.heap = s.heap → s.WarmedH U.vm → zBM cA U := fun U hU hW => zBM_B.2 s U hW hU hKp
  refine lv_iload_n hx hb (eX11_weekDay (0, .iload_n 1, 1) (List.mem_of_getElem? (i := 0) rfl)) rfl (lv_at hl 1 rfl) ?_
  refine zu_S (vs := [.int y]) (rest := []) hx hb hml hown hts0 zu_BT (hX2_holdsYear l y) ⟨rfl, rfl⟩ ⟨by decide, by decide⟩ ⟨by decide, by decide⟩ (tb_2 110 rfl rfl) (tb_1 13 rfl rfl) (tb_2 108 rfl rfl) (tb_2 109 rfl rfl) (show yX2_holdsYear.cls ≠ "java/lang/invoke/MethodHandle" ∧ yX2_holdsYear.cls ≠ "java/lang/invoke/VarHandle" ∧ (parseMethodDescriptor yX2_holdsYear.desc).map (fun d => d.parameters.length) = some 1 by decide +kernel) rfl (fun _ _ _ => trivial) hl.1 (Nat.le_of_ble_eq_true rfl) (eX11_weekDay (1, .invokestatic 73, 3) (List.mem_of_getElem? (i := 1) rfl)) (fun w1 f1 => ?_)
  obtain ⟨v1, rfl, e1⟩ := f1
  refine ff_if_eq hx hb (eX11_weekDay (4, .ifCond .eq 27, 3) (List.mem_of_getElem? (i := 2) rfl)) (tgt := 31) rfl (fun c2 => ?_) (fun c2 => ?_)
  · skip
    exact zx_leafG (ik := 83) (is := 132) (ic := 87) (cls := "java/lang/IllegalArgumentException") (text := "no such day of a week") hx hb hst hown h2 hKx hh hh (by rw [hl.1, hml]) hex hlk ⟨by decide, by decide, by decide, by decide⟩ (tb_2 121 rfl rfl) (tb_1 17 rfl rfl) (by decide) (gAt_in gAt_1) (by decide +kernel) (by decide) (by decide) (fun t h7 h8 => ⟨rfl, fun h => by have h9 := wd_year h; unfold wdV at h; omega, hh.grow h7 h8⟩) (eX11_weekDay (31, .new 83, 3) (List.mem_of_getElem? (i := 16) rfl)) (eX11_weekDay (34, .dup, 1) (List.mem_of_getElem? (i := 17) rfl)) (eX11_weekDay (35, .ldc 132, 2) (List.mem_of_getElem? (i := 18) rfl)) (eX11_weekDay (37, .invokespecial 87, 3) (List.mem_of_getElem? (i := 19) rfl)) (eX11_weekDay (40, .athrow, 1) (List.mem_of_getElem? (i := 20) rfl))
  · skip
    refine lv_iload_n hx hb (eX11_weekDay (7, .iload_n 2, 1) (List.mem_of_getElem? (i := 3) rfl)) rfl (lv_at hl 2 rfl) ?_
    refine ff_iconst hx hb (eX11_weekDay (8, .iconst 1, 1) (List.mem_of_getElem? (i := 4) rfl)) (by decide) (by decide) (fun v3 e3 => ?_)
    refine ff_icmp_lt hx hb (eX11_weekDay (9, .if_icmp .lt 22, 3) (List.mem_of_getElem? (i := 5) rfl)) (tgt := 31) rfl (fun c4 => ?_) (fun c4 => ?_)
    · skip
      exact zx_leafG (ik := 83) (is := 132) (ic := 87) (cls := "java/lang/IllegalArgumentException") (text := "no such day of a week") hx hb hst hown h2 hKx hh hh (by rw [hl.1, hml]) hex hlk ⟨by decide, by decide, by decide, by decide⟩ (tb_2 121 rfl rfl) (tb_1 17 rfl rfl) (by decide) (gAt_in gAt_1) (by decide +kernel) (by decide) (by decide) (fun t h7 h8 => ⟨rfl, fun h => by have h9 := wd_year h; unfold wdV at h; omega, hh.grow h7 h8⟩) (eX11_weekDay (31, .new 83, 3) (List.mem_of_getElem? (i := 16) rfl)) (eX11_weekDay (34, .dup, 1) (List.mem_of_getElem? (i := 17) rfl)) (eX11_weekDay (35, .ldc 132, 2) (List.mem_of_getElem? (i := 18) rfl)) (eX11_weekDay (37, .invokespecial 87, 3) (List.mem_of_getElem? (i := 19) rfl)) (eX11_weekDay (40, .athrow, 1) (List.mem_of_getElem? (i := 20) rfl))
    · skip
      refine lv_iload_n hx hb (eX11_weekDay (12, .iload_n 2, 1) (List.mem_of_getElem? (i := 6) rfl)) rfl (lv_at hl 2 rfl) ?_
      refine lv_iload_n hx hb (eX11_weekDay (13, .iload_n 1, 1) (List.mem_of_getElem? (i := 7) rfl)) rfl (lv_at hl 1 rfl) ?_
      refine zu_S (vs := [.int y]) (rest := [.int wk]) hx hb hml hown hts0 zu_BT (hX2_weeksOf l y (by omega) (by omega)) ⟨rfl, rfl⟩ ⟨by decide, by decide⟩ ⟨by decide, by decide⟩ (tb_3 8 rfl rfl) (tb_1 13 rfl rfl) (tb_3 6 rfl rfl) (tb_3 7 rfl rfl) (show yX2_weeksOf.cls ≠ "java/lang/invoke/MethodHandle" ∧ yX2_weeksOf.cls ≠ "java/lang/invoke/VarHandle" ∧ (parseMethodDescriptor yX2_weeksOf.desc).map (fun d => d.parameters.length) = some 1 by decide +kernel) rfl (fun _ _ _ => trivial) hl.1 (Nat.le_of_ble_eq_true rfl) (eX11_weekDay (14, .invokestatic 126, 3) (List.mem_of_getElem? (i := 8) rfl)) (fun w5 f5 => ?_)
      obtain ⟨v5, rfl, e5⟩ := f5
      have g5 := wk_bd y.toInt
      refine ff_icmp_gt hx hb (eX11_weekDay (17, .if_icmp .gt 14, 3) (List.mem_of_getElem? (i := 9) rfl)) (tgt := 31) rfl (fun c6 => ?_) (fun c6 => ?_)
      · skip
        exact zx_leafG (ik := 83) (is := 132) (ic := 87) (cls := "java/lang/IllegalArgumentException") (text := "no such day of a week") hx hb hst hown h2 hKx hh hh (by rw [hl.1, hml]) hex hlk ⟨by decide, by decide, by decide, by decide⟩ (tb_2 121 rfl rfl) (tb_1 17 rfl rfl) (by decide) (gAt_in gAt_1) (by decide +kernel) (by decide) (by decide) (fun t h7 h8 => ⟨rfl, fun h => by have h9 := wd_year h; unfold wdV at h; omega, hh.grow h7 h8⟩) (eX11_weekDay (31, .new 83, 3) (List.mem_of_getElem? (i := 16) rfl)) (eX11_weekDay (34, .dup, 1) (List.mem_of_getElem? (i := 17) rfl)) (eX11_weekDay (35, .ldc 132, 2) (List.mem_of_getElem? (i := 18) rfl)) (eX11_weekDay (37, .invokespecial 87, 3) (List.mem_of_getElem? (i := 19) rfl)) (eX11_weekDay (40, .athrow, 1) (List.mem_of_getElem? (i := 20) rfl))
      · skip
        refine lv_iload_n hx hb (eX11_weekDay (20, .iload_n 3, 1) (List.mem_of_getElem? (i := 10) rfl)) rfl (lv_at hl 3 rfl) ?_
        refine ff_iconst hx hb (eX11_weekDay (21, .iconst 1, 1) (List.mem_of_getElem? (i := 11) rfl)) (by decide) (by decide) (fun v7 e7 => ?_)
        refine ff_icmp_lt hx hb (eX11_weekDay (22, .if_icmp .lt 9, 3) (List.mem_of_getElem? (i := 12) rfl)) (tgt := 31) rfl (fun c8 => ?_) (fun c8 => ?_)
        · skip
          exact zx_leafG (ik := 83) (is := 132) (ic := 87) (cls := "java/lang/IllegalArgumentException") (text := "no such day of a week") hx hb hst hown h2 hKx hh hh (by rw [hl.1, hml]) hex hlk ⟨by decide, by decide, by decide, by decide⟩ (tb_2 121 rfl rfl) (tb_1 17 rfl rfl) (by decide) (gAt_in gAt_1) (by decide +kernel) (by decide) (by decide) (fun t h7 h8 => ⟨rfl, fun h => by have h9 := wd_year h; unfold wdV at h; omega, hh.grow h7 h8⟩) (eX11_weekDay (31, .new 83, 3) (List.mem_of_getElem? (i := 16) rfl)) (eX11_weekDay (34, .dup, 1) (List.mem_of_getElem? (i := 17) rfl)) (eX11_weekDay (35, .ldc 132, 2) (List.mem_of_getElem? (i := 18) rfl)) (eX11_weekDay (37, .invokespecial 87, 3) (List.mem_of_getElem? (i := 19) rfl)) (eX11_weekDay (40, .athrow, 1) (List.mem_of_getElem? (i := 20) rfl))
        · skip
          refine lv_iload_n hx hb (eX11_weekDay (25, .iload_n 3, 1) (List.mem_of_getElem? (i := 13) rfl)) rfl (lv_at hl 3 rfl) ?_
          refine ff_bipush hx hb (eX11_weekDay (26, .bipush 7, 2) (List.mem_of_getElem? (i := 14) rfl)) (by decide) (by decide) (fun v9 e9 => ?_)
          refine ff_icmp_le hx hb (eX11_weekDay (28, .if_icmp .le 13, 3) (List.mem_of_getElem? (i := 15) rfl)) (tgt := 41) rfl (fun c10 => ?_) (fun c10 => ?_)
          · skip
            refine lv_iload_n hx hb (eX11_weekDay (41, .iload_n 1, 1) (List.mem_of_getElem? (i := 21) rfl)) rfl (lv_at hl 1 rfl) ?_
            refine lv_iload_n hx hb (eX11_weekDay (42, .iload_n 2, 1) (List.mem_of_getElem? (i := 22) rfl)) rfl (lv_at hl 2 rfl) ?_
            refine zu_S (vs := [.int y, .int wk]) (rest := []) hx hb hml hown hts0 zu_BT (hX2_weekStart l y wk (by omega) (by omega) (by omega) (by omega)) ⟨rfl, rfl⟩ ⟨by decide, by decide⟩ ⟨by decide, by decide⟩ (tb_3 20 rfl rfl) (tb_1 13 rfl rfl) (tb_3 18 rfl rfl) (tb_3 19 rfl rfl) (show yX2_weekStart.cls ≠ "java/lang/invoke/MethodHandle" ∧ yX2_weekStart.cls ≠ "java/lang/invoke/VarHandle" ∧ (parseMethodDescriptor yX2_weekStart.desc).map (fun d => d.parameters.length) = some 2 by decide +kernel) rfl (fun _ _ _ => trivial) hl.1 (Nat.le_of_ble_eq_true rfl) (eX11_weekDay (43, .invokestatic 134, 3) (List.mem_of_getElem? (i := 23) rfl)) (fun w11 f11 => ?_)
            obtain ⟨v11, rfl, e11⟩ := f11
            refine lv_iload_n hx hb (eX11_weekDay (46, .iload_n 3, 1) (List.mem_of_getElem? (i := 24) rfl)) rfl (lv_at hl 3 rfl) ?_
            refine ff_i2l hx hb (eX11_weekDay (47, .i2l, 1) (List.mem_of_getElem? (i := 25) rfl)) (fun v12 e12 => ?_)
            refine ff_ladd hx hb (eX11_weekDay (48, .ladd, 1) (List.mem_of_getElem? (i := 26) rfl)) (by omega) (by omega) (fun v13 e13 => ?_)
            refine ff_lconst hx hb (eX11_weekDay (49, .lconst 1, 1) (List.mem_of_getElem? (i := 27) rfl)) rfl (fun v14 e14 => ?_)
            refine ff_lsub hx hb (eX11_weekDay (50, .lsub, 1) (List.mem_of_getElem? (i := 28) rfl)) (by omega) (by omega) (fun v15 e15 => ?_)
            refine lv_lstore hx hb (eX11_weekDay (51, .lstore 4, 2) (List.mem_of_getElem? (i := 29) rfl)) hl (by decide) rfl (fun ls16 hl16 => ?_)
            refine lv_lload hx hb (eX11_weekDay (53, .lload 4, 2) (List.mem_of_getElem? (i := 30) rfl)) (lv_at hl16 0 rfl) ?_
            refine zu_S (vs := [.long v15]) (rest := []) hx hb hml hown hts0 zu_BT (hX2_holds l v15) ⟨rfl, rfl⟩ ⟨by decide, by decide⟩ ⟨by decide, by decide⟩ (tb_2 212 rfl rfl) (tb_1 13 rfl rfl) (tb_2 210 rfl rfl) (tb_2 211 rfl rfl) (show yX2_holds.cls ≠ "java/lang/invoke/MethodHandle" ∧ yX2_holds.cls ≠ "java/lang/invoke/VarHandle" ∧ (parseMethodDescriptor yX2_holds.desc).map (fun d => d.parameters.length) = some 1 by decide +kernel) rfl (fun _ _ _ => trivial) hl16.1 (Nat.le_of_ble_eq_true rfl) (eX11_weekDay (55, .invokestatic 94, 3) (List.mem_of_getElem? (i := 31) rfl)) (fun w17 f17 => ?_)
            obtain ⟨v17, rfl, e17⟩ := f17
            refine ff_if_ne hx hb (eX11_weekDay (58, .ifCond .ne 13, 3) (List.mem_of_getElem? (i := 32) rfl)) (tgt := 71) rfl (fun c18 => ?_) (fun c18 => ?_)
            · skip
              refine lv_lload hx hb (eX11_weekDay (71, .lload 4, 2) (List.mem_of_getElem? (i := 38) rfl)) (lv_at hl16 0 rfl) ?_
              exact vx_ret (W.widen (k := 1) (n := 6) (Nat.zero_le _) (Nat.zero_le _) (W.lret hx hb hr (fun t ht hW => ⟨_, rfl, ht, by unfold wdV; omega, by unfold wdG; omega⟩) (fun q hq => by cases hq) (eX11_weekDay (73, .lreturn, 1) (List.mem_of_getElem? (i := 39) rfl))))
            · skip
              exact zx_leafG (ik := 83) (is := 98) (ic := 87) (cls := "java/lang/IllegalArgumentException") (text := "a day of no year") hx hb hst hown h2 hKx hh hh (by rw [hl16.1, hml]) hex hlk ⟨by decide, by decide, by decide, by decide⟩ (tb_2 121 rfl rfl) (tb_1 17 rfl rfl) (by decide) (gAt_in gAt_1) (by decide +kernel) (by decide) (by decide) (fun t h7 h8 => ⟨rfl, fun h => by have h9 := wd_year h; unfold wdV at h; omega, hh.grow h7 h8⟩) (eX11_weekDay (61, .new 83, 3) (List.mem_of_getElem? (i := 33) rfl)) (eX11_weekDay (64, .dup, 1) (List.mem_of_getElem? (i := 34) rfl)) (eX11_weekDay (65, .ldc 98, 2) (List.mem_of_getElem? (i := 35) rfl)) (eX11_weekDay (67, .invokespecial 87, 3) (List.mem_of_getElem? (i := 36) rfl)) (eX11_weekDay (70, .athrow, 1) (List.mem_of_getElem? (i := 37) rfl))
          · skip
            exact zx_leafG (ik := 83) (is := 132) (ic := 87) (cls := "java/lang/IllegalArgumentException") (text := "no such day of a week") hx hb hst hown h2 hKx hh hh (by rw [hl.1, hml]) hex hlk ⟨by decide, by decide, by decide, by decide⟩ (tb_2 121 rfl rfl) (tb_1 17 rfl rfl) (by decide) (gAt_in gAt_1) (by decide +kernel) (by decide) (by decide) (fun t h7 h8 => ⟨rfl, fun h => by have h9 := wd_year h; unfold wdV at h; omega, hh.grow h7 h8⟩) (eX11_weekDay (31, .new 83, 3) (List.mem_of_getElem? (i := 16) rfl)) (eX11_weekDay (34, .dup, 1) (List.mem_of_getElem? (i := 17) rfl)) (eX11_weekDay (35, .ldc 132, 2) (List.mem_of_getElem? (i := 18) rfl)) (eX11_weekDay (37, .invokespecial 87, 3) (List.mem_of_getElem? (i := 19) rfl)) (eX11_weekDay (40, .athrow, 1) (List.mem_of_getElem? (i := 20) rfl))
set_option maxRecDepth 100000 in
set_option maxHeartbeats 4000000 in
theorem wE_weekDay (l : Launch) (hst : l.stackTraces = false) (D : va_G) (cA : Nat → ClassId) (ro : Nat → Option Nat) (sz : Nat) (H0 : Heap) (x : Nat) (p1 : Int32) (p2 : Int32) (p3 : Int32) (o : Nat) (hx10 : ro x = some 10) (ho : ro o = some 42) : Met l yL_weekDay (Cond.codeWith yL_weekDay cL_weekDay 6 (some .int) [(0, 11, 14, 13)] :: gT) { frames := 7, cells := 1, slots := 6, locals := 107 } (zd_PL D cA ro sz H0 [.ref x, .int p1, .int p2, .int p3, .ref o]) (zg_QL D cA ro sz H0 o (wdV p1.toInt p2.toInt p3.toInt) (wdG p1.toInt p2.toInt p3.toInt)) 1 6 (zy_fr sz) := by
  refine zw_ofW (cc := cL_weekDay) (maxL := 6) (ret := some .int) (by decide +kernel) rfl ?_
  intro p e s m args below meth c s1 B hml hv
  obtain ⟨rfl, hh, hKa, hBM⟩ := hv
  have hx := B.exec
  have hb := B.bytes
  have hr := B.returns
  have hlk := B.notSynchronized
  have hts0 := atoms_spec (ws := Cond.codeWith yL_weekDay cL_weekDay 6 (some .int) [(0, 11, 14, 13)] :: gT) B.pre
  have h2 : ∀ w ∈ gT, w.before ([.ref x, .int p1, .int p2, .int p3, .ref o] : List Value).toArray s = true := fun w hw => hts0 w (List.mem_cons_of_mem _ hw)
  have hown : s.vm.findClass RL = some m.cls := findClass_of_methodNamed B.named
  have hl := lv_entry [.ref x, .int p1, .int p2, .int p3, .ref o] (n := 6) (Nat.le_of_ble_eq_true rfl)
  rw [lg_entry_eq]
  generalize (lg_sl [.ref x, .int p1, .int p2, .int p3, .ref o] ++ List.replicate (6 - (lg_sl [.ref x, .int p1, .int p2, .int p3, .ref o]).length) Slot.unset).toArray = ls at hl ⊢
  refine lv_aload hx hb (eL_weekDay (0, .aload 4, 2) (List.mem_of_getElem? (i := 0) rfl)) (lv_at hl 4 rfl) ?_
  refine ff_iconst hx hb (eL_weekDay (2, .iconst 0, 1) (List.mem_of_getElem? (i := 1) rfl)) (by decide) (by decide) (fun v1 e1 => ?_)
  refine lv_aload_n hx hb (eL_weekDay (3, .aload_n 0, 1) (List.mem_of_getElem? (i := 2) rfl)) rfl (lv_at hl 0 rfl) ?_
  refine lv_iload_n hx hb (eL_weekDay (4, .iload_n 1, 1) (List.mem_of_getElem? (i := 3) rfl)) rfl (lv_at hl 1 rfl) ?_
  refine lv_iload_n hx hb (eL_weekDay (5, .iload_n 2, 1) (List.mem_of_getElem? (i := 4) rfl)) rfl (lv_at hl 2 rfl) ?_
  refine lv_iload_n hx hb (eL_weekDay (6, .iload_n 3, 1) (List.mem_of_getElem? (i := 5) rfl)) rfl (lv_at hl 3 rfl) ?_
  refine zx_rowG (As := [.int p1, .int p2, .int p3]) (st := [.int v1, .ref o]) (b := x) (C := RX11) hx hb hml hown hts0 (hX11_weekDay l hst D cA ro sz H0 x p1 p2 p3) ⟨rfl, rfl⟩ ⟨by decide, by decide⟩ ⟨by decide, by decide⟩ (tb_3 16 rfl rfl) (tb_1 1 rfl rfl) (tb_3 13 rfl rfl) (tb_3 14 rfl rfl) (tb_3 15 rfl rfl) rfl (show yX11_weekDay.cls ≠ "java/lang/invoke/MethodHandle" ∧ yX11_weekDay.cls ≠ "java/lang/invoke/VarHandle" ∧ (parseMethodDescriptor yX11_weekDay.desc).map (fun d => d.parameters.length) = some 3 by decide +kernel) zd_blindX (zw_ob hh hKa.1.1.1 hx10) (fun U hU hW => ⟨rfl, by rw [hU]; exact hh, hKa.1.warm hW, zBM_B.2 s U hW hU hBM⟩) (fun q hq => by cases hq) hl.1 (Nat.le_of_ble_eq_true rfl) (eL_weekDay (7, .invokevirtual 19, 3) (List.mem_of_getElem? (i := 6) rfl)) (fun v s0 t lo1 g0 g1 g2 => ?_) (fun q s0 t lo1 E ce g0 g1 g3 g4 g5 g2 => ?_)
  · obtain ⟨r9, q1, q2, q3, q4⟩ := g1
    cases q1
    have hh1 : zh_ok D cA RTg ro sz H0 t.heap lo1 := by rw [q2, g0]; exact ⟨hh.1, hh.2.1, g2, hh.2.2.2⟩
    refine W.eq (g2 := F0 m 10 ls [.long r9, .int v1, .ref o]) rfl ?_
    refine zw_out hx hb hh1 hKa.1.1.1 ho (by omega) (eL_weekDay (10, .lastore, 1) (List.mem_of_getElem? (i := 7) rfl)) (fun H9 lo9 hh9 _ _ hz9 => ?_)
    obtain ⟨z9, hz9, hz8⟩ := hz9
    refine lv_goto hx hb (eL_weekDay (11, .goto 7, 3) (List.mem_of_getElem? (i := 8) rfl)) (tgt := 18) rfl ?_
    refine ff_iconst hx hb (eL_weekDay (18, .iconst 0, 1) (List.mem_of_getElem? (i := 12) rfl)) (by decide) (by decide) (fun v2 e2 => ?_)
    exact W.zret hx hb hr rfl (fun t ht hW => ⟨_, rfl, by rw [ht]; exact hh9.l0, Or.inl ⟨by omega, q3, z9, r9, by rw [ht]; exact hz9, hz8, q4⟩⟩) hh9.2.2.1 (eL_weekDay (19, .ireturn, 1) (List.mem_of_getElem? (i := 13) rfl))
  · obtain ⟨rfl, q3, q4⟩ := g1
    have hh1 : zh_ok D cA RTg ro sz H0 t.heap lo1 := ⟨q4.1, q4.2.1, g2, q4.2.2.2⟩
    refine vx_catch (own := RL) (name := "java/lang/IllegalArgumentException") hown [] ⟨0, 11, 14, 13⟩ [] (vx_table (x := yL_weekDay) B (h2 _ (tb_3 12 rfl rfl))) (fun z hz => by cases hz) rfl (by decide) (h2 _ (tb_2 103 rfl rfl)) (va_Nw.use rfl (hKa.1.2.2.2.2.1 (eI, eI) (List.mem_of_getElem? (i := 0) rfl))) g3 g4 g5 ?_
    refine lv_astore hx hb (eL_weekDay (14, .astore 5, 2) (List.mem_of_getElem? (i := 9) rfl)) hl (by decide) rfl (fun ls3 hl3 => ?_)
    refine ff_iconst hx hb (eL_weekDay (16, .iconst 1, 1) (List.mem_of_getElem? (i := 10) rfl)) (by decide) (by decide) (fun v4 e4 => ?_)
    exact W.zret hx hb hr rfl (fun t ht hW => ⟨_, rfl, by rw [ht]; exact hh1.l0, Or.inr ⟨by omega, q3⟩⟩) hh1.2.2.1 (eL_weekDay (17, .ireturn, 1) (List.mem_of_getElem? (i := 11) rfl))
set_option maxRecDepth 100000 in
set_option maxHeartbeats 4000000 in
theorem hX12_weekDay (l : Launch) (D : va_G) (cA : Nat → ClassId) (ro : Nat → Option Nat) (sz : Nat) (H0 : Heap) (a : Nat) (y : Int32) (wk : Int32) (d : Int32) (ha : ro a = some 11)  : Met l yX12_weekDay (gW yX12_weekDay cX12_weekDay 6 (some .long)) { frames := 4, cells := 0, slots := 0, locals := 100 } (zd_Pc D cA ro sz H0 [.ref a, .int y, .int wk, .int d]) (zg_Ql D cA ro sz H0 a (wdV y.toInt wk.toInt d.toInt) (wdG y.toInt wk.toInt d.toInt)) 0 0 (zy_fr sz) := by
  refine zy_ofW (cc := cX12_weekDay) (maxL := 6) (ret := (some .long)) (by decide +kernel) rfl ?_
  intro p e s m args below meth c s1 B hml hv
  obtain ⟨rfl, hh, hKn⟩ := hv
  have hx := B.exec
  have hb := B.bytes
  have hr := B.returns
  have hlk := B.notSynchronized
  have hts0 := atoms_spec (ws := gW yX12_weekDay cX12_weekDay 6 (some .long)) B.pre
  have h2 : ∀ w ∈ gT, w.before ([.ref a, .int y, .int wk, .int d] : List Value).toArray s = true := fun w hw => hts0 w (List.mem_cons_of_mem _ hw)
  have hown : s.vm.findClass RX12 = some m.cls := findClass_of_methodNamed B.named
  have hl := lv_entry [.ref a, .int y, .int wk, .int d] (n := 6) (Nat.le_of_ble_eq_true rfl)
  rw [lg_entry_eq]
  generalize (lg_sl [.ref a, .int y, .int wk, .int d] ++ List.replicate (6 - (lg_sl [.ref a, .int y, .int wk, .int d]).length) Slot.unset).toArray = ls at hl ⊢
  have b_y := zn_i32 y
  have b_wk := zn_i32 wk
  have b_d := zn_i32 d
  have hD := zD_all h2 hKn.1
  have hcl := fun (idx k : Nat) (t : zt_T) (h : (idx, 11, k) ∈ gfX12) (hk : fsX12[k]? = some t) => zf_clause (ro := ro) (ms := [(11, 0), (11, 18), (11, 19), (11, 20)]) h2 hown hKn.1 gfX12_ok (by decide +kernel) idx 11 k 11 0 fsX12 t h rfl hk
  have kp0 : zc_kept D RTg ro [(11, 0), (11, 18), (11, 19), (11, 20)] s.heap s.heap := zc_kept.refl
  have hq0 : ∀ q : Nat, q ≠ a → s.heap[q]? = s.heap[q]? := fun _ _ => rfl
  refine lv_iload_n hx hb (eX12_weekDay (0, .iload_n 1, 1) (List.mem_of_getElem? (i := 0) rfl)) rfl (lv_at hl 1 rfl) ?_
  refine ff_i2l hx hb (eX12_weekDay (1, .i2l, 1) (List.mem_of_getElem? (i := 1) rfl)) (fun v1 e1 => ?_)
  refine zu_S (vs := [.long v1]) (rest := []) hx hb hml hown hts0 zu_BT (hX12_firstWeek l v1 (by omega) (by omega)) ⟨rfl, rfl⟩ ⟨by decide, by decide⟩ ⟨by decide, by decide⟩ (tb_7 77 rfl rfl) (tb_1 12 rfl rfl) (tb_7 75 rfl rfl) (tb_7 76 rfl rfl) (show yX12_firstWeek.cls ≠ "java/lang/invoke/MethodHandle" ∧ yX12_firstWeek.cls ≠ "java/lang/invoke/VarHandle" ∧ (parseMethodDescriptor yX12_firstWeek.desc).map (fun d => d.parameters.length) = some 1 by decide +kernel) rfl (fun _ _ _ => trivial) hl.1 (Nat.le_of_ble_eq_true rfl) (eX12_weekDay (2, .invokestatic 142, 3) (List.mem_of_getElem? (i := 2) rfl)) (fun w2 f2 => ?_)
  obtain ⟨v2, rfl, e2⟩ := f2
  have g2 := (show v2.toInt = fwI y.toInt ∧ -1000000000003 ≤ fwI y.toInt ∧ fwI y.toInt ≤ 1000000000003 by have h8 := fw_bd y.toInt; have h4 := ys_bd3 (y := y.toInt) (by omega) (by omega); refine ⟨by rw [e2, show v1.toInt = y.toInt by omega], by omega, by omega⟩)
  refine ff_ldc2 (n := 7) hx hb hown h2 (clX12_ok 136 7 (List.mem_of_getElem? (i := 16) rfl)) (eX12_weekDay (5, .ldc2_w 136, 3) (List.mem_of_getElem? (i := 3) rfl)) (fun v3 e3 => ?_)
  refine lv_iload_n hx hb (eX12_weekDay (8, .iload_n 2, 1) (List.mem_of_getElem? (i := 4) rfl)) rfl (lv_at hl 2 rfl) ?_
  refine ff_i2l hx hb (eX12_weekDay (9, .i2l, 1) (List.mem_of_getElem? (i := 5) rfl)) (fun v4 e4 => ?_)
  refine ff_lconst hx hb (eX12_weekDay (10, .lconst 1, 1) (List.mem_of_getElem? (i := 6) rfl)) rfl (fun v5 e5 => ?_)
  refine ff_lsub hx hb (eX12_weekDay (11, .lsub, 1) (List.mem_of_getElem? (i := 7) rfl)) (by omega) (by omega) (fun v6 e6 => ?_)
  refine ff_lmulL hx hb (eX12_weekDay (12, .lmul, 1) (List.mem_of_getElem? (i := 8) rfl)) (e3) (by omega) (by omega) (fun v7 e7 => ?_)
  refine ff_ladd hx hb (eX12_weekDay (13, .ladd, 1) (List.mem_of_getElem? (i := 9) rfl)) (by omega) (by omega) (fun v8 e8 => ?_)
  refine lv_iload_n hx hb (eX12_weekDay (14, .iload_n 3, 1) (List.mem_of_getElem? (i := 10) rfl)) rfl (lv_at hl 3 rfl) ?_
  refine ff_i2l hx hb (eX12_weekDay (15, .i2l, 1) (List.mem_of_getElem? (i := 11) rfl)) (fun v9 e9 => ?_)
  refine ff_ladd hx hb (eX12_weekDay (16, .ladd, 1) (List.mem_of_getElem? (i := 12) rfl)) (by omega) (by omega) (fun v10 e10 => ?_)
  refine ff_lconst hx hb (eX12_weekDay (17, .lconst 1, 1) (List.mem_of_getElem? (i := 13) rfl)) rfl (fun v11 e11 => ?_)
  refine ff_lsub hx hb (eX12_weekDay (18, .lsub, 1) (List.mem_of_getElem? (i := 14) rfl)) (by omega) (by omega) (fun v12 e12 => ?_)
  refine lv_lstore hx hb (eX12_weekDay (19, .lstore 4, 2) (List.mem_of_getElem? (i := 15) rfl)) hl (by decide) rfl (fun ls13 hl13 => ?_)
  refine lv_aload_n hx hb (eX12_weekDay (21, .aload_n 0, 1) (List.mem_of_getElem? (i := 16) rfl)) rfl (lv_at hl13 1 rfl) ?_
  refine lv_iload_n hx hb (eX12_weekDay (22, .iload_n 3, 1) (List.mem_of_getElem? (i := 17) rfl)) rfl (lv_at hl13 4 rfl) ?_
  refine ff_i2l hx hb (eX12_weekDay (23, .i2l, 1) (List.mem_of_getElem? (i := 18) rfl)) (fun v14 e14 => ?_)
  refine ff_lconst hx hb (eX12_weekDay (24, .lconst 1, 1) (List.mem_of_getElem? (i := 19) rfl)) rfl (fun v15 e15 => ?_)
  refine ff_ldc2 (n := 7) hx hb hown h2 (clX12_ok 136 7 (List.mem_of_getElem? (i := 16) rfl)) (eX12_weekDay (25, .ldc2_w 136, 3) (List.mem_of_getElem? (i := 20) rfl)) (fun v16 e16 => ?_)
  refine zu_S (vs := [.long v14, .long v15, .long v16]) (rest := [.ref a]) hx hb hml hown hts0 zu_BT (hX12_isIn l v14 v15 v16) ⟨rfl, rfl⟩ ⟨by decide, by decide⟩ ⟨by decide, by decide⟩ (tb_7 47 rfl rfl) (tb_1 12 rfl rfl) (tb_7 45 rfl rfl) (tb_7 46 rfl rfl) (show yX12_isIn.cls ≠ "java/lang/invoke/MethodHandle" ∧ yX12_isIn.cls ≠ "java/lang/invoke/VarHandle" ∧ (parseMethodDescriptor yX12_isIn.desc).map (fun d => d.parameters.length) = some 3 by decide +kernel) rfl (fun _ _ _ => trivial) hl13.1 (Nat.le_of_ble_eq_true rfl) (eX12_weekDay (28, .invokestatic 130, 3) (List.mem_of_getElem? (i := 21) rfl)) (fun w17 f17 => ?_)
  obtain ⟨v17, rfl, e17⟩ := f17
  refine ff_if_eq hx hb (eX12_weekDay (31, .ifCond .eq 27, 3) (List.mem_of_getElem? (i := 22) rfl)) (tgt := 58) rfl (fun c18 => ?_) (fun c18 => ?_)
  · skip
    refine ff_iconst hx hb (eX12_weekDay (58, .iconst 1, 1) (List.mem_of_getElem? (i := 36) rfl)) (by decide) (by decide) (fun v19 e19 => ?_)
    refine lv_goto hx hb (eX12_weekDay (59, .goto 4, 3) (List.mem_of_getElem? (i := 37) rfl)) (tgt := 63) rfl ?_
    refine tz_put (r := 11) (k := 0) (t := (0, 0, 2)) hx hb hD hh ha rfl rfl ((hcl 85 0 (0, 0, 2) (by decide) rfl).2 (by decide)) (tz_i (by omega) (by omega)) (eX12_weekDay (63, .putfield 85, 3) (List.mem_of_getElem? (i := 39) rfl)) (fun H20 lo20 hh20 hf20 hk20 _ hq20 => ?_)
    have kp20 := kp0.trans (hk20.mono (ms' := [(11, 0), (11, 18), (11, 19), (11, 20)]) (fun x hx => by cases List.mem_singleton.mp hx; decide))
    have hqq20 := fun (q : Nat) (g : q ≠ a) => (hq20 q g).trans (hq0 q g)
    refine lv_aload_n hx hb (eX12_weekDay (66, .aload_n 0, 1) (List.mem_of_getElem? (i := 40) rfl)) rfl (lv_at hl13 1 rfl) ?_
    refine tz_get (r := 11) (k := 0) (t := (0, 0, 2)) hx hb hh20 ha rfl rfl (hcl 85 0 (0, 0, 2) (by decide) rfl).1 hf20 (eX12_weekDay (67, .getfield 85, 3) (List.mem_of_getElem? (i := 41) rfl)) ?_
    refine ff_if_le hx hb (eX12_weekDay (70, .ifCond .le 7, 3) (List.mem_of_getElem? (i := 42) rfl)) (tgt := 77) rfl (fun c21 => (by exfalso; omega)) (fun c21 => ?_)
    refine ff_lconst hx hb (eX12_weekDay (73, .lconst 0, 1) (List.mem_of_getElem? (i := 43) rfl)) rfl (fun v22 e22 => ?_)
    refine lv_goto hx hb (eX12_weekDay (74, .goto 5, 3) (List.mem_of_getElem? (i := 44) rfl)) (tgt := 79) rfl ?_
    exact W.lret hx hb hr (fun t ht hW => ⟨_, _, rfl, by rw [ht]; exact hh20.l0, fun q hq => by rw [ht]; exact hqq20 q hq, by rw [ht]; exact hf20, Or.inr ⟨by omega, by unfold wdV; omega⟩⟩) hh20.2.2.1 (eX12_weekDay (79, .lreturn, 1) (List.mem_of_getElem? (i := 46) rfl))
  · skip
    refine lv_iload_n hx hb (eX12_weekDay (34, .iload_n 2, 1) (List.mem_of_getElem? (i := 23) rfl)) rfl (lv_at hl13 3 rfl) ?_
    refine ff_i2l hx hb (eX12_weekDay (35, .i2l, 1) (List.mem_of_getElem? (i := 24) rfl)) (fun v23 e23 => ?_)
    refine ff_lconst hx hb (eX12_weekDay (36, .lconst 1, 1) (List.mem_of_getElem? (i := 25) rfl)) rfl (fun v24 e24 => ?_)
    refine lv_iload_n hx hb (eX12_weekDay (37, .iload_n 1, 1) (List.mem_of_getElem? (i := 26) rfl)) rfl (lv_at hl13 2 rfl) ?_
    refine ff_i2l hx hb (eX12_weekDay (38, .i2l, 1) (List.mem_of_getElem? (i := 27) rfl)) (fun v25 e25 => ?_)
    refine zu_S (vs := [.long v25]) (rest := [.long v24, .long v23, .ref a]) hx hb hml hown hts0 zu_BT (hX12_weeksOf l v25 (by omega) (by omega)) ⟨rfl, rfl⟩ ⟨by decide, by decide⟩ ⟨by decide, by decide⟩ (tb_7 85 rfl rfl) (tb_1 12 rfl rfl) (tb_7 83 rfl rfl) (tb_7 84 rfl rfl) (show yX12_weeksOf.cls ≠ "java/lang/invoke/MethodHandle" ∧ yX12_weeksOf.cls ≠ "java/lang/invoke/VarHandle" ∧ (parseMethodDescriptor yX12_weeksOf.desc).map (fun d => d.parameters.length) = some 1 by decide +kernel) rfl (fun _ _ _ => trivial) hl13.1 (Nat.le_of_ble_eq_true rfl) (eX12_weekDay (39, .invokestatic 167, 3) (List.mem_of_getElem? (i := 28) rfl)) (fun w26 f26 => ?_)
    obtain ⟨v26, rfl, e26⟩ := f26
    have g26 := (show v26.toInt = wkI y.toInt ∧ 52 ≤ wkI y.toInt ∧ wkI y.toInt ≤ 53 from ⟨by rw [e26, show v25.toInt = y.toInt by omega], wk_bd _⟩)
    refine ff_i2l hx hb (eX12_weekDay (42, .i2l, 1) (List.mem_of_getElem? (i := 29) rfl)) (fun v27 e27 => ?_)
    refine zu_S (vs := [.long v23, .long v24, .long v27]) (rest := [.ref a]) hx hb hml hown hts0 zu_BT (hX12_isIn l v23 v24 v27) ⟨rfl, rfl⟩ ⟨by decide, by decide⟩ ⟨by decide, by decide⟩ (tb_7 47 rfl rfl) (tb_1 12 rfl rfl) (tb_7 45 rfl rfl) (tb_7 46 rfl rfl) (show yX12_isIn.cls ≠ "java/lang/invoke/MethodHandle" ∧ yX12_isIn.cls ≠ "java/lang/invoke/VarHandle" ∧ (parseMethodDescriptor yX12_isIn.desc).map (fun d => d.parameters.length) = some 3 by decide +kernel) rfl (fun _ _ _ => trivial) hl13.1 (Nat.le_of_ble_eq_true rfl) (eX12_weekDay (43, .invokestatic 130, 3) (List.mem_of_getElem? (i := 30) rfl)) (fun w28 f28 => ?_)
    obtain ⟨v28, rfl, e28⟩ := f28
    refine ff_if_eq hx hb (eX12_weekDay (46, .ifCond .eq 12, 3) (List.mem_of_getElem? (i := 31) rfl)) (tgt := 58) rfl (fun c29 => ?_) (fun c29 => ?_)
    · skip
      refine ff_iconst hx hb (eX12_weekDay (58, .iconst 1, 1) (List.mem_of_getElem? (i := 36) rfl)) (by decide) (by decide) (fun v30 e30 => ?_)
      refine lv_goto hx hb (eX12_weekDay (59, .goto 4, 3) (List.mem_of_getElem? (i := 37) rfl)) (tgt := 63) rfl ?_
      refine tz_put (r := 11) (k := 0) (t := (0, 0, 2)) hx hb hD hh ha rfl rfl ((hcl 85 0 (0, 0, 2) (by decide) rfl).2 (by decide)) (tz_i (by omega) (by omega)) (eX12_weekDay (63, .putfield 85, 3) (List.mem_of_getElem? (i := 39) rfl)) (fun H31 lo31 hh31 hf31 hk31 _ hq31 => ?_)
      have kp31 := kp0.trans (hk31.mono (ms' := [(11, 0), (11, 18), (11, 19), (11, 20)]) (fun x hx => by cases List.mem_singleton.mp hx; decide))
      have hqq31 := fun (q : Nat) (g : q ≠ a) => (hq31 q g).trans (hq0 q g)
      refine lv_aload_n hx hb (eX12_weekDay (66, .aload_n 0, 1) (List.mem_of_getElem? (i := 40) rfl)) rfl (lv_at hl13 1 rfl) ?_
      refine tz_get (r := 11) (k := 0) (t := (0, 0, 2)) hx hb hh31 ha rfl rfl (hcl 85 0 (0, 0, 2) (by decide) rfl).1 hf31 (eX12_weekDay (67, .getfield 85, 3) (List.mem_of_getElem? (i := 41) rfl)) ?_
      refine ff_if_le hx hb (eX12_weekDay (70, .ifCond .le 7, 3) (List.mem_of_getElem? (i := 42) rfl)) (tgt := 77) rfl (fun c32 => (by exfalso; omega)) (fun c32 => ?_)
      refine ff_lconst hx hb (eX12_weekDay (73, .lconst 0, 1) (List.mem_of_getElem? (i := 43) rfl)) rfl (fun v33 e33 => ?_)
      refine lv_goto hx hb (eX12_weekDay (74, .goto 5, 3) (List.mem_of_getElem? (i := 44) rfl)) (tgt := 79) rfl ?_
      exact W.lret hx hb hr (fun t ht hW => ⟨_, _, rfl, by rw [ht]; exact hh31.l0, fun q hq => by rw [ht]; exact hqq31 q hq, by rw [ht]; exact hf31, Or.inr ⟨by omega, by unfold wdV; omega⟩⟩) hh31.2.2.1 (eX12_weekDay (79, .lreturn, 1) (List.mem_of_getElem? (i := 46) rfl))
    · skip
      refine lv_aload_n hx hb (eX12_weekDay (49, .aload_n 0, 1) (List.mem_of_getElem? (i := 32) rfl)) rfl (lv_at hl13 1 rfl) ?_
      refine lv_lload hx hb (eX12_weekDay (50, .lload 4, 2) (List.mem_of_getElem? (i := 33) rfl)) (lv_at hl13 0 rfl) ?_
      refine tz_rowV (As := [.long v12]) (st := [.ref a]) (b := a) (C := RX12) (Ts := gT) hx hb hml hown h2 (fun _ h => h) (hX12_isDay l D cA ro sz H0 a v12 ha) ⟨rfl, rfl⟩ ⟨by decide, by decide⟩ ⟨by decide, by decide⟩ (tb_7 62 rfl rfl) (tb_1 12 rfl rfl) (tb_7 59 rfl rfl) (tb_7 61 rfl rfl) (tb_0 4 rfl rfl) (show yX12_isDay.cls ≠ "java/lang/invoke/MethodHandle" ∧ yX12_isDay.cls ≠ "java/lang/invoke/VarHandle" ∧ (parseMethodDescriptor yX12_isDay.desc).map (fun d => d.parameters.length) = some 1 by decide +kernel) zd_blind (zg_ob12 hh hKn.1 ha) (fun U hU hW => ⟨rfl, by rw [hU]; exact hh.l0, zKb s U hW.alike hKn⟩) hh.2.2.1 hl13.1 (Nat.le_of_ble_eq_true rfl) (eX12_weekDay (52, .invokevirtual 159, 3) (List.mem_of_getElem? (i := 34) rfl)) (fun r34 s34 t34 lo34 g34 f34 l34 => ?_)
      obtain ⟨z34, v34, q34, e34⟩ := f34
      cases q34
      rw [g34] at z34
      have hh34 : zh_ok D cA RTg ro sz H0 t34.heap lo34 := by rw [z34]; exact ⟨hh.1, hh.2.1, l34, hh.2.2.2⟩
      have kp34 : zc_kept D RTg ro [(11, 0), (11, 18), (11, 19), (11, 20)] s.heap t34.heap := by rw [z34]; exact kp0
      have hqq34 : ∀ q : Nat, q ≠ a → t34.heap[q]? = s.heap[q]? := by rw [z34]; exact hq0
      refine W.eq (g2 := F0 m 55 ls13 [.int v34, .ref a]) rfl ?_
      refine ff_if_ne hx hb (eX12_weekDay (55, .ifCond .ne 7, 3) (List.mem_of_getElem? (i := 35) rfl)) (tgt := 62) rfl (fun c35 => ?_) (fun c35 => ?_)
      · skip
        refine ff_iconst hx hb (eX12_weekDay (62, .iconst 0, 1) (List.mem_of_getElem? (i := 38) rfl)) (by decide) (by decide) (fun v36 e36 => ?_)
        refine tz_put (r := 11) (k := 0) (t := (0, 0, 2)) hx hb hD hh34 ha rfl rfl ((hcl 85 0 (0, 0, 2) (by decide) rfl).2 (by decide)) (tz_i (by omega) (by omega)) (eX12_weekDay (63, .putfield 85, 3) (List.mem_of_getElem? (i := 39) rfl)) (fun H37 lo37 hh37 hf37 hk37 _ hq37 => ?_)
        have kp37 := kp34.trans (hk37.mono (ms' := [(11, 0), (11, 18), (11, 19), (11, 20)]) (fun x hx => by cases List.mem_singleton.mp hx; decide))
        have hqq37 := fun (q : Nat) (g : q ≠ a) => (hq37 q g).trans (hqq34 q g)
        refine lv_aload_n hx hb (eX12_weekDay (66, .aload_n 0, 1) (List.mem_of_getElem? (i := 40) rfl)) rfl (lv_at hl13 1 rfl) ?_
        refine tz_get (r := 11) (k := 0) (t := (0, 0, 2)) hx hb hh37 ha rfl rfl (hcl 85 0 (0, 0, 2) (by decide) rfl).1 hf37 (eX12_weekDay (67, .getfield 85, 3) (List.mem_of_getElem? (i := 41) rfl)) ?_
        refine ff_if_le hx hb (eX12_weekDay (70, .ifCond .le 7, 3) (List.mem_of_getElem? (i := 42) rfl)) (tgt := 77) rfl (fun c38 => ?_) (fun c38 => (by exfalso; omega))
        refine lv_lload hx hb (eX12_weekDay (77, .lload 4, 2) (List.mem_of_getElem? (i := 45) rfl)) (lv_at hl13 0 rfl) ?_
        exact W.lret hx hb hr (fun t ht hW => ⟨_, _, rfl, by rw [ht]; exact hh37.l0, fun q hq => by rw [ht]; exact hqq37 q hq, by rw [ht]; exact hf37, Or.inl ⟨by omega, by unfold wdV; omega, by unfold wdG; omega⟩⟩) hh37.2.2.1 (eX12_weekDay (79, .lreturn, 1) (List.mem_of_getElem? (i := 46) rfl))
      · skip
        refine ff_iconst hx hb (eX12_weekDay (58, .iconst 1, 1) (List.mem_of_getElem? (i := 36) rfl)) (by decide) (by decide) (fun v39 e39 => ?_)
        refine lv_goto hx hb (eX12_weekDay (59, .goto 4, 3) (List.mem_of_getElem? (i := 37) rfl)) (tgt := 63) rfl ?_
        refine tz_put (r := 11) (k := 0) (t := (0, 0, 2)) hx hb hD hh34 ha rfl rfl ((hcl 85 0 (0, 0, 2) (by decide) rfl).2 (by decide)) (tz_i (by omega) (by omega)) (eX12_weekDay (63, .putfield 85, 3) (List.mem_of_getElem? (i := 39) rfl)) (fun H40 lo40 hh40 hf40 hk40 _ hq40 => ?_)
        have kp40 := kp34.trans (hk40.mono (ms' := [(11, 0), (11, 18), (11, 19), (11, 20)]) (fun x hx => by cases List.mem_singleton.mp hx; decide))
        have hqq40 := fun (q : Nat) (g : q ≠ a) => (hq40 q g).trans (hqq34 q g)
        refine lv_aload_n hx hb (eX12_weekDay (66, .aload_n 0, 1) (List.mem_of_getElem? (i := 40) rfl)) rfl (lv_at hl13 1 rfl) ?_
        refine tz_get (r := 11) (k := 0) (t := (0, 0, 2)) hx hb hh40 ha rfl rfl (hcl 85 0 (0, 0, 2) (by decide) rfl).1 hf40 (eX12_weekDay (67, .getfield 85, 3) (List.mem_of_getElem? (i := 41) rfl)) ?_
        refine ff_if_le hx hb (eX12_weekDay (70, .ifCond .le 7, 3) (List.mem_of_getElem? (i := 42) rfl)) (tgt := 77) rfl (fun c41 => (by exfalso; omega)) (fun c41 => ?_)
        refine ff_lconst hx hb (eX12_weekDay (73, .lconst 0, 1) (List.mem_of_getElem? (i := 43) rfl)) rfl (fun v42 e42 => ?_)
        refine lv_goto hx hb (eX12_weekDay (74, .goto 5, 3) (List.mem_of_getElem? (i := 44) rfl)) (tgt := 79) rfl ?_
        exact W.lret hx hb hr (fun t ht hW => ⟨_, _, rfl, by rw [ht]; exact hh40.l0, fun q hq => by rw [ht]; exact hqq40 q hq, by rw [ht]; exact hf40, Or.inr ⟨by omega, by unfold wdV; omega⟩⟩) hh40.2.2.1 (eX12_weekDay (79, .lreturn, 1) (List.mem_of_getElem? (i := 46) rfl))
