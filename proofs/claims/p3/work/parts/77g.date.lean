set_option maxRecDepth 100000 in
set_option maxHeartbeats 4000000 in
theorem hX11_date (l : Launch) (hst : l.stackTraces = false) (D : va_G) (cA : Nat → ClassId) (ro : Nat → Option Nat) (sz : Nat) (H0 : Heap) (x : Nat) (n : Int64) (k : Int32) : vx_Met l yX11_date (gW yX11_date cX11_date 5 (some .int)) { frames := 6, cells := 1, slots := 6, locals := 90 } (zd_PX D cA ro sz H0 [.ref x, .long n, .int k]) (zg_QXi (dvD n.toInt k.toInt) (dtP n.toInt k.toInt)) (zg_XX D cA ro sz H0 (dvD n.toInt k.toInt)) 1 6 (zy_fr sz) := by
  refine vx_ofW (cc := cX11_date) (maxL := 5) (ret := (some .int)) (by decide +kernel) rfl ?_
  intro p e s m args below meth c s1 B hml hex hv
  obtain ⟨rfl, hh, hKx, hKp⟩ := hv
  have hx := B.exec
  have hb := B.bytes
  have hr := B.returns
  have hlk := B.notSynchronized
  have hts0 := atoms_spec (ws := gW yX11_date cX11_date 5 (some .int)) B.pre
  have h2 : ∀ w ∈ gT, w.before ([.ref x, .long n, .int k] : List Value).toArray s = true := fun w hw => hts0 w (List.mem_cons_of_mem _ hw)
  have hown : s.vm.findClass RX11 = some m.cls := findClass_of_methodNamed B.named
  have hl := lv_entry [.ref x, .long n, .int k] (n := 5) (Nat.le_of_ble_eq_true rfl)
  rw [lg_entry_eq]
  generalize (lg_sl [.ref x, .long n, .int k] ++ List.replicate (5 - (lg_sl [.ref x, .long n, .int k]).length) Slot.unset).toArray = ls at hl ⊢
  have b_n := zn_i64 n
  have b_k := zn_i32 k
  have hBM : ∀ U : State, U.heap = s.heap → s.WarmedH U.vm → zBM cA U := fun U hU hW => zBM_B.2 s U hW hU hKp
  refine lv_lload_n hx hb (eX11_date (0, .lload_n 1, 1) (List.mem_of_getElem? (i := 0) rfl)) rfl (lv_at hl 1 rfl) ?_
  refine zu_S (vs := [.long n]) (rest := []) hx hb hml hown hts0 zu_BT (hX2_holds l n) ⟨rfl, rfl⟩ ⟨by decide, by decide⟩ ⟨by decide, by decide⟩ (tb_2 212 rfl rfl) (tb_1 13 rfl rfl) (tb_2 210 rfl rfl) (tb_2 211 rfl rfl) (show yX2_holds.cls ≠ "java/lang/invoke/MethodHandle" ∧ yX2_holds.cls ≠ "java/lang/invoke/VarHandle" ∧ (parseMethodDescriptor yX2_holds.desc).map (fun d => d.parameters.length) = some 1 by decide +kernel) rfl (fun _ _ _ => trivial) hl.1 (Nat.le_of_ble_eq_true rfl) (eX11_date (1, .invokestatic 94, 3) (List.mem_of_getElem? (i := 1) rfl)) (fun w1 f1 => ?_)
  obtain ⟨v1, rfl, e1⟩ := f1
  refine ff_if_ne hx hb (eX11_date (4, .ifCond .ne 13, 3) (List.mem_of_getElem? (i := 2) rfl)) (tgt := 17) rfl (fun c2 => ?_) (fun c2 => ?_)
  · skip
    refine lv_lload_n hx hb (eX11_date (17, .lload_n 1, 1) (List.mem_of_getElem? (i := 8) rfl)) rfl (lv_at hl 1 rfl) ?_
    refine zu_S (vs := [.long n]) (rest := []) hx hb hml hown hts0 zu_BT (hX2_yearOf l n (by omega) (by omega)) ⟨rfl, rfl⟩ ⟨by decide, by decide⟩ ⟨by decide, by decide⟩ (tb_2 218 rfl rfl) (tb_1 13 rfl rfl) (tb_2 216 rfl rfl) (tb_2 217 rfl rfl) (show yX2_yearOf.cls ≠ "java/lang/invoke/MethodHandle" ∧ yX2_yearOf.cls ≠ "java/lang/invoke/VarHandle" ∧ (parseMethodDescriptor yX2_yearOf.desc).map (fun d => d.parameters.length) = some 1 by decide +kernel) rfl (fun _ _ _ => trivial) hl.1 (Nat.le_of_ble_eq_true rfl) (eX11_date (18, .invokestatic 100, 3) (List.mem_of_getElem? (i := 9) rfl)) (fun w3 f3 => ?_)
    obtain ⟨v3, rfl, e3⟩ := f3
    have g3 := isY_in e3.1 (by omega) (by omega)
    refine lv_istore hx hb (eX11_date (21, .istore 4, 2) (List.mem_of_getElem? (i := 10) rfl)) hl (by decide) rfl (fun ls4 hl4 => ?_)
    refine lv_iload_n hx hb (eX11_date (23, .iload_n 3, 1) (List.mem_of_getElem? (i := 11) rfl)) rfl (lv_at hl4 3 rfl) ?_
    have gl5 : ¬ k.toInt < 0 ∨ k.toInt < 0 := by omega
    by_cases gl : k.toInt < 0
    · refine lv_tableOut hx hb (eX11_date (24, .tableswitch 127 0 9 #[56, 59, 64, 69, 74, 85, 90, 95, 109, 119], 56) (List.mem_of_getElem? (i := 12) rfl)) (Or.inl gl) (tgt := 151) rfl ?_
      exact zx_leafG (ik := 83) (is := 130) (ic := 87) (cls := "java/lang/IllegalArgumentException") (text := "no such part of a day") hx hb hst hown h2 hKx hh hh (by rw [hl4.1, hml]) hex hlk ⟨by decide, by decide, by decide, by decide⟩ (tb_2 121 rfl rfl) (tb_1 17 rfl rfl) (by decide) (gAt_in gAt_1) (by decide +kernel) (by decide) (by decide) (fun t h7 h8 => ⟨rfl, by unfold dvD; omega, hh.grow h7 h8⟩) (eX11_date (151, .new 83, 3) (List.mem_of_getElem? (i := 54) rfl)) (eX11_date (154, .dup, 1) (List.mem_of_getElem? (i := 55) rfl)) (eX11_date (155, .ldc 130, 2) (List.mem_of_getElem? (i := 56) rfl)) (eX11_date (157, .invokespecial 87, 3) (List.mem_of_getElem? (i := 57) rfl)) (eX11_date (160, .athrow, 1) (List.mem_of_getElem? (i := 58) rfl))
    by_cases gh : 9 < k.toInt
    · refine lv_tableOut hx hb (eX11_date (24, .tableswitch 127 0 9 #[56, 59, 64, 69, 74, 85, 90, 95, 109, 119], 56) (List.mem_of_getElem? (i := 12) rfl)) (Or.inr gh) (tgt := 151) rfl ?_
      exact zx_leafG (ik := 83) (is := 130) (ic := 87) (cls := "java/lang/IllegalArgumentException") (text := "no such part of a day") hx hb hst hown h2 hKx hh hh (by rw [hl4.1, hml]) hex hlk ⟨by decide, by decide, by decide, by decide⟩ (tb_2 121 rfl rfl) (tb_1 17 rfl rfl) (by decide) (gAt_in gAt_1) (by decide +kernel) (by decide) (by decide) (fun t h7 h8 => ⟨rfl, by unfold dvD; omega, hh.grow h7 h8⟩) (eX11_date (151, .new 83, 3) (List.mem_of_getElem? (i := 54) rfl)) (eX11_date (154, .dup, 1) (List.mem_of_getElem? (i := 55) rfl)) (eX11_date (155, .ldc 130, 2) (List.mem_of_getElem? (i := 56) rfl)) (eX11_date (157, .invokespecial 87, 3) (List.mem_of_getElem? (i := 57) rfl)) (eX11_date (160, .athrow, 1) (List.mem_of_getElem? (i := 58) rfl))
    by_cases q5_0 : k.toInt = 0
    · refine lv_tableIn hx hb (eX11_date (24, .tableswitch 127 0 9 #[56, 59, 64, 69, 74, 85, 90, 95, 109, 119], 56) (List.mem_of_getElem? (i := 12) rfl)) gl gh (off := 56) (by rw [q5_0]; rfl) (tgt := 80) rfl ?_
      refine lv_iload hx hb (eX11_date (80, .iload 4, 2) (List.mem_of_getElem? (i := 13) rfl)) (lv_at hl4 0 rfl) ?_
      exact vx_ret (W.widen (k := 1) (n := 6) (Nat.zero_le _) (Nat.zero_le _) (W.zret hx hb hr rfl (fun t ht hW => ⟨_, rfl, ht, by unfold dvD; omega, by (rw [show k.toInt = 0 by assumption]; exact dt_0 e3.1 rfl)⟩) (fun q hq => by cases hq) (eX11_date (82, .ireturn, 1) (List.mem_of_getElem? (i := 14) rfl))))
    by_cases q5_1 : k.toInt = 1
    · refine lv_tableIn hx hb (eX11_date (24, .tableswitch 127 0 9 #[56, 59, 64, 69, 74, 85, 90, 95, 109, 119], 56) (List.mem_of_getElem? (i := 12) rfl)) gl gh (off := 59) (by rw [q5_1]; rfl) (tgt := 83) rfl ?_
      refine lv_lload_n hx hb (eX11_date (83, .lload_n 1, 1) (List.mem_of_getElem? (i := 15) rfl)) rfl (lv_at hl4 2 rfl) ?_
      refine zu_S (vs := [.long n]) (rest := []) hx hb hml hown hts0 zBM_B (hX2_monthOf l cA n (by omega) (by omega)) ⟨rfl, rfl⟩ ⟨by decide, by decide⟩ ⟨by decide, by decide⟩ (tb_2 222 rfl rfl) (tb_1 13 rfl rfl) (tb_2 220 rfl rfl) (tb_2 221 rfl rfl) (show yX2_monthOf.cls ≠ "java/lang/invoke/MethodHandle" ∧ yX2_monthOf.cls ≠ "java/lang/invoke/VarHandle" ∧ (parseMethodDescriptor yX2_monthOf.desc).map (fun d => d.parameters.length) = some 1 by decide +kernel) rfl hBM hl4.1 (Nat.le_of_ble_eq_true rfl) (eX11_date (84, .invokestatic 104, 3) (List.mem_of_getElem? (i := 16) rfl)) (fun w6 f6 => ?_)
      obtain ⟨v6, rfl, e6⟩ := f6
      have g6 := mo_y e3.1 e6
      exact vx_ret (W.widen (k := 1) (n := 6) (Nat.zero_le _) (Nat.zero_le _) (W.zret hx hb hr rfl (fun t ht hW => ⟨_, rfl, ht, by unfold dvD; omega, by (rw [show k.toInt = 1 by assumption]; exact dt_1 (cv_days g6.1 g6.2.1 g6.2.2.1 g6.2.2.2.1) rfl)⟩) (fun q hq => by cases hq) (eX11_date (87, .ireturn, 1) (List.mem_of_getElem? (i := 17) rfl))))
    by_cases q5_2 : k.toInt = 2
    · refine lv_tableIn hx hb (eX11_date (24, .tableswitch 127 0 9 #[56, 59, 64, 69, 74, 85, 90, 95, 109, 119], 56) (List.mem_of_getElem? (i := 12) rfl)) gl gh (off := 64) (by rw [q5_2]; rfl) (tgt := 88) rfl ?_
      refine lv_lload_n hx hb (eX11_date (88, .lload_n 1, 1) (List.mem_of_getElem? (i := 18) rfl)) rfl (lv_at hl4 2 rfl) ?_
      refine zu_S (vs := [.long n]) (rest := []) hx hb hml hown hts0 zBM_B (hX2_dayOfMonth l cA n (by omega) (by omega)) ⟨rfl, rfl⟩ ⟨by decide, by decide⟩ ⟨by decide, by decide⟩ (tb_2 227 rfl rfl) (tb_1 13 rfl rfl) (tb_2 225 rfl rfl) (tb_2 226 rfl rfl) (show yX2_dayOfMonth.cls ≠ "java/lang/invoke/MethodHandle" ∧ yX2_dayOfMonth.cls ≠ "java/lang/invoke/VarHandle" ∧ (parseMethodDescriptor yX2_dayOfMonth.desc).map (fun d => d.parameters.length) = some 1 by decide +kernel) rfl hBM hl4.1 (Nat.le_of_ble_eq_true rfl) (eX11_date (89, .invokestatic 107, 3) (List.mem_of_getElem? (i := 19) rfl)) (fun w7 f7 => ?_)
      obtain ⟨v7, rfl, e7⟩ := f7
      exact vx_ret (W.widen (k := 1) (n := 6) (Nat.zero_le _) (Nat.zero_le _) (W.zret hx hb hr rfl (fun t ht hW => ⟨_, rfl, ht, by unfold dvD; omega, by (rw [show k.toInt = 2 by assumption]; (obtain ⟨y9, m9, h9⟩ := e7; exact dt_2 h9 rfl))⟩) (fun q hq => by cases hq) (eX11_date (92, .ireturn, 1) (List.mem_of_getElem? (i := 20) rfl))))
    by_cases q5_3 : k.toInt = 3
    · refine lv_tableIn hx hb (eX11_date (24, .tableswitch 127 0 9 #[56, 59, 64, 69, 74, 85, 90, 95, 109, 119], 56) (List.mem_of_getElem? (i := 12) rfl)) gl gh (off := 69) (by rw [q5_3]; rfl) (tgt := 93) rfl ?_
      refine lv_lload_n hx hb (eX11_date (93, .lload_n 1, 1) (List.mem_of_getElem? (i := 21) rfl)) rfl (lv_at hl4 2 rfl) ?_
      refine zu_S (vs := [.long n]) (rest := []) hx hb hml hown hts0 zu_BT (hX2_weekdayOf l n (by omega) (by omega)) ⟨rfl, rfl⟩ ⟨by decide, by decide⟩ ⟨by decide, by decide⟩ (tb_2 231 rfl rfl) (tb_1 13 rfl rfl) (tb_2 229 rfl rfl) (tb_2 230 rfl rfl) (show yX2_weekdayOf.cls ≠ "java/lang/invoke/MethodHandle" ∧ yX2_weekdayOf.cls ≠ "java/lang/invoke/VarHandle" ∧ (parseMethodDescriptor yX2_weekdayOf.desc).map (fun d => d.parameters.length) = some 1 by decide +kernel) rfl (fun _ _ _ => trivial) hl4.1 (Nat.le_of_ble_eq_true rfl) (eX11_date (94, .invokestatic 110, 3) (List.mem_of_getElem? (i := 22) rfl)) (fun w8 f8 => ?_)
      obtain ⟨v8, rfl, e8⟩ := f8
      exact vx_ret (W.widen (k := 1) (n := 6) (Nat.zero_le _) (Nat.zero_le _) (W.zret hx hb hr rfl (fun t ht hW => ⟨_, rfl, ht, by unfold dvD; omega, by (rw [show k.toInt = 3 by assumption]; exact dt_3 e8)⟩) (fun q hq => by cases hq) (eX11_date (97, .ireturn, 1) (List.mem_of_getElem? (i := 23) rfl))))
    by_cases q5_4 : k.toInt = 4
    · refine lv_tableIn hx hb (eX11_date (24, .tableswitch 127 0 9 #[56, 59, 64, 69, 74, 85, 90, 95, 109, 119], 56) (List.mem_of_getElem? (i := 12) rfl)) gl gh (off := 74) (by rw [q5_4]; rfl) (tgt := 98) rfl ?_
      refine lv_lload_n hx hb (eX11_date (98, .lload_n 1, 1) (List.mem_of_getElem? (i := 24) rfl)) rfl (lv_at hl4 2 rfl) ?_
      refine lv_iload hx hb (eX11_date (99, .iload 4, 2) (List.mem_of_getElem? (i := 25) rfl)) (lv_at hl4 0 rfl) ?_
      refine zu_S (vs := [.int v3]) (rest := [.long n]) hx hb hml hown hts0 zu_BT (hX2_yearStart l v3 (by omega) (by omega)) ⟨rfl, rfl⟩ ⟨by decide, by decide⟩ ⟨by decide, by decide⟩ (tb_2 193 rfl rfl) (tb_1 13 rfl rfl) (tb_2 234 rfl rfl) (tb_2 192 rfl rfl) (show yX2_yearStart.cls ≠ "java/lang/invoke/MethodHandle" ∧ yX2_yearStart.cls ≠ "java/lang/invoke/VarHandle" ∧ (parseMethodDescriptor yX2_yearStart.desc).map (fun d => d.parameters.length) = some 1 by decide +kernel) rfl (fun _ _ _ => trivial) hl4.1 (Nat.le_of_ble_eq_true rfl) (eX11_date (101, .invokestatic 113, 3) (List.mem_of_getElem? (i := 26) rfl)) (fun w9 f9 => ?_)
      obtain ⟨v9, rfl, e9⟩ := f9
      have g9 := (show ysI v3.toInt ≤ n.toInt ∧ n.toInt < ysI v3.toInt + 366 ∧ v9.toInt = ysI v3.toInt by have h8 := ys_succ v3.toInt; have h7 := lpI_bd v3.toInt; have h6 := e3.1; unfold isY at h6; rw [h8] at h6; refine ⟨h6.1, ?_, e9⟩; omega)
      refine ff_lsub hx hb (eX11_date (104, .lsub, 1) (List.mem_of_getElem? (i := 27) rfl)) (by omega) (by omega) (fun v10 e10 => ?_)
      refine ff_l2i hx hb (eX11_date (105, .l2i, 1) (List.mem_of_getElem? (i := 28) rfl)) (by omega) (by omega) (fun v11 e11 => ?_)
      refine ff_iconst hx hb (eX11_date (106, .iconst 1, 1) (List.mem_of_getElem? (i := 29) rfl)) (by decide) (by decide) (fun v12 e12 => ?_)
      refine ff_iadd hx hb (eX11_date (107, .iadd, 1) (List.mem_of_getElem? (i := 30) rfl)) (by omega) (by omega) (fun v13 e13 => ?_)
      exact vx_ret (W.widen (k := 1) (n := 6) (Nat.zero_le _) (Nat.zero_le _) (W.zret hx hb hr rfl (fun t ht hW => ⟨_, rfl, ht, by unfold dvD; omega, by (rw [show k.toInt = 4 by assumption]; exact dt_4 e3.1 (by omega))⟩) (fun q hq => by cases hq) (eX11_date (108, .ireturn, 1) (List.mem_of_getElem? (i := 31) rfl))))
    by_cases q5_5 : k.toInt = 5
    · refine lv_tableIn hx hb (eX11_date (24, .tableswitch 127 0 9 #[56, 59, 64, 69, 74, 85, 90, 95, 109, 119], 56) (List.mem_of_getElem? (i := 12) rfl)) gl gh (off := 85) (by rw [q5_5]; rfl) (tgt := 109) rfl ?_
      refine lv_lload_n hx hb (eX11_date (109, .lload_n 1, 1) (List.mem_of_getElem? (i := 32) rfl)) rfl (lv_at hl4 2 rfl) ?_
      refine zu_S (vs := [.long n]) (rest := []) hx hb hml hown hts0 zu_BT (hX2_weekYearOf l n (by omega) (by omega)) ⟨rfl, rfl⟩ ⟨by decide, by decide⟩ ⟨by decide, by decide⟩ (tb_2 237 rfl rfl) (tb_1 13 rfl rfl) (tb_2 235 rfl rfl) (tb_2 236 rfl rfl) (show yX2_weekYearOf.cls ≠ "java/lang/invoke/MethodHandle" ∧ yX2_weekYearOf.cls ≠ "java/lang/invoke/VarHandle" ∧ (parseMethodDescriptor yX2_weekYearOf.desc).map (fun d => d.parameters.length) = some 1 by decide +kernel) rfl (fun _ _ _ => trivial) hl4.1 (Nat.le_of_ble_eq_true rfl) (eX11_date (110, .invokestatic 117, 3) (List.mem_of_getElem? (i := 33) rfl)) (fun w14 f14 => ?_)
      obtain ⟨v14, rfl, e14⟩ := f14
      exact vx_ret (W.widen (k := 1) (n := 6) (Nat.zero_le _) (Nat.zero_le _) (W.zret hx hb hr rfl (fun t ht hW => ⟨_, rfl, ht, by unfold dvD; omega, by (rw [show k.toInt = 5 by assumption]; exact dt_5 e14.1 rfl)⟩) (fun q hq => by cases hq) (eX11_date (113, .ireturn, 1) (List.mem_of_getElem? (i := 34) rfl))))
    by_cases q5_6 : k.toInt = 6
    · refine lv_tableIn hx hb (eX11_date (24, .tableswitch 127 0 9 #[56, 59, 64, 69, 74, 85, 90, 95, 109, 119], 56) (List.mem_of_getElem? (i := 12) rfl)) gl gh (off := 90) (by rw [q5_6]; rfl) (tgt := 114) rfl ?_
      refine lv_lload_n hx hb (eX11_date (114, .lload_n 1, 1) (List.mem_of_getElem? (i := 35) rfl)) rfl (lv_at hl4 2 rfl) ?_
      refine zu_S (vs := [.long n]) (rest := []) hx hb hml hown hts0 zu_BT (hX2_weekOf l n (by omega) (by omega)) ⟨rfl, rfl⟩ ⟨by decide, by decide⟩ ⟨by decide, by decide⟩ (tb_3 4 rfl rfl) (tb_1 13 rfl rfl) (tb_3 2 rfl rfl) (tb_3 3 rfl rfl) (show yX2_weekOf.cls ≠ "java/lang/invoke/MethodHandle" ∧ yX2_weekOf.cls ≠ "java/lang/invoke/VarHandle" ∧ (parseMethodDescriptor yX2_weekOf.desc).map (fun d => d.parameters.length) = some 1 by decide +kernel) rfl (fun _ _ _ => trivial) hl4.1 (Nat.le_of_ble_eq_true rfl) (eX11_date (115, .invokestatic 120, 3) (List.mem_of_getElem? (i := 36) rfl)) (fun w15 f15 => ?_)
      obtain ⟨v15, rfl, e15⟩ := f15
      exact vx_ret (W.widen (k := 1) (n := 6) (Nat.zero_le _) (Nat.zero_le _) (W.zret hx hb hr rfl (fun t ht hW => ⟨_, rfl, ht, by unfold dvD; omega, by (rw [show k.toInt = 6 by assumption]; (obtain ⟨w9, h9, h8⟩ := e15; exact dt_6 h9 h8))⟩) (fun q hq => by cases hq) (eX11_date (118, .ireturn, 1) (List.mem_of_getElem? (i := 37) rfl))))
    by_cases q5_7 : k.toInt = 7
    · refine lv_tableIn hx hb (eX11_date (24, .tableswitch 127 0 9 #[56, 59, 64, 69, 74, 85, 90, 95, 109, 119], 56) (List.mem_of_getElem? (i := 12) rfl)) gl gh (off := 95) (by rw [q5_7]; rfl) (tgt := 119) rfl ?_
      refine lv_iload hx hb (eX11_date (119, .iload 4, 2) (List.mem_of_getElem? (i := 38) rfl)) (lv_at hl4 0 rfl) ?_
      refine zu_S (vs := [.int v3]) (rest := []) hx hb hml hown hts0 zu_BT (hX2_isLeapYear l v3) ⟨rfl, rfl⟩ ⟨by decide, by decide⟩ ⟨by decide, by decide⟩ (tb_2 120 rfl rfl) (tb_1 13 rfl rfl) (tb_3 5 rfl rfl) (tb_2 119 rfl rfl) (show yX2_isLeapYear.cls ≠ "java/lang/invoke/MethodHandle" ∧ yX2_isLeapYear.cls ≠ "java/lang/invoke/VarHandle" ∧ (parseMethodDescriptor yX2_isLeapYear.desc).map (fun d => d.parameters.length) = some 1 by decide +kernel) rfl (fun _ _ _ => trivial) hl4.1 (Nat.le_of_ble_eq_true rfl) (eX11_date (121, .invokestatic 123, 3) (List.mem_of_getElem? (i := 39) rfl)) (fun w16 f16 => ?_)
      obtain ⟨v16, rfl, e16⟩ := f16
      have g16 := lpI_bd v3.toInt
      refine ff_if_eq hx hb (eX11_date (124, .ifCond .eq 7, 3) (List.mem_of_getElem? (i := 40) rfl)) (tgt := 131) rfl (fun c17 => ?_) (fun c17 => ?_)
      · skip
        refine ff_iconst hx hb (eX11_date (131, .iconst 0, 1) (List.mem_of_getElem? (i := 43) rfl)) (by decide) (by decide) (fun v18 e18 => ?_)
        exact vx_ret (W.widen (k := 1) (n := 6) (Nat.zero_le _) (Nat.zero_le _) (W.zret hx hb hr rfl (fun t ht hW => ⟨_, rfl, ht, by unfold dvD; omega, by (rw [show k.toInt = 7 by assumption]; exact dt_7 e3.1 (by omega))⟩) (fun q hq => by cases hq) (eX11_date (132, .ireturn, 1) (List.mem_of_getElem? (i := 44) rfl))))
      · skip
        refine ff_iconst hx hb (eX11_date (127, .iconst 1, 1) (List.mem_of_getElem? (i := 41) rfl)) (by decide) (by decide) (fun v19 e19 => ?_)
        refine lv_goto hx hb (eX11_date (128, .goto 4, 3) (List.mem_of_getElem? (i := 42) rfl)) (tgt := 132) rfl ?_
        exact vx_ret (W.widen (k := 1) (n := 6) (Nat.zero_le _) (Nat.zero_le _) (W.zret hx hb hr rfl (fun t ht hW => ⟨_, rfl, ht, by unfold dvD; omega, by (rw [show k.toInt = 7 by assumption]; exact dt_7 e3.1 (by omega))⟩) (fun q hq => by cases hq) (eX11_date (132, .ireturn, 1) (List.mem_of_getElem? (i := 44) rfl))))
    by_cases q5_8 : k.toInt = 8
    · refine lv_tableIn hx hb (eX11_date (24, .tableswitch 127 0 9 #[56, 59, 64, 69, 74, 85, 90, 95, 109, 119], 56) (List.mem_of_getElem? (i := 12) rfl)) gl gh (off := 109) (by rw [q5_8]; rfl) (tgt := 133) rfl ?_
      refine lv_iload hx hb (eX11_date (133, .iload 4, 2) (List.mem_of_getElem? (i := 45) rfl)) (lv_at hl4 0 rfl) ?_
      refine lv_lload_n hx hb (eX11_date (135, .lload_n 1, 1) (List.mem_of_getElem? (i := 46) rfl)) rfl (lv_at hl4 2 rfl) ?_
      refine zu_S (vs := [.long n]) (rest := [.int v3]) hx hb hml hown hts0 zBM_B (hX2_monthOf l cA n (by omega) (by omega)) ⟨rfl, rfl⟩ ⟨by decide, by decide⟩ ⟨by decide, by decide⟩ (tb_2 222 rfl rfl) (tb_1 13 rfl rfl) (tb_2 220 rfl rfl) (tb_2 221 rfl rfl) (show yX2_monthOf.cls ≠ "java/lang/invoke/MethodHandle" ∧ yX2_monthOf.cls ≠ "java/lang/invoke/VarHandle" ∧ (parseMethodDescriptor yX2_monthOf.desc).map (fun d => d.parameters.length) = some 1 by decide +kernel) rfl hBM hl4.1 (Nat.le_of_ble_eq_true rfl) (eX11_date (136, .invokestatic 104, 3) (List.mem_of_getElem? (i := 47) rfl)) (fun w20 f20 => ?_)
      obtain ⟨v20, rfl, e20⟩ := f20
      have g20 := mo_y e3.1 e20
      refine zu_S (vs := [.int v3, .int v20]) (rest := []) hx hb hml hown hts0 zBM_B (hX2_monthLength l cA v3 v20) ⟨rfl, rfl⟩ ⟨by decide, by decide⟩ ⟨by decide, by decide⟩ (tb_2 115 rfl rfl) (tb_1 13 rfl rfl) (tb_2 113 rfl rfl) (tb_2 114 rfl rfl) (show yX2_monthLength.cls ≠ "java/lang/invoke/MethodHandle" ∧ yX2_monthLength.cls ≠ "java/lang/invoke/VarHandle" ∧ (parseMethodDescriptor yX2_monthLength.desc).map (fun d => d.parameters.length) = some 2 by decide +kernel) rfl hBM hl4.1 (Nat.le_of_ble_eq_true rfl) (eX11_date (139, .invokestatic 79, 3) (List.mem_of_getElem? (i := 48) rfl)) (fun w21 f21 => ?_)
      obtain ⟨v21, rfl, e21⟩ := f21
      exact vx_ret (W.widen (k := 1) (n := 6) (Nat.zero_le _) (Nat.zero_le _) (W.zret hx hb hr rfl (fun t ht hW => ⟨_, rfl, ht, by unfold dvD; omega, by (rw [show k.toInt = 8 by assumption]; exact dt_8 (cv_days g20.1 g20.2.1 g20.2.2.1 g20.2.2.2.1) e21)⟩) (fun q hq => by cases hq) (eX11_date (142, .ireturn, 1) (List.mem_of_getElem? (i := 49) rfl))))
    by_cases q5_9 : k.toInt = 9
    · refine lv_tableIn hx hb (eX11_date (24, .tableswitch 127 0 9 #[56, 59, 64, 69, 74, 85, 90, 95, 109, 119], 56) (List.mem_of_getElem? (i := 12) rfl)) gl gh (off := 119) (by rw [q5_9]; rfl) (tgt := 143) rfl ?_
      refine lv_lload_n hx hb (eX11_date (143, .lload_n 1, 1) (List.mem_of_getElem? (i := 50) rfl)) rfl (lv_at hl4 2 rfl) ?_
      refine zu_S (vs := [.long n]) (rest := []) hx hb hml hown hts0 zu_BT (hX2_weekYearOf l n (by omega) (by omega)) ⟨rfl, rfl⟩ ⟨by decide, by decide⟩ ⟨by decide, by decide⟩ (tb_2 237 rfl rfl) (tb_1 13 rfl rfl) (tb_2 235 rfl rfl) (tb_2 236 rfl rfl) (show yX2_weekYearOf.cls ≠ "java/lang/invoke/MethodHandle" ∧ yX2_weekYearOf.cls ≠ "java/lang/invoke/VarHandle" ∧ (parseMethodDescriptor yX2_weekYearOf.desc).map (fun d => d.parameters.length) = some 1 by decide +kernel) rfl (fun _ _ _ => trivial) hl4.1 (Nat.le_of_ble_eq_true rfl) (eX11_date (144, .invokestatic 117, 3) (List.mem_of_getElem? (i := 51) rfl)) (fun w22 f22 => ?_)
      obtain ⟨v22, rfl, e22⟩ := f22
      refine zu_S (vs := [.int v22]) (rest := []) hx hb hml hown hts0 zu_BT (hX2_weeksOf l v22 (by omega) (by omega)) ⟨rfl, rfl⟩ ⟨by decide, by decide⟩ ⟨by decide, by decide⟩ (tb_3 8 rfl rfl) (tb_1 13 rfl rfl) (tb_3 6 rfl rfl) (tb_3 7 rfl rfl) (show yX2_weeksOf.cls ≠ "java/lang/invoke/MethodHandle" ∧ yX2_weeksOf.cls ≠ "java/lang/invoke/VarHandle" ∧ (parseMethodDescriptor yX2_weeksOf.desc).map (fun d => d.parameters.length) = some 1 by decide +kernel) rfl (fun _ _ _ => trivial) hl4.1 (Nat.le_of_ble_eq_true rfl) (eX11_date (147, .invokestatic 126, 3) (List.mem_of_getElem? (i := 52) rfl)) (fun w23 f23 => ?_)
      obtain ⟨v23, rfl, e23⟩ := f23
      exact vx_ret (W.widen (k := 1) (n := 6) (Nat.zero_le _) (Nat.zero_le _) (W.zret hx hb hr rfl (fun t ht hW => ⟨_, rfl, ht, by unfold dvD; omega, by (rw [show k.toInt = 9 by assumption]; exact dt_9 e22.1 e23)⟩) (fun q hq => by cases hq) (eX11_date (150, .ireturn, 1) (List.mem_of_getElem? (i := 53) rfl))))
    exfalso
    omega
  · skip
    exact zx_leafG (ik := 83) (is := 98) (ic := 87) (cls := "java/lang/IllegalArgumentException") (text := "a day of no year") hx hb hst hown h2 hKx hh hh (by rw [hl.1, hml]) hex hlk ⟨by decide, by decide, by decide, by decide⟩ (tb_2 121 rfl rfl) (tb_1 17 rfl rfl) (by decide) (gAt_in gAt_1) (by decide +kernel) (by decide) (by decide) (fun t h7 h8 => ⟨rfl, by unfold dvD; omega, hh.grow h7 h8⟩) (eX11_date (7, .new 83, 3) (List.mem_of_getElem? (i := 3) rfl)) (eX11_date (10, .dup, 1) (List.mem_of_getElem? (i := 4) rfl)) (eX11_date (11, .ldc 98, 2) (List.mem_of_getElem? (i := 5) rfl)) (eX11_date (13, .invokespecial 87, 3) (List.mem_of_getElem? (i := 6) rfl)) (eX11_date (16, .athrow, 1) (List.mem_of_getElem? (i := 7) rfl))
set_option maxRecDepth 100000 in
set_option maxHeartbeats 4000000 in
theorem wE_date (l : Launch) (hst : l.stackTraces = false) (D : va_G) (cA : Nat → ClassId) (ro : Nat → Option Nat) (sz : Nat) (H0 : Heap) (x : Nat) (p1 : Int64) (p2 : Int32) (o : Nat) (hx10 : ro x = some 10) (ho : ro o = some 42) : Met l yL_date (Cond.codeWith yL_date cL_date 6 (some .int) [(0, 11, 14, 13)] :: gT) { frames := 7, cells := 1, slots := 6, locals := 114 } (zd_PL D cA ro sz H0 [.ref x, .long p1, .int p2, .ref o]) (zg_QL D cA ro sz H0 o (dvD p1.toInt p2.toInt) (dtP p1.toInt p2.toInt)) 1 6 (zy_fr sz) := by
  refine zw_ofW (cc := cL_date) (maxL := 6) (ret := some .int) (by decide +kernel) rfl ?_
  intro p e s m args below meth c s1 B hml hv
  obtain ⟨rfl, hh, hKa, hBM⟩ := hv
  have hx := B.exec
  have hb := B.bytes
  have hr := B.returns
  have hlk := B.notSynchronized
  have hts0 := atoms_spec (ws := Cond.codeWith yL_date cL_date 6 (some .int) [(0, 11, 14, 13)] :: gT) B.pre
  have h2 : ∀ w ∈ gT, w.before ([.ref x, .long p1, .int p2, .ref o] : List Value).toArray s = true := fun w hw => hts0 w (List.mem_cons_of_mem _ hw)
  have hown : s.vm.findClass RL = some m.cls := findClass_of_methodNamed B.named
  have hl := lv_entry [.ref x, .long p1, .int p2, .ref o] (n := 6) (Nat.le_of_ble_eq_true rfl)
  rw [lg_entry_eq]
  generalize (lg_sl [.ref x, .long p1, .int p2, .ref o] ++ List.replicate (6 - (lg_sl [.ref x, .long p1, .int p2, .ref o]).length) Slot.unset).toArray = ls at hl ⊢
  refine lv_aload hx hb (eL_date (0, .aload 4, 2) (List.mem_of_getElem? (i := 0) rfl)) (lv_at hl 3 rfl) ?_
  refine ff_iconst hx hb (eL_date (2, .iconst 0, 1) (List.mem_of_getElem? (i := 1) rfl)) (by decide) (by decide) (fun v1 e1 => ?_)
  refine lv_aload_n hx hb (eL_date (3, .aload_n 0, 1) (List.mem_of_getElem? (i := 2) rfl)) rfl (lv_at hl 0 rfl) ?_
  refine lv_lload_n hx hb (eL_date (4, .lload_n 1, 1) (List.mem_of_getElem? (i := 3) rfl)) rfl (lv_at hl 1 rfl) ?_
  refine lv_iload_n hx hb (eL_date (5, .iload_n 3, 1) (List.mem_of_getElem? (i := 4) rfl)) rfl (lv_at hl 2 rfl) ?_
  refine zx_rowG (As := [.long p1, .int p2]) (st := [.int v1, .ref o]) (b := x) (C := RX11) hx hb hml hown hts0 (hX11_date l hst D cA ro sz H0 x p1 p2) ⟨rfl, rfl⟩ ⟨by decide, by decide⟩ ⟨by decide, by decide⟩ (tb_2 209 rfl rfl) (tb_1 1 rfl rfl) (tb_2 206 rfl rfl) (tb_2 207 rfl rfl) (tb_2 208 rfl rfl) rfl (show yX11_date.cls ≠ "java/lang/invoke/MethodHandle" ∧ yX11_date.cls ≠ "java/lang/invoke/VarHandle" ∧ (parseMethodDescriptor yX11_date.desc).map (fun d => d.parameters.length) = some 2 by decide +kernel) zd_blindX (zw_ob hh hKa.1.1.1 hx10) (fun U hU hW => ⟨rfl, by rw [hU]; exact hh, hKa.1.warm hW, zBM_B.2 s U hW hU hBM⟩) (fun q hq => by cases hq) hl.1 (Nat.le_of_ble_eq_true rfl) (eL_date (6, .invokevirtual 15, 3) (List.mem_of_getElem? (i := 5) rfl)) (fun v s0 t lo1 g0 g1 g2 => ?_) (fun q s0 t lo1 E ce g0 g1 g3 g4 g5 g2 => ?_)
  · obtain ⟨r9, q1, q2, q3, q4⟩ := g1
    cases q1
    have hh1 : zh_ok D cA RTg ro sz H0 t.heap lo1 := by rw [q2, g0]; exact ⟨hh.1, hh.2.1, g2, hh.2.2.2⟩
    refine W.eq (g2 := F0 m 9 ls [.int r9, .int v1, .ref o]) rfl ?_
    refine ff_i2l hx hb (eL_date (9, .i2l, 1) (List.mem_of_getElem? (i := 6) rfl)) (fun v2 e2 => ?_)
    refine zw_out hx hb hh1 hKa.1.1.1 ho (by omega) (eL_date (10, .lastore, 1) (List.mem_of_getElem? (i := 7) rfl)) (fun H9 lo9 hh9 _ _ hz9 => ?_)
    obtain ⟨z9, hz9, hz8⟩ := hz9
    refine lv_goto hx hb (eL_date (11, .goto 7, 3) (List.mem_of_getElem? (i := 8) rfl)) (tgt := 18) rfl ?_
    refine ff_iconst hx hb (eL_date (18, .iconst 0, 1) (List.mem_of_getElem? (i := 12) rfl)) (by decide) (by decide) (fun v3 e3 => ?_)
    exact W.zret hx hb hr rfl (fun t ht hW => ⟨_, rfl, by rw [ht]; exact hh9.l0, Or.inl ⟨by omega, q3, z9, v2, by rw [ht]; exact hz9, hz8, by rw [e2]; exact q4⟩⟩) hh9.2.2.1 (eL_date (19, .ireturn, 1) (List.mem_of_getElem? (i := 13) rfl))
  · obtain ⟨rfl, q3, q4⟩ := g1
    have hh1 : zh_ok D cA RTg ro sz H0 t.heap lo1 := ⟨q4.1, q4.2.1, g2, q4.2.2.2⟩
    refine vx_catch (own := RL) (name := "java/lang/IllegalArgumentException") hown [] ⟨0, 11, 14, 13⟩ [] (vx_table (x := yL_date) B (h2 _ (tb_2 205 rfl rfl))) (fun z hz => by cases hz) rfl (by decide) (h2 _ (tb_2 103 rfl rfl)) (va_Nw.use rfl (hKa.1.2.2.2.2.1 (eI, eI) (List.mem_of_getElem? (i := 0) rfl))) g3 g4 g5 ?_
    refine lv_astore hx hb (eL_date (14, .astore 5, 2) (List.mem_of_getElem? (i := 9) rfl)) hl (by decide) rfl (fun ls4 hl4 => ?_)
    refine ff_iconst hx hb (eL_date (16, .iconst 1, 1) (List.mem_of_getElem? (i := 10) rfl)) (by decide) (by decide) (fun v5 e5 => ?_)
    exact W.zret hx hb hr rfl (fun t ht hW => ⟨_, rfl, by rw [ht]; exact hh1.l0, Or.inr ⟨by omega, q3⟩⟩) hh1.2.2.1 (eL_date (17, .ireturn, 1) (List.mem_of_getElem? (i := 11) rfl))
