set_option maxRecDepth 100000 in
set_option maxHeartbeats 4000000 in
theorem iX6Y (l : Launch) (D : va_G) (cA : Nat → ClassId) (ro : Nat → Option Nat) (sz : Nat) (H0 : Heap) (b : Nat) : Met l yX6_init (gW yX6_init cX6_init 1 none) { frames := 2, cells := 2, slots := 10, locals := 32 } (zo_Pc D cA ro sz H0 5 11 (fun k => defaultValue (tyX6 k)) b []) (zo_Qc D cA ro sz H0 5 b (fun ro9 H => zh_f D H b 5 0 = .int 0 ∧ zh_f D H b 5 5 = .int 0 ∧ ∃ f t : Nat, zh_f D H b 5 3 = .ref f ∧ zh_f D H b 5 4 = .ref t ∧ ro9 f = some 6 ∧ ro9 t = some 6 ∧ ro f = none ∧ ro t = none ∧ f ≠ t)) 2 10 (zy_fr sz) := by
  refine zy_ofW (cc := cX6_init) (maxL := 1) (ret := none) (by decide +kernel) rfl ?_
  intro p e s m args below meth c s1 B hml hv
  obtain ⟨rfl, hh, hro, hsb, hO0, hKo⟩ := hv
  have hKn := hKo.1
  have hx := B.exec
  have hb := B.bytes
  have hr := B.returns
  have hts0 := atoms_spec (ws := gW yX6_init cX6_init 1 none) B.pre
  have h2 : ∀ w ∈ gT, w.before (Value.ref b :: []).toArray s = true := fun w hw => hts0 w (List.mem_cons_of_mem _ hw)
  have hown : s.vm.findClass RX6 = some m.cls := findClass_of_methodNamed B.named
  have hin : meth.name = "<init>" := (name_of_methodNamed B.named B.method).1
  have hl := lv_entry (Value.ref b :: []) (n := 1) (Nat.le_of_ble_eq_true rfl)
  rw [lg_entry_eq]
  generalize (lg_sl (Value.ref b :: []) ++ List.replicate (1 - (lg_sl (Value.ref b :: [])).length) Slot.unset).toArray = ls at hl ⊢
  have hI0 : zo_I D cA ro sz H0 s.heap b ro s.heap [] := ⟨hh, fun _ _ h => h, fun q h => absurd rfl h, Nat.le_refl _, fun _ _ _ => rfl, hro, hsb, (by obtain ⟨cell, q1, -⟩ := hO0; exact (Array.getElem?_eq_some_iff.mp q1).1)⟩
  refine lv_aload_n hx hb (eX6_init (0, .aload_n 0, 1) (List.mem_of_getElem? (i := 0) rfl)) rfl (lv_at hl 0 rfl) ?_
  refine W.objInit hx hb hown (h2 _ (tb_1 52 rfl rfl)) (h2 _ (tb_1 29 rfl rfl)) (h2 _ (tb_1 30 rfl rfl)) rfl (by rw [hml]; exact hl.1) rfl (eX6_init (1, .invokespecial 3, 3) (List.mem_of_getElem? (i := 1) rfl)) (Nat.le_of_ble_eq_true rfl) (Nat.le_of_ble_eq_true rfl) ?_
  refine W.eq (g2 := F0 m 4 ls []) rfl ?_
  refine lv_aload_n hx hb (eX6_init (4, .aload_n 0, 1) (List.mem_of_getElem? (i := 2) rfl)) rfl (lv_at hl 0 rfl) ?_
  refine lv_iconst (v := 0) hx hb (eX6_init (5, .iconst 0, 1) (List.mem_of_getElem? (i := 3) rfl)) (by decide) ?_
  refine zo_putN (C := RX6) (T := TX6) (N := 11) (ci := 5) (k := 0) (ty := .int) hx hb hI0 hO0 h2 wiX6 tyX6 tyX6_ok nmX6 hown hKn.1 rfl (by decide) (tb_1 75 rfl rfl) rfl (by decide +kernel) rfl rfl (eX6_init (6, .putfield 9, 3) (List.mem_of_getElem? (i := 4) rfl)) (fun H1 lo1 hI1 hO1 hs1 hq1 => ?_)
  refine lv_aload_n hx hb (eX6_init (9, .aload_n 0, 1) (List.mem_of_getElem? (i := 5) rfl)) rfl (lv_at hl 0 rfl) ?_
  refine lv_iconst (v := 0) hx hb (eX6_init (10, .iconst 0, 1) (List.mem_of_getElem? (i := 6) rfl)) (by decide) ?_
  refine zo_putN (C := RX6) (T := TX6) (N := 11) (ci := 5) (k := 1) (ty := .int) hx hb hI1 hO1 h2 wiX6 tyX6 tyX6_ok nmX6 hown hKn.1 rfl (by decide) (tb_1 77 rfl rfl) rfl (by decide +kernel) rfl rfl (eX6_init (11, .putfield 15, 3) (List.mem_of_getElem? (i := 7) rfl)) (fun H2 lo2 hI2 hO2 hs2 hq2 => ?_)
  refine lv_aload_n hx hb (eX6_init (14, .aload_n 0, 1) (List.mem_of_getElem? (i := 8) rfl)) rfl (lv_at hl 0 rfl) ?_
  refine lv_iconst (v := 0) hx hb (eX6_init (15, .iconst 0, 1) (List.mem_of_getElem? (i := 9) rfl)) (by decide) ?_
  refine zo_putN (C := RX6) (T := TX6) (N := 11) (ci := 5) (k := 2) (ty := .int) hx hb hI2 hO2 h2 wiX6 tyX6 tyX6_ok nmX6 hown hKn.1 rfl (by decide) (tb_1 79 rfl rfl) rfl (by decide +kernel) rfl rfl (eX6_init (16, .putfield 18, 3) (List.mem_of_getElem? (i := 10) rfl)) (fun H3 lo3 hI3 hO3 hs3 hq3 => ?_)
  refine lv_aload_n hx hb (eX6_init (19, .aload_n 0, 1) (List.mem_of_getElem? (i := 11) rfl)) rfl (lv_at hl 0 rfl) ?_
  refine zo_new (C := RX7) (T := TX7) (N := 5) (ci := 6) hx hb hI3 h2 wiX7 tyX7 tyX7_ok hown (tb_1 53 rfl rfl) (tb_1 54 rfl rfl) (tb_1 4 rfl rfl) hKn.1 rfl (by decide) (by decide) (eX6_init (20, .new 21, 3) (List.mem_of_getElem? (i := 12) rfl)) (fun b4 H4 hI4 hr4 hs4 hb4 hp4 hq4 => ?_)
  have hO4 := hO3.kept (hq4 b (Nat.lt_of_lt_of_le hI3.2.2.2.2.2.2.2 hI3.2.2.2.1))
  have hz4 : sz ≤ b4 := by rw [hb4]; exact hI3.1.1
  refine lv_dup hx hb (eX6_init (23, .dup, 1) (List.mem_of_getElem? (i := 13) rfl)) rfl ?_
  refine zo_callN (As := []) (rest := [.ref b4, .ref b]) (b := b4) hx hb hml hown hts0 (iX7 l D cA ro sz H0 b4) ⟨rfl, rfl⟩ ⟨by decide, by decide⟩ ⟨by decide, by decide⟩ (tb_1 57 rfl rfl) (tb_1 4 rfl rfl) (List.mem_of_getElem? (i := 7) rfl) (tb_1 56 rfl rfl) rfl (show yX7_init.cls ≠ "java/lang/invoke/MethodHandle" ∧ yX7_init.cls ≠ "java/lang/invoke/VarHandle" ∧ (parseMethodDescriptor yX7_init.desc).map (fun d => d.parameters.length) = some 0 by decide +kernel) hI4.1 hr4 hz4 hp4 (hKo.ext hI4.2.1) hl.1 (Nat.le_of_ble_eq_true rfl) (eX6_init (24, .invokespecial 23, 3) (List.mem_of_getElem? (i := 14) rfl)) (fun H5 lo5 ro5 he5 hn5 hr5 hh5 hz5 hq5 hE5 => ?_)
  have hI5 := hI4.call hs4 he5 hn5 hh5 hz5 hq5
  have hO5 := hO4.kept (hq5 b (Nat.lt_of_lt_of_le hI4.2.2.2.2.2.2.2 hI4.2.2.2.1) (Nat.ne_of_lt (Nat.lt_of_lt_of_le hI4.2.2.2.2.2.2.2 hs4)))
  refine zo_putF (C := RX6) (T := TX6) (N := 11) (ci := 5) (k := 3) (ty := (.object "MomentTexts$RuleDate")) hx hb hI5 hO5 h2 wiX6 tyX6 tyX6_ok nmX6 hown hin hKn.1 rfl (by decide) (tb_1 81 rfl rfl) rfl rfl (by decide +kernel) rfl rfl (eX6_init (27, .putfield 24, 3) (List.mem_of_getElem? (i := 15) rfl)) (fun H6 lo6 hI6 hO6 hs6 hq6 => ?_)
  refine lv_aload_n hx hb (eX6_init (30, .aload_n 0, 1) (List.mem_of_getElem? (i := 16) rfl)) rfl (lv_at hl 0 rfl) ?_
  refine zo_new (C := RX7) (T := TX7) (N := 5) (ci := 6) hx hb hI6 h2 wiX7 tyX7 tyX7_ok hown (tb_1 53 rfl rfl) (tb_1 54 rfl rfl) (tb_1 4 rfl rfl) hKn.1 rfl (by decide) (by decide) (eX6_init (31, .new 21, 3) (List.mem_of_getElem? (i := 17) rfl)) (fun b7 H7 hI7 hr7 hs7 hb7 hp7 hq7 => ?_)
  have hO7 := hO6.kept (hq7 b (Nat.lt_of_lt_of_le hI6.2.2.2.2.2.2.2 hI6.2.2.2.1))
  have hz7 : sz ≤ b7 := by rw [hb7]; exact hI6.1.1
  refine lv_dup hx hb (eX6_init (34, .dup, 1) (List.mem_of_getElem? (i := 18) rfl)) rfl ?_
  refine zo_callN (As := []) (rest := [.ref b7, .ref b]) (b := b7) hx hb hml hown hts0 (iX7 l D cA ro5 sz H0 b7) ⟨rfl, rfl⟩ ⟨by decide, by decide⟩ ⟨by decide, by decide⟩ (tb_1 57 rfl rfl) (tb_1 4 rfl rfl) (List.mem_of_getElem? (i := 7) rfl) (tb_1 56 rfl rfl) rfl (show yX7_init.cls ≠ "java/lang/invoke/MethodHandle" ∧ yX7_init.cls ≠ "java/lang/invoke/VarHandle" ∧ (parseMethodDescriptor yX7_init.desc).map (fun d => d.parameters.length) = some 0 by decide +kernel) hI7.1 hr7 hz7 hp7 (hKo.ext hI7.2.1) hl.1 (Nat.le_of_ble_eq_true rfl) (eX6_init (35, .invokespecial 23, 3) (List.mem_of_getElem? (i := 19) rfl)) (fun H8 lo8 ro8 he8 hn8 hr8 hh8 hz8 hq8 hE8 => ?_)
  have hI8 := hI7.call hs7 he8 hn8 hh8 hz8 hq8
  have hO8 := hO7.kept (hq8 b (Nat.lt_of_lt_of_le hI7.2.2.2.2.2.2.2 hI7.2.2.2.1) (Nat.ne_of_lt (Nat.lt_of_lt_of_le hI7.2.2.2.2.2.2.2 hs7)))
  have fb4_8 := he8 _ _ hr5
  refine zo_putF (C := RX6) (T := TX6) (N := 11) (ci := 5) (k := 4) (ty := (.object "MomentTexts$RuleDate")) hx hb hI8 hO8 h2 wiX6 tyX6 tyX6_ok nmX6 hown hin hKn.1 rfl (by decide) (tb_1 82 rfl rfl) rfl rfl (by decide +kernel) rfl rfl (eX6_init (38, .putfield 28, 3) (List.mem_of_getElem? (i := 20) rfl)) (fun H9 lo9 hI9 hO9 hs9 hq9 => ?_)
  refine lv_aload_n hx hb (eX6_init (41, .aload_n 0, 1) (List.mem_of_getElem? (i := 21) rfl)) rfl (lv_at hl 0 rfl) ?_
  refine lv_iconst (v := 0) hx hb (eX6_init (42, .iconst 0, 1) (List.mem_of_getElem? (i := 22) rfl)) (by decide) ?_
  refine zo_putN (C := RX6) (T := TX6) (N := 11) (ci := 5) (k := 5) (ty := .boolean) hx hb hI9 hO9 h2 wiX6 tyX6 tyX6_ok nmX6 hown hKn.1 rfl (by decide) (tb_1 83 rfl rfl) rfl (by decide +kernel) rfl rfl (eX6_init (43, .putfield 31, 3) (List.mem_of_getElem? (i := 23) rfl)) (fun H10 lo10 hI10 hO10 hs10 hq10 => ?_)
  refine lv_aload_n hx hb (eX6_init (46, .aload_n 0, 1) (List.mem_of_getElem? (i := 24) rfl)) rfl (lv_at hl 0 rfl) ?_
  refine lv_iconst (v := 0) hx hb (eX6_init (47, .iconst 0, 1) (List.mem_of_getElem? (i := 25) rfl)) (by decide) ?_
  refine zo_putN (C := RX6) (T := TX6) (N := 11) (ci := 5) (k := 6) (ty := .int) hx hb hI10 hO10 h2 wiX6 tyX6 tyX6_ok nmX6 hown hKn.1 rfl (by decide) (tb_1 84 rfl rfl) rfl (by decide +kernel) rfl rfl (eX6_init (48, .putfield 35, 3) (List.mem_of_getElem? (i := 26) rfl)) (fun H11 lo11 hI11 hO11 hs11 hq11 => ?_)
  refine lv_aload_n hx hb (eX6_init (51, .aload_n 0, 1) (List.mem_of_getElem? (i := 27) rfl)) rfl (lv_at hl 0 rfl) ?_
  refine lv_lconst (v := 0) hx hb (eX6_init (52, .lconst 0, 1) (List.mem_of_getElem? (i := 28) rfl)) (by decide) ?_
  refine zo_putN (C := RX6) (T := TX6) (N := 11) (ci := 5) (k := 7) (ty := .long) hx hb hI11 hO11 h2 wiX6 tyX6 tyX6_ok nmX6 hown hKn.1 rfl (by decide) (tb_1 85 rfl rfl) rfl (by decide +kernel) rfl rfl (eX6_init (53, .putfield 38, 3) (List.mem_of_getElem? (i := 29) rfl)) (fun H12 lo12 hI12 hO12 hs12 hq12 => ?_)
  refine lv_aload_n hx hb (eX6_init (56, .aload_n 0, 1) (List.mem_of_getElem? (i := 30) rfl)) rfl (lv_at hl 0 rfl) ?_
  refine lv_lconst (v := 0) hx hb (eX6_init (57, .lconst 0, 1) (List.mem_of_getElem? (i := 31) rfl)) (by decide) ?_
  refine zo_putN (C := RX6) (T := TX6) (N := 11) (ci := 5) (k := 8) (ty := .long) hx hb hI12 hO12 h2 wiX6 tyX6 tyX6_ok nmX6 hown hKn.1 rfl (by decide) (tb_1 86 rfl rfl) rfl (by decide +kernel) rfl rfl (eX6_init (58, .putfield 42, 3) (List.mem_of_getElem? (i := 32) rfl)) (fun H13 lo13 hI13 hO13 hs13 hq13 => ?_)
  refine lv_aload_n hx hb (eX6_init (61, .aload_n 0, 1) (List.mem_of_getElem? (i := 33) rfl)) rfl (lv_at hl 0 rfl) ?_
  refine lv_lconst (v := 0) hx hb (eX6_init (62, .lconst 0, 1) (List.mem_of_getElem? (i := 34) rfl)) (by decide) ?_
  refine zo_putN (C := RX6) (T := TX6) (N := 11) (ci := 5) (k := 9) (ty := .long) hx hb hI13 hO13 h2 wiX6 tyX6 tyX6_ok nmX6 hown hKn.1 rfl (by decide) (tb_1 87 rfl rfl) rfl (by decide +kernel) rfl rfl (eX6_init (63, .putfield 45, 3) (List.mem_of_getElem? (i := 35) rfl)) (fun H14 lo14 hI14 hO14 hs14 hq14 => ?_)
  refine lv_aload_n hx hb (eX6_init (66, .aload_n 0, 1) (List.mem_of_getElem? (i := 36) rfl)) rfl (lv_at hl 0 rfl) ?_
  refine lv_lconst (v := 0) hx hb (eX6_init (67, .lconst 0, 1) (List.mem_of_getElem? (i := 37) rfl)) (by decide) ?_
  refine zo_putN (C := RX6) (T := TX6) (N := 11) (ci := 5) (k := 10) (ty := .long) hx hb hI14 hO14 h2 wiX6 tyX6 tyX6_ok nmX6 hown hKn.1 rfl (by decide) (tb_1 88 rfl rfl) rfl (by decide +kernel) rfl rfl (eX6_init (68, .putfield 48, 3) (List.mem_of_getElem? (i := 38) rfl)) (fun H15 lo15 hI15 hO15 hs15 hq15 => ?_)
  refine zo_ret (ci := 5) (N := 11) (r := 5) (fs := fsX6) (E := fun ro9 H => zh_f D H b 5 0 = .int 0 ∧ zh_f D H b 5 5 = .int 0 ∧ ∃ f t : Nat, zh_f D H b 5 3 = .ref f ∧ zh_f D H b 5 4 = .ref t ∧ ro9 f = some 6 ∧ ro9 t = some 6 ∧ ro f = none ∧ ro t = none ∧ f ≠ t) (⟨zo_fO (k := 0) hO15 (by decide), zo_fO (k := 5) hO15 (by decide), b4, b7, zo_fO (k := 3) hO15 (by decide), zo_fO (k := 4) hO15 (by decide), zo_up_ext (r := 5) hI15.2.2.2.2.2.1 _ _ fb4_8, zo_up_ext (r := 5) hI15.2.2.2.2.2.1 _ _ hr8, zo_fresh hh (by rw [hb4]; exact hI3.2.2.2.1), zo_fresh hh (by rw [hb7]; exact hI6.2.2.2.1), fun g => by have g9 := hr5; rw [g, hr7] at g9; cases g9⟩) hx hb hr B.notSynchronized hI15 hO15 rfl (fun k t hk => ?_) (eX6_init (71, .return_, 1) (List.mem_of_getElem? (i := 39) rfl))
  match k, hk with
  | 0, hk =>
    cases (show some ((0, (-2147483648), 2147483647) : zt_T) = some t from hk)
    exact ⟨by decide, ⟨0, rfl, by decide, by decide⟩⟩
  | 1, hk =>
    cases (show some ((0, (-2147483648), 2147483647) : zt_T) = some t from hk)
    exact ⟨by decide, ⟨0, rfl, by decide, by decide⟩⟩
  | 2, hk =>
    cases (show some ((0, (-2147483648), 2147483647) : zt_T) = some t from hk)
    exact ⟨by decide, ⟨0, rfl, by decide, by decide⟩⟩
  | 3, hk =>
    cases (show some ((16, 0, 0) : zt_T) = some t from hk)
    exact ⟨by decide, Or.inr ⟨b4, rfl, fb4_8⟩⟩
  | 4, hk =>
    cases (show some ((16, 0, 0) : zt_T) = some t from hk)
    exact ⟨by decide, Or.inr ⟨b7, rfl, hr8⟩⟩
  | 5, hk =>
    cases (show some ((0, 0, 1) : zt_T) = some t from hk)
    exact ⟨by decide, ⟨0, rfl, by decide, by decide⟩⟩
  | 6, hk =>
    cases (show some ((0, (-2147483648), 2147483647) : zt_T) = some t from hk)
    exact ⟨by decide, ⟨0, rfl, by decide, by decide⟩⟩
  | 7, hk =>
    cases (show some ((1, (-9223372036854775808), 9223372036854775807) : zt_T) = some t from hk)
    exact ⟨by decide, ⟨0, rfl, by decide, by decide⟩⟩
  | 8, hk =>
    cases (show some ((1, (-9223372036854775808), 9223372036854775807) : zt_T) = some t from hk)
    exact ⟨by decide, ⟨0, rfl, by decide, by decide⟩⟩
  | 9, hk =>
    cases (show some ((1, (-9223372036854775808), 9223372036854775807) : zt_T) = some t from hk)
    exact ⟨by decide, ⟨0, rfl, by decide, by decide⟩⟩
  | 10, hk =>
    cases (show some ((1, (-9223372036854775808), 9223372036854775807) : zt_T) = some t from hk)
    exact ⟨by decide, ⟨0, rfl, by decide, by decide⟩⟩
  | k + 11, hk => cases (show (none : Option zt_T) = some t from hk)
set_option maxRecDepth 100000 in
set_option maxHeartbeats 4000000 in
theorem iX10Y (l : Launch) (D : va_G) (cA : Nat → ClassId) (ro : Nat → Option Nat) (sz : Nat) (H0 : Heap) (b : Nat) (k1 : Int32) (l1 : Nat) (g2 : ro l1 = some 4) : Met l yX10_init (gW yX10_init cX10_init 3 none) { frames := 3, cells := 5, slots := 141, locals := 52 } (zo_Pc D cA ro sz H0 9 6 (fun k => defaultValue (tyX10 k)) b [.int k1, .ref l1]) (zo_Qc D cA ro sz H0 9 b (fun ro9 H => zh_f D H b 9 0 = .int k1 ∧ zh_f D H b 9 1 = .ref l1 ∧ zh_f D H b 9 4 = .int 0 ∧ (∃ q : Nat, zh_f D H b 9 2 = .ref q ∧ ro9 q = some 14 ∧ ro q = none) ∧ (∃ q : Nat, zh_f D H b 9 3 = .ref q ∧ ro9 q = some 15 ∧ ro q = none) ∧ (∃ q f t : Nat, zh_f D H b 9 5 = .ref q ∧ ro9 q = some 5 ∧ ro q = none ∧ zh_f D H q 5 0 = .int 0 ∧ zh_f D H q 5 5 = .int 0 ∧ zh_f D H q 5 3 = .ref f ∧ zh_f D H q 5 4 = .ref t ∧ ro9 f = some 6 ∧ ro9 t = some 6 ∧ ro f = none ∧ ro t = none ∧ f ≠ t))) 5 141 (zy_fr sz) := by
  refine zy_ofW (cc := cX10_init) (maxL := 3) (ret := none) (by decide +kernel) rfl ?_
  intro p e s m args below meth c s1 B hml hv
  obtain ⟨rfl, hh, hro, hsb, hO0, hKo⟩ := hv
  have hKn := hKo.1
  have hx := B.exec
  have hb := B.bytes
  have hr := B.returns
  have hts0 := atoms_spec (ws := gW yX10_init cX10_init 3 none) B.pre
  have h2 : ∀ w ∈ gT, w.before (Value.ref b :: [.int k1, .ref l1]).toArray s = true := fun w hw => hts0 w (List.mem_cons_of_mem _ hw)
  have hown : s.vm.findClass RX10 = some m.cls := findClass_of_methodNamed B.named
  have hin : meth.name = "<init>" := (name_of_methodNamed B.named B.method).1
  have hl := lv_entry (Value.ref b :: [.int k1, .ref l1]) (n := 3) (Nat.le_of_ble_eq_true rfl)
  rw [lg_entry_eq]
  generalize (lg_sl (Value.ref b :: [.int k1, .ref l1]) ++ List.replicate (3 - (lg_sl (Value.ref b :: [.int k1, .ref l1])).length) Slot.unset).toArray = ls at hl ⊢
  have hI0 : zo_I D cA ro sz H0 s.heap b ro s.heap [] := ⟨hh, fun _ _ h => h, fun q h => absurd rfl h, Nat.le_refl _, fun _ _ _ => rfl, hro, hsb, (by obtain ⟨cell, q1, -⟩ := hO0; exact (Array.getElem?_eq_some_iff.mp q1).1)⟩
  refine lv_aload_n hx hb (eX10_init (0, .aload_n 0, 1) (List.mem_of_getElem? (i := 0) rfl)) rfl (lv_at hl 0 rfl) ?_
  refine W.objInit hx hb hown (h2 _ (tb_3 177 rfl rfl)) (h2 _ (tb_1 29 rfl rfl)) (h2 _ (tb_1 30 rfl rfl)) rfl (by rw [hml]; exact hl.1) rfl (eX10_init (1, .invokespecial 3, 3) (List.mem_of_getElem? (i := 1) rfl)) (Nat.le_of_ble_eq_true rfl) (Nat.le_of_ble_eq_true rfl) ?_
  refine W.eq (g2 := F0 m 4 ls []) rfl ?_
  refine lv_aload_n hx hb (eX10_init (4, .aload_n 0, 1) (List.mem_of_getElem? (i := 2) rfl)) rfl (lv_at hl 0 rfl) ?_
  refine lv_bipush (v := 60) hx hb (eX10_init (5, .bipush 60, 2) (List.mem_of_getElem? (i := 3) rfl)) (by decide) ?_
  refine zo_newa (atype := .long) (N := 60) (ti := 1) (r := 14) (t := (1, (-9223372036854775808), 9223372036854775807)) hx hb hI0 (h2 _ (tb_1 44 rfl rfl)) (zo_cA (ti := 1) (tys := (cA 1, .long)) hKn.1 rfl) rfl (fun _ => ⟨0, rfl, by decide, by decide⟩) (by decide) (by decide) (by decide) (by decide) (eX10_init (7, .newarray .long, 2) (List.mem_of_getElem? (i := 4) rfl)) (fun b1 ro1 H1 hI1 hr1 he1 hq1 hb1 hz1 => ?_)
  have hO1 := hO0.kept (hq1 b (Nat.lt_of_lt_of_le hI0.2.2.2.2.2.2.2 hI0.2.2.2.1))
  have fl1_1 := he1 _ _ g2
  refine zo_putF (C := RX10) (T := TX10) (N := 6) (ci := 9) (k := 2) (ty := (.array .long)) hx hb hI1 hO1 h2 wiX10 tyX10 tyX10_ok nmX10 hown hin hKn.1 rfl (by decide) (tb_3 182 rfl rfl) rfl rfl (by decide +kernel) rfl rfl (eX10_init (9, .putfield 9, 3) (List.mem_of_getElem? (i := 5) rfl)) (fun H2 lo2 hI2 hO2 hs2 hq2 => ?_)
  refine lv_aload_n hx hb (eX10_init (12, .aload_n 0, 1) (List.mem_of_getElem? (i := 6) rfl)) rfl (lv_at hl 0 rfl) ?_
  refine lv_bipush (v := 60) hx hb (eX10_init (13, .bipush 60, 2) (List.mem_of_getElem? (i := 7) rfl)) (by decide) ?_
  refine zo_newa (atype := .int) (N := 60) (ti := 0) (r := 15) (t := (0, (-2147483648), 2147483647)) hx hb hI2 (h2 _ (tb_3 200 rfl rfl)) (zo_cA (ti := 0) (tys := (cA 0, .int)) hKn.1 rfl) rfl (fun _ => ⟨0, rfl, by decide, by decide⟩) (by decide) (by decide) (by decide) (by decide) (eX10_init (15, .newarray .int, 2) (List.mem_of_getElem? (i := 8) rfl)) (fun b3 ro3 H3 hI3 hr3 he3 hq3 hb3 hz3 => ?_)
  have hO3 := hO2.kept (hq3 b (Nat.lt_of_lt_of_le hI2.2.2.2.2.2.2.2 hI2.2.2.2.1))
  have fl1_3 := he3 _ _ fl1_1
  have fb1_3 := he3 _ _ hr1
  refine zo_putF (C := RX10) (T := TX10) (N := 6) (ci := 9) (k := 3) (ty := (.array .int)) hx hb hI3 hO3 h2 wiX10 tyX10 tyX10_ok nmX10 hown hin hKn.1 rfl (by decide) (tb_3 183 rfl rfl) rfl rfl (by decide +kernel) rfl rfl (eX10_init (17, .putfield 15, 3) (List.mem_of_getElem? (i := 9) rfl)) (fun H4 lo4 hI4 hO4 hs4 hq4 => ?_)
  refine lv_aload_n hx hb (eX10_init (20, .aload_n 0, 1) (List.mem_of_getElem? (i := 10) rfl)) rfl (lv_at hl 0 rfl) ?_
  refine lv_iconst (v := 0) hx hb (eX10_init (21, .iconst 0, 1) (List.mem_of_getElem? (i := 11) rfl)) (by decide) ?_
  refine zo_putN (C := RX10) (T := TX10) (N := 6) (ci := 9) (k := 4) (ty := .int) hx hb hI4 hO4 h2 wiX10 tyX10 tyX10_ok nmX10 hown hKn.1 rfl (by decide) (tb_3 184 rfl rfl) rfl (by decide +kernel) rfl rfl (eX10_init (22, .putfield 19, 3) (List.mem_of_getElem? (i := 12) rfl)) (fun H5 lo5 hI5 hO5 hs5 hq5 => ?_)
  refine lv_aload_n hx hb (eX10_init (25, .aload_n 0, 1) (List.mem_of_getElem? (i := 13) rfl)) rfl (lv_at hl 0 rfl) ?_
  refine zo_new (C := RX6) (T := TX6) (N := 11) (ci := 5) hx hb hI5 h2 wiX6 tyX6 tyX6_ok hown (tb_3 178 rfl rfl) (tb_1 48 rfl rfl) (tb_1 3 rfl rfl) hKn.1 rfl (by decide) (by decide) (eX10_init (26, .new 23, 3) (List.mem_of_getElem? (i := 14) rfl)) (fun b6 H6 hI6 hr6 hs6 hb6 hp6 hq6 => ?_)
  have hO6 := hO5.kept (hq6 b (Nat.lt_of_lt_of_le hI5.2.2.2.2.2.2.2 hI5.2.2.2.1))
  have hz6 : sz ≤ b6 := by rw [hb6]; exact hI5.1.1
  refine lv_dup hx hb (eX10_init (29, .dup, 1) (List.mem_of_getElem? (i := 15) rfl)) rfl ?_
  refine zo_callN (As := []) (rest := [.ref b6, .ref b]) (b := b6) hx hb hml hown hts0 (iX6Y l D cA ro3 sz H0 b6) ⟨rfl, rfl⟩ ⟨by decide, by decide⟩ ⟨by decide, by decide⟩ (tb_1 51 rfl rfl) (tb_1 3 rfl rfl) (List.mem_of_getElem? (i := 8) rfl) (tb_1 50 rfl rfl) rfl (show yX6_init.cls ≠ "java/lang/invoke/MethodHandle" ∧ yX6_init.cls ≠ "java/lang/invoke/VarHandle" ∧ (parseMethodDescriptor yX6_init.desc).map (fun d => d.parameters.length) = some 0 by decide +kernel) hI6.1 hr6 hz6 hp6 (hKo.ext hI6.2.1) hl.1 (Nat.le_of_ble_eq_true rfl) (eX10_init (30, .invokespecial 25, 3) (List.mem_of_getElem? (i := 16) rfl)) (fun H7 lo7 ro7 he7 hn7 hr7 hh7 hz7 hq7 hE7 => ?_)
  have hI7 := hI6.call hs6 he7 hn7 hh7 hz7 hq7
  have hO7 := hO6.kept (hq7 b (Nat.lt_of_lt_of_le hI6.2.2.2.2.2.2.2 hI6.2.2.2.1) (Nat.ne_of_lt (Nat.lt_of_lt_of_le hI6.2.2.2.2.2.2.2 hs6)))
  have fl1_7 := he7 _ _ fl1_3
  have fb1_7 := he7 _ _ fb1_3
  have fb3_7 := he7 _ _ hr3
  refine zo_putF (C := RX10) (T := TX10) (N := 6) (ci := 9) (k := 5) (ty := (.object "MomentTexts$Rule")) hx hb hI7 hO7 h2 wiX10 tyX10 tyX10_ok nmX10 hown hin hKn.1 rfl (by decide) (tb_3 185 rfl rfl) rfl rfl (by decide +kernel) rfl rfl (eX10_init (33, .putfield 26, 3) (List.mem_of_getElem? (i := 17) rfl)) (fun H8 lo8 hI8 hO8 hs8 hq8 => ?_)
  obtain ⟨w0, w5, f7, t7, w3, w4, wf, wt, nf, nt, nft⟩ := hE7
  have sb8 := hq8 b6 (fun g => by have g9 := hr7; rw [g, hI7.2.2.2.2.2.1] at g9; cases g9)
  refine lv_aload_n hx hb (eX10_init (36, .aload_n 0, 1) (List.mem_of_getElem? (i := 18) rfl)) rfl (lv_at hl 0 rfl) ?_
  refine lv_iload_n hx hb (eX10_init (37, .iload_n 1, 1) (List.mem_of_getElem? (i := 19) rfl)) rfl (lv_at hl 1 rfl) ?_
  refine zo_putF (C := RX10) (T := TX10) (N := 6) (ci := 9) (k := 0) (ty := .int) hx hb hI8 hO8 h2 wiX10 tyX10 tyX10_ok nmX10 hown hin hKn.1 rfl (by decide) (tb_3 180 rfl rfl) rfl rfl (by decide +kernel) rfl rfl (eX10_init (38, .putfield 30, 3) (List.mem_of_getElem? (i := 20) rfl)) (fun H9 lo9 hI9 hO9 hs9 hq9 => ?_)
  have sb9 := hq9 b6 (fun g => by have g9 := hr7; rw [g, hI8.2.2.2.2.2.1] at g9; cases g9)
  refine lv_aload_n hx hb (eX10_init (41, .aload_n 0, 1) (List.mem_of_getElem? (i := 21) rfl)) rfl (lv_at hl 0 rfl) ?_
  refine lv_aload_n hx hb (eX10_init (42, .aload_n 2, 1) (List.mem_of_getElem? (i := 22) rfl)) rfl (lv_at hl 2 rfl) ?_
  refine zo_putF (C := RX10) (T := TX10) (N := 6) (ci := 9) (k := 1) (ty := (.object "MomentTexts$Leaps")) hx hb hI9 hO9 h2 wiX10 tyX10 tyX10_ok nmX10 hown hin hKn.1 rfl (by decide) (tb_3 181 rfl rfl) rfl rfl (by decide +kernel) rfl rfl (eX10_init (43, .putfield 33, 3) (List.mem_of_getElem? (i := 23) rfl)) (fun H10 lo10 hI10 hO10 hs10 hq10 => ?_)
  have sb10 := hq10 b6 (fun g => by have g9 := hr7; rw [g, hI9.2.2.2.2.2.1] at g9; cases g9)
  refine zo_ret (ci := 9) (N := 6) (r := 9) (fs := fsX10) (E := fun ro9 H => zh_f D H b 9 0 = .int k1 ∧ zh_f D H b 9 1 = .ref l1 ∧ zh_f D H b 9 4 = .int 0 ∧ (∃ q : Nat, zh_f D H b 9 2 = .ref q ∧ ro9 q = some 14 ∧ ro q = none) ∧ (∃ q : Nat, zh_f D H b 9 3 = .ref q ∧ ro9 q = some 15 ∧ ro q = none) ∧ (∃ q f t : Nat, zh_f D H b 9 5 = .ref q ∧ ro9 q = some 5 ∧ ro q = none ∧ zh_f D H q 5 0 = .int 0 ∧ zh_f D H q 5 5 = .int 0 ∧ zh_f D H q 5 3 = .ref f ∧ zh_f D H q 5 4 = .ref t ∧ ro9 f = some 6 ∧ ro9 t = some 6 ∧ ro f = none ∧ ro t = none ∧ f ≠ t)) (⟨zo_fO (k := 0) hO10 (by decide), zo_fO (k := 1) hO10 (by decide), zo_fO (k := 4) hO10 (by decide), ⟨b1, zo_fO (k := 2) hO10 (by decide), zo_up_ext (r := 9) hI10.2.2.2.2.2.1 _ _ fb1_7, zo_fresh hh (by rw [hb1]; exact hI0.2.2.2.1)⟩, ⟨b3, zo_fO (k := 3) hO10 (by decide), zo_up_ext (r := 9) hI10.2.2.2.2.2.1 _ _ fb3_7, zo_fresh hh (by rw [hb3]; exact hI2.2.2.2.1)⟩, ⟨b6, f7, t7, zo_fO (k := 5) hO10 (by decide), zo_up_ext (r := 9) hI10.2.2.2.2.2.1 _ _ hr7, zo_fresh hh (by rw [hb6]; exact hI5.2.2.2.1), zh_fq (sb10.trans (sb9.trans sb8)) w0, zh_fq (sb10.trans (sb9.trans sb8)) w5, zh_fq (sb10.trans (sb9.trans sb8)) w3, zh_fq (sb10.trans (sb9.trans sb8)) w4, zo_up_ext (r := 9) hI10.2.2.2.2.2.1 _ _ wf, zo_up_ext (r := 9) hI10.2.2.2.2.2.1 _ _ wt, none_of hI6.2.1 nf, none_of hI6.2.1 nt, nft⟩⟩) hx hb hr B.notSynchronized hI10 hO10 rfl (fun k t hk => ?_) (eX10_init (46, .return_, 1) (List.mem_of_getElem? (i := 24) rfl))
  match k, hk with
  | 0, hk =>
    cases (show some ((0, (-2147483648), 2147483647) : zt_T) = some t from hk)
    exact ⟨by decide, ⟨k1, rfl, (zn_i32 k1).1, (zn_i32 k1).2⟩⟩
  | 1, hk =>
    cases (show some ((12, 0, 0) : zt_T) = some t from hk)
    exact ⟨by decide, Or.inr ⟨l1, rfl, fl1_7⟩⟩
  | 2, hk =>
    cases (show some ((32, 0, 0) : zt_T) = some t from hk)
    exact ⟨by decide, Or.inr ⟨b1, rfl, fb1_7⟩⟩
  | 3, hk =>
    cases (show some ((34, 0, 0) : zt_T) = some t from hk)
    exact ⟨by decide, Or.inr ⟨b3, rfl, fb3_7⟩⟩
  | 4, hk =>
    cases (show some ((0, 0, 60) : zt_T) = some t from hk)
    exact ⟨by decide, ⟨0, rfl, by decide, by decide⟩⟩
  | 5, hk =>
    cases (show some ((14, 0, 0) : zt_T) = some t from hk)
    exact ⟨by decide, Or.inr ⟨b6, rfl, hr7⟩⟩
  | k + 6, hk => cases (show (none : Option zt_T) = some t from hk)
