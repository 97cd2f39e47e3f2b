set_option maxRecDepth 100000 in
set_option maxHeartbeats 4000000 in
theorem iX4R (l : Launch) (D : va_G) (cA : Nat → ClassId) (ro : Nat → Option Nat) (sz : Nat) (H0 : Heap) (b : Nat) (t1 l1 : Nat) (g1 : ro t1 = some 0) (g2 : ro l1 = some 4) : Met l yX4_init (gW yX4_init cX4_init 3 none) { frames := 2, cells := 4, slots := 68, locals := 32 } (zo_Pc D cA ro sz H0 3 6 (fun k => defaultValue (tyX4 k)) b [.ref t1, .ref l1]) (zo_Qc D cA ro sz H0 3 b (fun _ H => zh_f D H b 3 0 = .ref t1 ∧ zh_f D H b 3 1 = .ref l1)) 4 68 (zy_fr sz) := by
  refine zy_ofW (cc := cX4_init) (maxL := 3) (ret := none) (by decide +kernel) rfl ?_
  intro p e s m args below meth c s1 B hml hv
  obtain ⟨rfl, hh, hro, hsb, hO0, hKo⟩ := hv
  have hKn := hKo.1
  have hx := B.exec
  have hb := B.bytes
  have hr := B.returns
  have hts0 := atoms_spec (ws := gW yX4_init cX4_init 3 none) B.pre
  have h2 : ∀ w ∈ gT, w.before (Value.ref b :: [.ref t1, .ref l1]).toArray s = true := fun w hw => hts0 w (List.mem_cons_of_mem _ hw)
  have hown : s.vm.findClass RX4 = some m.cls := findClass_of_methodNamed B.named
  have hin : meth.name = "<init>" := (name_of_methodNamed B.named B.method).1
  have hl := lv_entry (Value.ref b :: [.ref t1, .ref l1]) (n := 3) (Nat.le_of_ble_eq_true rfl)
  rw [lg_entry_eq]
  generalize (lg_sl (Value.ref b :: [.ref t1, .ref l1]) ++ List.replicate (3 - (lg_sl (Value.ref b :: [.ref t1, .ref l1])).length) Slot.unset).toArray = ls at hl ⊢
  have hI0 : zo_I D cA ro sz H0 s.heap b ro s.heap [] := ⟨hh, fun _ _ h => h, fun q h => absurd rfl h, Nat.le_refl _, fun _ _ _ => rfl, hro, hsb, (by obtain ⟨cell, q1, -⟩ := hO0; exact (Array.getElem?_eq_some_iff.mp q1).1)⟩
  refine lv_aload_n hx hb (eX4_init (0, .aload_n 0, 1) (List.mem_of_getElem? (i := 0) rfl)) rfl (lv_at hl 0 rfl) ?_
  refine W.objInit hx hb hown (h2 _ (tb_1 160 rfl rfl)) (h2 _ (tb_1 29 rfl rfl)) (h2 _ (tb_1 30 rfl rfl)) rfl (by rw [hml]; exact hl.1) rfl (eX4_init (1, .invokespecial 3, 3) (List.mem_of_getElem? (i := 1) rfl)) (Nat.le_of_ble_eq_true rfl) (Nat.le_of_ble_eq_true rfl) ?_
  refine W.eq (g2 := F0 m 4 ls []) rfl ?_
  refine lv_aload_n hx hb (eX4_init (4, .aload_n 0, 1) (List.mem_of_getElem? (i := 2) rfl)) rfl (lv_at hl 0 rfl) ?_
  refine zo_new (C := RX1) (T := TX1) (N := 10) (ci := 1) hx hb hI0 h2 wiX1 tyX1 tyX1_ok hown (tb_1 161 rfl rfl) (tb_1 162 rfl rfl) (tb_1 8 rfl rfl) hKn.1 rfl (by decide) (by decide) (eX4_init (5, .new 9, 3) (List.mem_of_getElem? (i := 3) rfl)) (fun b1 H1 hI1 hr1 hs1 hb1 hp1 hq1 => ?_)
  have hO1 := hO0.kept (hq1 b (Nat.lt_of_lt_of_le hI0.2.2.2.2.2.2.2 hI0.2.2.2.1))
  have hz1 : sz ≤ b1 := by rw [hb1]; exact hI0.1.1
  refine lv_dup hx hb (eX4_init (8, .dup, 1) (List.mem_of_getElem? (i := 4) rfl)) rfl ?_
  refine zo_callN (As := []) (rest := [.ref b1, .ref b]) (b := b1) hx hb hml hown hts0 (iX1 l D cA ro sz H0 b1) ⟨rfl, rfl⟩ ⟨by decide, by decide⟩ ⟨by decide, by decide⟩ (tb_1 165 rfl rfl) (tb_1 8 rfl rfl) (List.mem_of_getElem? (i := 4) rfl) (tb_1 164 rfl rfl) rfl (show yX1_init.cls ≠ "java/lang/invoke/MethodHandle" ∧ yX1_init.cls ≠ "java/lang/invoke/VarHandle" ∧ (parseMethodDescriptor yX1_init.desc).map (fun d => d.parameters.length) = some 0 by decide +kernel) hI1.1 hr1 hz1 hp1 (hKo.ext hI1.2.1) hl.1 (Nat.le_of_ble_eq_true rfl) (eX4_init (9, .invokespecial 11, 3) (List.mem_of_getElem? (i := 5) rfl)) (fun H2 lo2 ro2 he2 hn2 hr2 hh2 hz2 hq2 hE2 => ?_)
  have hI2 := hI1.call hs1 he2 hn2 hh2 hz2 hq2
  have hO2 := hO1.kept (hq2 b (Nat.lt_of_lt_of_le hI1.2.2.2.2.2.2.2 hI1.2.2.2.1) (Nat.ne_of_lt (Nat.lt_of_lt_of_le hI1.2.2.2.2.2.2.2 hs1)))
  have ft1_2 := he2 _ _ g1
  have fl1_2 := he2 _ _ g2
  refine zo_putF (C := RX4) (T := TX4) (N := 6) (ci := 3) (k := 2) (ty := (.object "MomentTexts$DateText")) hx hb hI2 hO2 h2 wiX4 tyX4 tyX4_ok nmX4 hown hin hKn.1 rfl (by decide) (tb_2 38 rfl rfl) rfl rfl (by decide +kernel) rfl rfl (eX4_init (12, .putfield 12, 3) (List.mem_of_getElem? (i := 6) rfl)) (fun H3 lo3 hI3 hO3 hs3 hq3 => ?_)
  refine lv_aload_n hx hb (eX4_init (15, .aload_n 0, 1) (List.mem_of_getElem? (i := 7) rfl)) rfl (lv_at hl 0 rfl) ?_
  refine zo_new (C := RX8) (T := TX8) (N := 14) (ci := 7) hx hb hI3 h2 wiX8 tyX8 tyX8_ok hown (tb_1 200 rfl rfl) (tb_1 201 rfl rfl) (tb_1 9 rfl rfl) hKn.1 rfl (by decide) (by decide) (eX4_init (16, .new 18, 3) (List.mem_of_getElem? (i := 8) rfl)) (fun b4 H4 hI4 hr4 hs4 hb4 hp4 hq4 => ?_)
  have hO4 := hO3.kept (hq4 b (Nat.lt_of_lt_of_le hI3.2.2.2.2.2.2.2 hI3.2.2.2.1))
  have hz4 : sz ≤ b4 := by rw [hb4]; exact hI3.1.1
  refine lv_dup hx hb (eX4_init (19, .dup, 1) (List.mem_of_getElem? (i := 9) rfl)) rfl ?_
  refine zo_callN (As := []) (rest := [.ref b4, .ref b]) (b := b4) hx hb hml hown hts0 (iX8 l D cA ro2 sz H0 b4) ⟨rfl, rfl⟩ ⟨by decide, by decide⟩ ⟨by decide, by decide⟩ (tb_1 204 rfl rfl) (tb_1 9 rfl rfl) (List.mem_of_getElem? (i := 5) rfl) (tb_1 203 rfl rfl) rfl (show yX8_init.cls ≠ "java/lang/invoke/MethodHandle" ∧ yX8_init.cls ≠ "java/lang/invoke/VarHandle" ∧ (parseMethodDescriptor yX8_init.desc).map (fun d => d.parameters.length) = some 0 by decide +kernel) hI4.1 hr4 hz4 hp4 (hKo.ext hI4.2.1) hl.1 (Nat.le_of_ble_eq_true rfl) (eX4_init (20, .invokespecial 20, 3) (List.mem_of_getElem? (i := 10) rfl)) (fun H5 lo5 ro5 he5 hn5 hr5 hh5 hz5 hq5 hE5 => ?_)
  have hI5 := hI4.call hs4 he5 hn5 hh5 hz5 hq5
  have hO5 := hO4.kept (hq5 b (Nat.lt_of_lt_of_le hI4.2.2.2.2.2.2.2 hI4.2.2.2.1) (Nat.ne_of_lt (Nat.lt_of_lt_of_le hI4.2.2.2.2.2.2.2 hs4)))
  have ft1_5 := he5 _ _ ft1_2
  have fl1_5 := he5 _ _ fl1_2
  have fb1_5 := he5 _ _ hr2
  refine zo_putF (C := RX4) (T := TX4) (N := 6) (ci := 3) (k := 3) (ty := (.object "MomentTexts$TimeText")) hx hb hI5 hO5 h2 wiX4 tyX4 tyX4_ok nmX4 hown hin hKn.1 rfl (by decide) (tb_2 39 rfl rfl) rfl rfl (by decide +kernel) rfl rfl (eX4_init (23, .putfield 21, 3) (List.mem_of_getElem? (i := 11) rfl)) (fun H6 lo6 hI6 hO6 hs6 hq6 => ?_)
  refine lv_aload_n hx hb (eX4_init (26, .aload_n 0, 1) (List.mem_of_getElem? (i := 12) rfl)) rfl (lv_at hl 0 rfl) ?_
  refine zo_new (C := RX3) (T := TX3) (N := 5) (ci := 2) hx hb hI6 h2 wiX3 tyX3 tyX3_ok hown (tb_2 10 rfl rfl) (tb_2 11 rfl rfl) (tb_1 10 rfl rfl) hKn.1 rfl (by decide) (by decide) (eX4_init (27, .new 25, 3) (List.mem_of_getElem? (i := 13) rfl)) (fun b7 H7 hI7 hr7 hs7 hb7 hp7 hq7 => ?_)
  have hO7 := hO6.kept (hq7 b (Nat.lt_of_lt_of_le hI6.2.2.2.2.2.2.2 hI6.2.2.2.1))
  have hz7 : sz ≤ b7 := by rw [hb7]; exact hI6.1.1
  refine lv_dup hx hb (eX4_init (30, .dup, 1) (List.mem_of_getElem? (i := 14) rfl)) rfl ?_
  refine zo_callN (As := []) (rest := [.ref b7, .ref b]) (b := b7) hx hb hml hown hts0 (iX3 l D cA ro5 sz H0 b7) ⟨rfl, rfl⟩ ⟨by decide, by decide⟩ ⟨by decide, by decide⟩ (tb_2 14 rfl rfl) (tb_1 10 rfl rfl) (List.mem_of_getElem? (i := 6) rfl) (tb_2 13 rfl rfl) rfl (show yX3_init.cls ≠ "java/lang/invoke/MethodHandle" ∧ yX3_init.cls ≠ "java/lang/invoke/VarHandle" ∧ (parseMethodDescriptor yX3_init.desc).map (fun d => d.parameters.length) = some 0 by decide +kernel) hI7.1 hr7 hz7 hp7 (hKo.ext hI7.2.1) hl.1 (Nat.le_of_ble_eq_true rfl) (eX4_init (31, .invokespecial 27, 3) (List.mem_of_getElem? (i := 15) rfl)) (fun H8 lo8 ro8 he8 hn8 hr8 hh8 hz8 hq8 hE8 => ?_)
  have hI8 := hI7.call hs7 he8 hn8 hh8 hz8 hq8
  have hO8 := hO7.kept (hq8 b (Nat.lt_of_lt_of_le hI7.2.2.2.2.2.2.2 hI7.2.2.2.1) (Nat.ne_of_lt (Nat.lt_of_lt_of_le hI7.2.2.2.2.2.2.2 hs7)))
  have ft1_8 := he8 _ _ ft1_5
  have fl1_8 := he8 _ _ fl1_5
  have fb1_8 := he8 _ _ fb1_5
  have fb4_8 := he8 _ _ hr5
  refine zo_putF (C := RX4) (T := TX4) (N := 6) (ci := 3) (k := 4) (ty := (.object "MomentTexts$DurationText")) hx hb hI8 hO8 h2 wiX4 tyX4 tyX4_ok nmX4 hown hin hKn.1 rfl (by decide) (tb_2 40 rfl rfl) rfl rfl (by decide +kernel) rfl rfl (eX4_init (34, .putfield 28, 3) (List.mem_of_getElem? (i := 16) rfl)) (fun H9 lo9 hI9 hO9 hs9 hq9 => ?_)
  refine lv_aload_n hx hb (eX4_init (37, .aload_n 0, 1) (List.mem_of_getElem? (i := 17) rfl)) rfl (lv_at hl 0 rfl) ?_
  refine lv_bipush (v := 39) hx hb (eX4_init (38, .bipush 39, 2) (List.mem_of_getElem? (i := 18) rfl)) (by decide) ?_
  refine zo_newa (atype := .long) (N := 39) (ti := 1) (r := 17) (t := (1, (-9223372036854775808), 9223372036854775807)) hx hb hI9 (h2 _ (tb_1 44 rfl rfl)) (zo_cA (ti := 1) (tys := (cA 1, .long)) hKn.1 rfl) rfl (fun _ => ⟨0, rfl, by decide, by decide⟩) (by decide) (by decide) (by decide) (by decide) (eX4_init (40, .newarray .long, 2) (List.mem_of_getElem? (i := 19) rfl)) (fun b10 ro10 H10 hI10 hr10 he10 hq10 hb10 hz10 => ?_)
  have hO10 := hO9.kept (hq10 b (Nat.lt_of_lt_of_le hI9.2.2.2.2.2.2.2 hI9.2.2.2.1))
  have ft1_10 := he10 _ _ ft1_8
  have fl1_10 := he10 _ _ fl1_8
  have fb1_10 := he10 _ _ fb1_8
  have fb4_10 := he10 _ _ fb4_8
  have fb7_10 := he10 _ _ hr8
  refine zo_putF (C := RX4) (T := TX4) (N := 6) (ci := 3) (k := 5) (ty := (.array .long)) hx hb hI10 hO10 h2 wiX4 tyX4 tyX4_ok nmX4 hown hin hKn.1 rfl (by decide) (tb_2 41 rfl rfl) rfl rfl (by decide +kernel) rfl rfl (eX4_init (42, .putfield 32, 3) (List.mem_of_getElem? (i := 20) rfl)) (fun H11 lo11 hI11 hO11 hs11 hq11 => ?_)
  refine lv_aload_n hx hb (eX4_init (45, .aload_n 0, 1) (List.mem_of_getElem? (i := 21) rfl)) rfl (lv_at hl 0 rfl) ?_
  refine lv_aload_n hx hb (eX4_init (46, .aload_n 1, 1) (List.mem_of_getElem? (i := 22) rfl)) rfl (lv_at hl 1 rfl) ?_
  refine zo_putF (C := RX4) (T := TX4) (N := 6) (ci := 3) (k := 0) (ty := (.object "MomentTexts$Cursor")) hx hb hI11 hO11 h2 wiX4 tyX4 tyX4_ok nmX4 hown hin hKn.1 rfl (by decide) (tb_2 36 rfl rfl) rfl rfl (by decide +kernel) rfl rfl (eX4_init (47, .putfield 36, 3) (List.mem_of_getElem? (i := 23) rfl)) (fun H12 lo12 hI12 hO12 hs12 hq12 => ?_)
  refine lv_aload_n hx hb (eX4_init (50, .aload_n 0, 1) (List.mem_of_getElem? (i := 24) rfl)) rfl (lv_at hl 0 rfl) ?_
  refine lv_aload_n hx hb (eX4_init (51, .aload_n 2, 1) (List.mem_of_getElem? (i := 25) rfl)) rfl (lv_at hl 2 rfl) ?_
  refine zo_putF (C := RX4) (T := TX4) (N := 6) (ci := 3) (k := 1) (ty := (.object "MomentTexts$Leaps")) hx hb hI12 hO12 h2 wiX4 tyX4 tyX4_ok nmX4 hown hin hKn.1 rfl (by decide) (tb_2 37 rfl rfl) rfl rfl (by decide +kernel) rfl rfl (eX4_init (52, .putfield 40, 3) (List.mem_of_getElem? (i := 26) rfl)) (fun H13 lo13 hI13 hO13 hs13 hq13 => ?_)
  refine zo_ret (ci := 3) (N := 6) (r := 3) (fs := fsX4) (E := fun _ H => zh_f D H b 3 0 = .ref t1 ∧ zh_f D H b 3 1 = .ref l1) (⟨zo_fO (k := 0) hO13 (by decide), zo_fO (k := 1) hO13 (by decide)⟩) hx hb hr B.notSynchronized hI13 hO13 rfl (fun k t hk => ?_) (eX4_init (55, .return_, 1) (List.mem_of_getElem? (i := 27) rfl))
  match k, hk with
  | 0, hk =>
    cases (show some ((4, 0, 0) : zt_T) = some t from hk)
    exact ⟨by decide, Or.inr ⟨t1, rfl, ft1_10⟩⟩
  | 1, hk =>
    cases (show some ((12, 0, 0) : zt_T) = some t from hk)
    exact ⟨by decide, Or.inr ⟨l1, rfl, fl1_10⟩⟩
  | 2, hk =>
    cases (show some ((6, 0, 0) : zt_T) = some t from hk)
    exact ⟨by decide, Or.inr ⟨b1, rfl, fb1_10⟩⟩
  | 3, hk =>
    cases (show some ((18, 0, 0) : zt_T) = some t from hk)
    exact ⟨by decide, Or.inr ⟨b4, rfl, fb4_10⟩⟩
  | 4, hk =>
    cases (show some ((8, 0, 0) : zt_T) = some t from hk)
    exact ⟨by decide, Or.inr ⟨b7, rfl, fb7_10⟩⟩
  | 5, hk =>
    cases (show some ((38, 0, 0) : zt_T) = some t from hk)
    exact ⟨by decide, Or.inr ⟨b10, rfl, hr10⟩⟩
  | k + 6, hk => cases (show (none : Option zt_T) = some t from hk)
set_option maxRecDepth 100000 in
set_option maxHeartbeats 4000000 in
theorem iX11R (l : Launch) (D : va_G) (cA : Nat → ClassId) (ro : Nat → Option Nat) (sz : Nat) (H0 : Heap) (b : Nat) : Met l yX11_init (gW yX11_init cX11_init 1 none) { frames := 3, cells := 17, slots := 494, locals := 54 } (zo_Pc D cA ro sz H0 10 9 (fun k => defaultValue (tyX11 k)) b []) (zo_Qc D cA ro sz H0 10 b (fun ro9 H => zh_f D H b 10 2 = .int 0 ∧ (∃ q : Nat, zh_f D H b 10 0 = .ref q ∧ ro9 q = some 4 ∧ zh_f D H q 4 1 = .int 0) ∧ (∃ q : Nat, zh_f D H b 10 4 = .ref q ∧ ro9 q = some 0 ∧ zh_f D H q 0 1 = .int 0) ∧ (∃ q : Nat, zh_f D H b 10 5 = .ref q ∧ ro9 q = some 8 ∧ zh_f D H q 8 1 = .int 0) ∧ jRr D ro9 H b)) 17 494 (zy_fr sz) := by
  refine zy_ofW (cc := cX11_init) (maxL := 1) (ret := none) (by decide +kernel) rfl ?_
  intro p e s m args below meth c s1 B hml hv
  obtain ⟨rfl, hh, hro, hsb, hO0, hKo⟩ := hv
  have hKn := hKo.1
  have hx := B.exec
  have hb := B.bytes
  have hr := B.returns
  have hts0 := atoms_spec (ws := gW yX11_init cX11_init 1 none) B.pre
  have h2 : ∀ w ∈ gT, w.before (Value.ref b :: []).toArray s = true := fun w hw => hts0 w (List.mem_cons_of_mem _ hw)
  have hown : s.vm.findClass RX11 = some m.cls := findClass_of_methodNamed B.named
  have hin : meth.name = "<init>" := (name_of_methodNamed B.named B.method).1
  have hl := lv_entry (Value.ref b :: []) (n := 1) (Nat.le_of_ble_eq_true rfl)
  rw [lg_entry_eq]
  generalize (lg_sl (Value.ref b :: []) ++ List.replicate (1 - (lg_sl (Value.ref b :: [])).length) Slot.unset).toArray = ls at hl ⊢
  have hI0 : zo_I D cA ro sz H0 s.heap b ro s.heap [] := ⟨hh, fun _ _ h => h, fun q h => absurd rfl h, Nat.le_refl _, fun _ _ _ => rfl, hro, hsb, (by obtain ⟨cell, q1, -⟩ := hO0; exact (Array.getElem?_eq_some_iff.mp q1).1)⟩
  refine lv_aload_n hx hb (eX11_init (0, .aload_n 0, 1) (List.mem_of_getElem? (i := 0) rfl)) rfl (lv_at hl 0 rfl) ?_
  refine W.objInit hx hb hown (h2 _ (tb_1 28 rfl rfl)) (h2 _ (tb_1 29 rfl rfl)) (h2 _ (tb_1 30 rfl rfl)) rfl (by rw [hml]; exact hl.1) rfl (eX11_init (1, .invokespecial 5, 3) (List.mem_of_getElem? (i := 1) rfl)) (Nat.le_of_ble_eq_true rfl) (Nat.le_of_ble_eq_true rfl) ?_
  refine W.eq (g2 := F0 m 4 ls []) rfl ?_
  refine lv_aload_n hx hb (eX11_init (4, .aload_n 0, 1) (List.mem_of_getElem? (i := 2) rfl)) rfl (lv_at hl 0 rfl) ?_
  refine zo_new (C := RX5) (T := TX5) (N := 2) (ci := 4) hx hb hI0 h2 wiX5 tyX5 tyX5_ok hown (tb_1 31 rfl rfl) (tb_1 32 rfl rfl) (tb_1 2 rfl rfl) hKn.1 rfl (by decide) (by decide) (eX11_init (5, .new 11, 3) (List.mem_of_getElem? (i := 3) rfl)) (fun b1 H1 hI1 hr1 hs1 hb1 hp1 hq1 => ?_)
  have hO1 := hO0.kept (hq1 b (Nat.lt_of_lt_of_le hI0.2.2.2.2.2.2.2 hI0.2.2.2.1))
  have hz1 : sz ≤ b1 := by rw [hb1]; exact hI0.1.1
  refine lv_dup hx hb (eX11_init (8, .dup, 1) (List.mem_of_getElem? (i := 4) rfl)) rfl ?_
  refine zo_callN (As := []) (rest := [.ref b1, .ref b]) (b := b1) hx hb hml hown hts0 (iX5 l D cA ro sz H0 b1) ⟨rfl, rfl⟩ ⟨by decide, by decide⟩ ⟨by decide, by decide⟩ (tb_1 35 rfl rfl) (tb_1 2 rfl rfl) (List.mem_of_getElem? (i := 0) rfl) (tb_1 34 rfl rfl) rfl (show yX5_init.cls ≠ "java/lang/invoke/MethodHandle" ∧ yX5_init.cls ≠ "java/lang/invoke/VarHandle" ∧ (parseMethodDescriptor yX5_init.desc).map (fun d => d.parameters.length) = some 0 by decide +kernel) hI1.1 hr1 hz1 hp1 (hKo.ext hI1.2.1) hl.1 (Nat.le_of_ble_eq_true rfl) (eX11_init (9, .invokespecial 13, 3) (List.mem_of_getElem? (i := 5) rfl)) (fun H2 lo2 ro2 he2 hn2 hr2 hh2 hz2 hq2 hE2 => ?_)
  have hI2 := hI1.call hs1 he2 hn2 hh2 hz2 hq2
  have hO2 := hO1.kept (hq2 b (Nat.lt_of_lt_of_le hI1.2.2.2.2.2.2.2 hI1.2.2.2.1) (Nat.ne_of_lt (Nat.lt_of_lt_of_le hI1.2.2.2.2.2.2.2 hs1)))
  refine zo_putF (C := RX11) (T := TX11) (N := 9) (ci := 10) (k := 0) (ty := (.object "MomentTexts$Leaps")) hx hb hI2 hO2 h2 wiX11 tyX11 tyX11_ok nmX11 hown hin hKn.1 rfl (by decide) (tb_2 60 rfl rfl) rfl rfl (by decide +kernel) rfl rfl (eX11_init (12, .putfield 14, 3) (List.mem_of_getElem? (i := 6) rfl)) (fun H3 lo3 hI3 hO3 hs3 hq3 => ?_)
  have kb1_3 := zh_fq (k := 1) (ci := 4) (hq3 b1 (fun g => by have g9 := hr2; rw [g, hI2.2.2.2.2.2.1] at g9; cases g9)) hE2
  refine lv_aload_n hx hb (eX11_init (15, .aload_n 0, 1) (List.mem_of_getElem? (i := 7) rfl)) rfl (lv_at hl 0 rfl) ?_
  refine lv_bipush (v := 8) hx hb (eX11_init (16, .bipush 8, 2) (List.mem_of_getElem? (i := 8) rfl)) (by decide) ?_
  refine zo_anew (N := 8) (ti := 4) (r := 20) (t := (23, 0, 0)) hx hb hI3 hown (h2 _ (tb_1 45 rfl rfl)) hKo.2.2.use (zo_cA (ti := 4) (tys := (cA 4, .object "MomentTexts$Zone")) hKn.1 rfl).choose_spec.choose_spec.2.2.2 rfl (fun _ => Or.inl ⟨rfl, rfl⟩) (by decide) (by decide) (by decide) (by decide) (eX11_init (18, .anewarray 18, 3) (List.mem_of_getElem? (i := 9) rfl)) (fun b4 ro4 H4 hI4 hr4 he4 hq4 hb4 hz4 => ?_)
  have hO4 := hO3.kept (hq4 b (Nat.lt_of_lt_of_le hI3.2.2.2.2.2.2.2 hI3.2.2.2.1))
  have kb1_4 := zh_fq (k := 1) (ci := 4) (hq4 b1 (zh_lt hI3.1 hr2)) kb1_3
  have ltb1 : b1 < b4 := by rw [hb4]; exact zh_lt hI3.1 hr2
  have fb1_4 := he4 _ _ hr2
  refine zo_putF (C := RX11) (T := TX11) (N := 9) (ci := 10) (k := 1) (ty := (.array (.object "MomentTexts$Zone"))) hx hb hI4 hO4 h2 wiX11 tyX11 tyX11_ok nmX11 hown hin hKn.1 rfl (by decide) (tb_2 61 rfl rfl) rfl rfl (by decide +kernel) rfl rfl (eX11_init (21, .putfield 20, 3) (List.mem_of_getElem? (i := 10) rfl)) (fun H5 lo5 hI5 hO5 hs5 hq5 => ?_)
  have kb1_5 := zh_fq (k := 1) (ci := 4) (hq5 b1 (fun g => by have g9 := fb1_4; rw [g, hI4.2.2.2.2.2.1] at g9; cases g9)) kb1_4
  refine lv_aload_n hx hb (eX11_init (24, .aload_n 0, 1) (List.mem_of_getElem? (i := 11) rfl)) rfl (lv_at hl 0 rfl) ?_
  refine lv_iconst (v := 0) hx hb (eX11_init (25, .iconst 0, 1) (List.mem_of_getElem? (i := 12) rfl)) (by decide) ?_
  refine zo_putN (C := RX11) (T := TX11) (N := 9) (ci := 10) (k := 2) (ty := .int) hx hb hI5 hO5 h2 wiX11 tyX11 tyX11_ok nmX11 hown hKn.1 rfl (by decide) (tb_2 62 rfl rfl) rfl (by decide +kernel) rfl rfl (eX11_init (26, .putfield 24, 3) (List.mem_of_getElem? (i := 13) rfl)) (fun H6 lo6 hI6 hO6 hs6 hq6 => ?_)
  have kb1_6 := zh_fq (k := 1) (ci := 4) (hq6 b1 (fun g => by have g9 := fb1_4; rw [g, hI5.2.2.2.2.2.1] at g9; cases g9)) kb1_5
  refine lv_aload_n hx hb (eX11_init (29, .aload_n 0, 1) (List.mem_of_getElem? (i := 14) rfl)) rfl (lv_at hl 0 rfl) ?_
  refine zo_new (C := RX6) (T := TX6) (N := 11) (ci := 5) hx hb hI6 h2 wiX6 tyX6 tyX6_ok hown (tb_1 47 rfl rfl) (tb_1 48 rfl rfl) (tb_1 3 rfl rfl) hKn.1 rfl (by decide) (by decide) (eX11_init (30, .new 28, 3) (List.mem_of_getElem? (i := 15) rfl)) (fun b7 H7 hI7 hr7 hs7 hb7 hp7 hq7 => ?_)
  have hO7 := hO6.kept (hq7 b (Nat.lt_of_lt_of_le hI6.2.2.2.2.2.2.2 hI6.2.2.2.1))
  have hz7 : sz ≤ b7 := by rw [hb7]; exact hI6.1.1
  have kb1_7 := zh_fq (k := 1) (ci := 4) (hq7 b1 (zh_lt hI6.1 fb1_4)) kb1_6
  refine lv_dup hx hb (eX11_init (33, .dup, 1) (List.mem_of_getElem? (i := 16) rfl)) rfl ?_
  refine zo_callN (As := []) (rest := [.ref b7, .ref b]) (b := b7) hx hb hml hown hts0 (iX6 l D cA ro4 sz H0 b7) ⟨rfl, rfl⟩ ⟨by decide, by decide⟩ ⟨by decide, by decide⟩ (tb_1 51 rfl rfl) (tb_1 3 rfl rfl) (List.mem_of_getElem? (i := 1) rfl) (tb_1 50 rfl rfl) rfl (show yX6_init.cls ≠ "java/lang/invoke/MethodHandle" ∧ yX6_init.cls ≠ "java/lang/invoke/VarHandle" ∧ (parseMethodDescriptor yX6_init.desc).map (fun d => d.parameters.length) = some 0 by decide +kernel) hI7.1 hr7 hz7 hp7 (hKo.ext hI7.2.1) hl.1 (Nat.le_of_ble_eq_true rfl) (eX11_init (34, .invokespecial 30, 3) (List.mem_of_getElem? (i := 17) rfl)) (fun H8 lo8 ro8 he8 hn8 hr8 hh8 hz8 hq8 hE8 => ?_)
  have hI8 := hI7.call hs7 he8 hn8 hh8 hz8 hq8
  have hO8 := hO7.kept (hq8 b (Nat.lt_of_lt_of_le hI7.2.2.2.2.2.2.2 hI7.2.2.2.1) (Nat.ne_of_lt (Nat.lt_of_lt_of_le hI7.2.2.2.2.2.2.2 hs7)))
  have kb1_8 := zh_fq (k := 1) (ci := 4) (hq8 b1 (zh_lt hI7.1 fb1_4) (fun g => by have g9 := fb1_4; rw [g, hr7] at g9; cases g9)) kb1_7
  have fb1_8 := he8 _ _ fb1_4
  have fb4_8 := he8 _ _ hr4
  refine zo_putF (C := RX11) (T := TX11) (N := 9) (ci := 10) (k := 3) (ty := (.object "MomentTexts$Rule")) hx hb hI8 hO8 h2 wiX11 tyX11 tyX11_ok nmX11 hown hin hKn.1 rfl (by decide) (tb_2 63 rfl rfl) rfl rfl (by decide +kernel) rfl rfl (eX11_init (37, .putfield 31, 3) (List.mem_of_getElem? (i := 18) rfl)) (fun H9 lo9 hI9 hO9 hs9 hq9 => ?_)
  have kb1_9 := zh_fq (k := 1) (ci := 4) (hq9 b1 (fun g => by have g9 := fb1_8; rw [g, hI8.2.2.2.2.2.1] at g9; cases g9)) kb1_8
  refine lv_aload_n hx hb (eX11_init (40, .aload_n 0, 1) (List.mem_of_getElem? (i := 19) rfl)) rfl (lv_at hl 0 rfl) ?_
  refine zo_new (C := RX0) (T := TX0) (N := 5) (ci := 0) hx hb hI9 h2 wiX0 tyX0 tyX0_ok hown (tb_1 112 rfl rfl) (tb_1 113 rfl rfl) (tb_1 5 rfl rfl) hKn.1 rfl (by decide) (by decide) (eX11_init (41, .new 35, 3) (List.mem_of_getElem? (i := 20) rfl)) (fun b10 H10 hI10 hr10 hs10 hb10 hp10 hq10 => ?_)
  have hO10 := hO9.kept (hq10 b (Nat.lt_of_lt_of_le hI9.2.2.2.2.2.2.2 hI9.2.2.2.1))
  have hz10 : sz ≤ b10 := by rw [hb10]; exact hI9.1.1
  have kb1_10 := zh_fq (k := 1) (ci := 4) (hq10 b1 (zh_lt hI9.1 fb1_8)) kb1_9
  refine lv_dup hx hb (eX11_init (44, .dup, 1) (List.mem_of_getElem? (i := 21) rfl)) rfl ?_
  refine zo_callN (As := []) (rest := [.ref b10, .ref b]) (b := b10) hx hb hml hown hts0 (iX0 l D cA ro8 sz H0 b10) ⟨rfl, rfl⟩ ⟨by decide, by decide⟩ ⟨by decide, by decide⟩ (tb_1 116 rfl rfl) (tb_1 5 rfl rfl) (List.mem_of_getElem? (i := 2) rfl) (tb_1 115 rfl rfl) rfl (show yX0_init.cls ≠ "java/lang/invoke/MethodHandle" ∧ yX0_init.cls ≠ "java/lang/invoke/VarHandle" ∧ (parseMethodDescriptor yX0_init.desc).map (fun d => d.parameters.length) = some 0 by decide +kernel) hI10.1 hr10 hz10 hp10 (hKo.ext hI10.2.1) hl.1 (Nat.le_of_ble_eq_true rfl) (eX11_init (45, .invokespecial 37, 3) (List.mem_of_getElem? (i := 22) rfl)) (fun H11 lo11 ro11 he11 hn11 hr11 hh11 hz11 hq11 hE11 => ?_)
  have hI11 := hI10.call hs10 he11 hn11 hh11 hz11 hq11
  have hO11 := hO10.kept (hq11 b (Nat.lt_of_lt_of_le hI10.2.2.2.2.2.2.2 hI10.2.2.2.1) (Nat.ne_of_lt (Nat.lt_of_lt_of_le hI10.2.2.2.2.2.2.2 hs10)))
  have kb1_11 := zh_fq (k := 1) (ci := 4) (hq11 b1 (zh_lt hI10.1 fb1_8) (fun g => by have g9 := fb1_8; rw [g, hr10] at g9; cases g9)) kb1_10
  have fb1_11 := he11 _ _ fb1_8
  have fb4_11 := he11 _ _ fb4_8
  have fb7_11 := he11 _ _ hr8
  refine zo_putF (C := RX11) (T := TX11) (N := 9) (ci := 10) (k := 4) (ty := (.object "MomentTexts$Cursor")) hx hb hI11 hO11 h2 wiX11 tyX11 tyX11_ok nmX11 hown hin hKn.1 rfl (by decide) (tb_2 64 rfl rfl) rfl rfl (by decide +kernel) rfl rfl (eX11_init (48, .putfield 38, 3) (List.mem_of_getElem? (i := 23) rfl)) (fun H12 lo12 hI12 hO12 hs12 hq12 => ?_)
  have kb1_12 := zh_fq (k := 1) (ci := 4) (hq12 b1 (fun g => by have g9 := fb1_11; rw [g, hI11.2.2.2.2.2.1] at g9; cases g9)) kb1_11
  have kb10_12 := zh_fq (k := 1) (ci := 0) (hq12 b10 (fun g => by have g9 := hr11; rw [g, hI11.2.2.2.2.2.1] at g9; cases g9)) hE11
  refine lv_aload_n hx hb (eX11_init (51, .aload_n 0, 1) (List.mem_of_getElem? (i := 24) rfl)) rfl (lv_at hl 0 rfl) ?_
  refine zo_new (C := RX9) (T := TX9) (N := 2) (ci := 8) hx hb hI12 h2 wiX9 tyX9 tyX9_ok hown (tb_1 140 rfl rfl) (tb_1 141 rfl rfl) (tb_1 6 rfl rfl) hKn.1 rfl (by decide) (by decide) (eX11_init (52, .new 42, 3) (List.mem_of_getElem? (i := 25) rfl)) (fun b13 H13 hI13 hr13 hs13 hb13 hp13 hq13 => ?_)
  have hO13 := hO12.kept (hq13 b (Nat.lt_of_lt_of_le hI12.2.2.2.2.2.2.2 hI12.2.2.2.1))
  have hz13 : sz ≤ b13 := by rw [hb13]; exact hI12.1.1
  have kb1_13 := zh_fq (k := 1) (ci := 4) (hq13 b1 (zh_lt hI12.1 fb1_11)) kb1_12
  have kb10_13 := zh_fq (k := 1) (ci := 0) (hq13 b10 (zh_lt hI12.1 hr11)) kb10_12
  refine lv_dup hx hb (eX11_init (55, .dup, 1) (List.mem_of_getElem? (i := 26) rfl)) rfl ?_
  refine zo_callN (As := []) (rest := [.ref b13, .ref b]) (b := b13) hx hb hml hown hts0 (iX9 l D cA ro11 sz H0 b13) ⟨rfl, rfl⟩ ⟨by decide, by decide⟩ ⟨by decide, by decide⟩ (tb_1 144 rfl rfl) (tb_1 6 rfl rfl) (List.mem_of_getElem? (i := 3) rfl) (tb_1 143 rfl rfl) rfl (show yX9_init.cls ≠ "java/lang/invoke/MethodHandle" ∧ yX9_init.cls ≠ "java/lang/invoke/VarHandle" ∧ (parseMethodDescriptor yX9_init.desc).map (fun d => d.parameters.length) = some 0 by decide +kernel) hI13.1 hr13 hz13 hp13 (hKo.ext hI13.2.1) hl.1 (Nat.le_of_ble_eq_true rfl) (eX11_init (56, .invokespecial 44, 3) (List.mem_of_getElem? (i := 27) rfl)) (fun H14 lo14 ro14 he14 hn14 hr14 hh14 hz14 hq14 hE14 => ?_)
  have hI14 := hI13.call hs13 he14 hn14 hh14 hz14 hq14
  have hO14 := hO13.kept (hq14 b (Nat.lt_of_lt_of_le hI13.2.2.2.2.2.2.2 hI13.2.2.2.1) (Nat.ne_of_lt (Nat.lt_of_lt_of_le hI13.2.2.2.2.2.2.2 hs13)))
  have kb1_14 := zh_fq (k := 1) (ci := 4) (hq14 b1 (zh_lt hI13.1 fb1_11) (fun g => by have g9 := fb1_11; rw [g, hr13] at g9; cases g9)) kb1_13
  have kb10_14 := zh_fq (k := 1) (ci := 0) (hq14 b10 (zh_lt hI13.1 hr11) (fun g => by have g9 := hr11; rw [g, hr13] at g9; cases g9)) kb10_13
  have fb1_14 := he14 _ _ fb1_11
  have fb4_14 := he14 _ _ fb4_11
  have fb7_14 := he14 _ _ fb7_11
  have fb10_14 := he14 _ _ hr11
  refine zo_putF (C := RX11) (T := TX11) (N := 9) (ci := 10) (k := 5) (ty := (.object "MomentTexts$Writer")) hx hb hI14 hO14 h2 wiX11 tyX11 tyX11_ok nmX11 hown hin hKn.1 rfl (by decide) (tb_2 65 rfl rfl) rfl rfl (by decide +kernel) rfl rfl (eX11_init (59, .putfield 45, 3) (List.mem_of_getElem? (i := 28) rfl)) (fun H15 lo15 hI15 hO15 hs15 hq15 => ?_)
  have kb1_15 := zh_fq (k := 1) (ci := 4) (hq15 b1 (fun g => by have g9 := fb1_14; rw [g, hI14.2.2.2.2.2.1] at g9; cases g9)) kb1_14
  have kb10_15 := zh_fq (k := 1) (ci := 0) (hq15 b10 (fun g => by have g9 := fb10_14; rw [g, hI14.2.2.2.2.2.1] at g9; cases g9)) kb10_14
  have kb13_15 := zh_fq (k := 1) (ci := 8) (hq15 b13 (fun g => by have g9 := hr14; rw [g, hI14.2.2.2.2.2.1] at g9; cases g9)) hE14
  refine lv_aload_n hx hb (eX11_init (62, .aload_n 0, 1) (List.mem_of_getElem? (i := 29) rfl)) rfl (lv_at hl 0 rfl) ?_
  refine zo_new (C := RX4) (T := TX4) (N := 6) (ci := 3) hx hb hI15 h2 wiX4 tyX4 tyX4_ok hown (tb_1 155 rfl rfl) (tb_1 156 rfl rfl) (tb_1 7 rfl rfl) hKn.1 rfl (by decide) (by decide) (eX11_init (63, .new 49, 3) (List.mem_of_getElem? (i := 30) rfl)) (fun b16 H16 hI16 hr16 hs16 hb16 hp16 hq16 => ?_)
  have hO16 := hO15.kept (hq16 b (Nat.lt_of_lt_of_le hI15.2.2.2.2.2.2.2 hI15.2.2.2.1))
  have hz16 : sz ≤ b16 := by rw [hb16]; exact hI15.1.1
  have kb1_16 := zh_fq (k := 1) (ci := 4) (hq16 b1 (zh_lt hI15.1 fb1_14)) kb1_15
  have kb10_16 := zh_fq (k := 1) (ci := 0) (hq16 b10 (zh_lt hI15.1 fb10_14)) kb10_15
  have kb13_16 := zh_fq (k := 1) (ci := 8) (hq16 b13 (zh_lt hI15.1 hr14)) kb13_15
  refine lv_dup hx hb (eX11_init (66, .dup, 1) (List.mem_of_getElem? (i := 31) rfl)) rfl ?_
  refine lv_aload_n hx hb (eX11_init (67, .aload_n 0, 1) (List.mem_of_getElem? (i := 32) rfl)) rfl (lv_at hl 0 rfl) ?_
  refine zo_get (C := RX11) (T := TX11) (N := 9) (ci := 10) (k := 4) hx hb hO16 h2 wiX11 hown hKn.1 rfl (by decide) (tb_2 64 rfl rfl) (eX11_init (68, .getfield 38, 3) (List.mem_of_getElem? (i := 33) rfl)) ?_
  refine W.eq (g2 := F0 m 71 ls [.ref b10, .ref b16, .ref b16, .ref b]) rfl ?_
  refine lv_aload_n hx hb (eX11_init (71, .aload_n 0, 1) (List.mem_of_getElem? (i := 34) rfl)) rfl (lv_at hl 0 rfl) ?_
  refine zo_get (C := RX11) (T := TX11) (N := 9) (ci := 10) (k := 0) hx hb hO16 h2 wiX11 hown hKn.1 rfl (by decide) (tb_2 60 rfl rfl) (eX11_init (72, .getfield 14, 3) (List.mem_of_getElem? (i := 35) rfl)) ?_
  refine W.eq (g2 := F0 m 75 ls [.ref b1, .ref b10, .ref b16, .ref b16, .ref b]) rfl ?_
  refine zo_call (As := [.ref b10, .ref b1]) (rest := [.ref b16, .ref b]) (b := b16) hx hb hml hown hts0 (iX4R l D cA ro14 sz H0 b16 b10 b1 fb10_14 fb1_14) ⟨rfl, rfl⟩ ⟨by decide, by decide⟩ ⟨by decide, by decide⟩ (tb_1 159 rfl rfl) (tb_1 7 rfl rfl) (tb_1 157 rfl rfl) (tb_1 158 rfl rfl) rfl (show yX4_init.cls ≠ "java/lang/invoke/MethodHandle" ∧ yX4_init.cls ≠ "java/lang/invoke/VarHandle" ∧ (parseMethodDescriptor yX4_init.desc).map (fun d => d.parameters.length) = some 2 by decide +kernel) hI16.1 hr16 hz16 hp16 (hKo.ext hI16.2.1) hl.1 (Nat.le_of_ble_eq_true rfl) (eX11_init (75, .invokespecial 51, 3) (List.mem_of_getElem? (i := 36) rfl)) (fun H17 lo17 ro17 he17 hn17 hr17 hh17 hz17 hq17 hE17 => ?_)
  have hI17 := hI16.call hs16 he17 hn17 hh17 hz17 hq17
  have hO17 := hO16.kept (hq17 b (Nat.lt_of_lt_of_le hI16.2.2.2.2.2.2.2 hI16.2.2.2.1) (Nat.ne_of_lt (Nat.lt_of_lt_of_le hI16.2.2.2.2.2.2.2 hs16)))
  have kb1_17 := zh_fq (k := 1) (ci := 4) (hq17 b1 (zh_lt hI16.1 fb1_14) (fun g => by have g9 := fb1_14; rw [g, hr16] at g9; cases g9)) kb1_16
  have kb10_17 := zh_fq (k := 1) (ci := 0) (hq17 b10 (zh_lt hI16.1 fb10_14) (fun g => by have g9 := fb10_14; rw [g, hr16] at g9; cases g9)) kb10_16
  have kb13_17 := zh_fq (k := 1) (ci := 8) (hq17 b13 (zh_lt hI16.1 hr14) (fun g => by have g9 := hr14; rw [g, hr16] at g9; cases g9)) kb13_16
  have fb1_17 := he17 _ _ fb1_14
  have fb4_17 := he17 _ _ fb4_14
  have fb7_17 := he17 _ _ fb7_14
  have fb10_17 := he17 _ _ fb10_14
  have fb13_17 := he17 _ _ hr14
  refine zo_putF (C := RX11) (T := TX11) (N := 9) (ci := 10) (k := 6) (ty := (.object "MomentTexts$FormReader")) hx hb hI17 hO17 h2 wiX11 tyX11 tyX11_ok nmX11 hown hin hKn.1 rfl (by decide) (tb_2 66 rfl rfl) rfl rfl (by decide +kernel) rfl rfl (eX11_init (78, .putfield 54, 3) (List.mem_of_getElem? (i := 37) rfl)) (fun H18 lo18 hI18 hO18 hs18 hq18 => ?_)
  have kb1_18 := zh_fq (k := 1) (ci := 4) (hq18 b1 (fun g => by have g9 := fb1_17; rw [g, hI17.2.2.2.2.2.1] at g9; cases g9)) kb1_17
  have kb10_18 := zh_fq (k := 1) (ci := 0) (hq18 b10 (fun g => by have g9 := fb10_17; rw [g, hI17.2.2.2.2.2.1] at g9; cases g9)) kb10_17
  have kb13_18 := zh_fq (k := 1) (ci := 8) (hq18 b13 (fun g => by have g9 := fb13_17; rw [g, hI17.2.2.2.2.2.1] at g9; cases g9)) kb13_17
  have kb16_18 := zh_fq (k := 0) (ci := 3) (hq18 b16 (fun g => by have g9 := hr17; rw [g, hI17.2.2.2.2.2.1] at g9; cases g9)) hE17.1
  have kb16x1_18 := zh_fq (k := 1) (ci := 3) (hq18 b16 (fun g => by have g9 := hr17; rw [g, hI17.2.2.2.2.2.1] at g9; cases g9)) hE17.2
  refine lv_aload_n hx hb (eX11_init (81, .aload_n 0, 1) (List.mem_of_getElem? (i := 38) rfl)) rfl (lv_at hl 0 rfl) ?_
  refine lv_bipush (v := 39) hx hb (eX11_init (82, .bipush 39, 2) (List.mem_of_getElem? (i := 39) rfl)) (by decide) ?_
  refine zo_newa (atype := .long) (N := 39) (ti := 1) (r := 18) (t := (1, (-9223372036854775808), 9223372036854775807)) hx hb hI18 (h2 _ (tb_1 44 rfl rfl)) (zo_cA (ti := 1) (tys := (cA 1, .long)) hKn.1 rfl) rfl (fun _ => ⟨0, rfl, by decide, by decide⟩) (by decide) (by decide) (by decide) (by decide) (eX11_init (84, .newarray .long, 2) (List.mem_of_getElem? (i := 40) rfl)) (fun b19 ro19 H19 hI19 hr19 he19 hq19 hb19 hz19 => ?_)
  have hO19 := hO18.kept (hq19 b (Nat.lt_of_lt_of_le hI18.2.2.2.2.2.2.2 hI18.2.2.2.1))
  have kb1_19 := zh_fq (k := 1) (ci := 4) (hq19 b1 (zh_lt hI18.1 fb1_17)) kb1_18
  have kb10_19 := zh_fq (k := 1) (ci := 0) (hq19 b10 (zh_lt hI18.1 fb10_17)) kb10_18
  have kb13_19 := zh_fq (k := 1) (ci := 8) (hq19 b13 (zh_lt hI18.1 fb13_17)) kb13_18
  have kb16_19 := zh_fq (k := 0) (ci := 3) (hq19 b16 (zh_lt hI18.1 hr17)) kb16_18
  have kb16x1_19 := zh_fq (k := 1) (ci := 3) (hq19 b16 (zh_lt hI18.1 hr17)) kb16x1_18
  have ltb1 : b1 < b19 := by rw [hb19]; exact zh_lt hI18.1 fb1_17
  have ltb10 : b10 < b19 := by rw [hb19]; exact zh_lt hI18.1 fb10_17
  have ltb13 : b13 < b19 := by rw [hb19]; exact zh_lt hI18.1 fb13_17
  have ltb16 : b16 < b19 := by rw [hb19]; exact zh_lt hI18.1 hr17
  have fb1_19 := he19 _ _ fb1_17
  have fb4_19 := he19 _ _ fb4_17
  have fb7_19 := he19 _ _ fb7_17
  have fb10_19 := he19 _ _ fb10_17
  have fb13_19 := he19 _ _ fb13_17
  have fb16_19 := he19 _ _ hr17
  refine zo_putF (C := RX11) (T := TX11) (N := 9) (ci := 10) (k := 7) (ty := (.array .long)) hx hb hI19 hO19 h2 wiX11 tyX11 tyX11_ok nmX11 hown hin hKn.1 rfl (by decide) (tb_2 67 rfl rfl) rfl rfl (by decide +kernel) rfl rfl (eX11_init (86, .putfield 58, 3) (List.mem_of_getElem? (i := 41) rfl)) (fun H20 lo20 hI20 hO20 hs20 hq20 => ?_)
  have kb1_20 := zh_fq (k := 1) (ci := 4) (hq20 b1 (fun g => by have g9 := fb1_19; rw [g, hI19.2.2.2.2.2.1] at g9; cases g9)) kb1_19
  have kb10_20 := zh_fq (k := 1) (ci := 0) (hq20 b10 (fun g => by have g9 := fb10_19; rw [g, hI19.2.2.2.2.2.1] at g9; cases g9)) kb10_19
  have kb13_20 := zh_fq (k := 1) (ci := 8) (hq20 b13 (fun g => by have g9 := fb13_19; rw [g, hI19.2.2.2.2.2.1] at g9; cases g9)) kb13_19
  have kb16_20 := zh_fq (k := 0) (ci := 3) (hq20 b16 (fun g => by have g9 := fb16_19; rw [g, hI19.2.2.2.2.2.1] at g9; cases g9)) kb16_19
  have kb16x1_20 := zh_fq (k := 1) (ci := 3) (hq20 b16 (fun g => by have g9 := fb16_19; rw [g, hI19.2.2.2.2.2.1] at g9; cases g9)) kb16x1_19
  refine lv_aload_n hx hb (eX11_init (89, .aload_n 0, 1) (List.mem_of_getElem? (i := 42) rfl)) rfl (lv_at hl 0 rfl) ?_
  refine zo_get (C := RX11) (T := TX11) (N := 9) (ci := 10) (k := 7) hx hb hO20 h2 wiX11 hown hKn.1 rfl (by decide) (tb_2 67 rfl rfl) (eX11_init (90, .getfield 58, 3) (List.mem_of_getElem? (i := 43) rfl)) ?_
  refine W.eq (g2 := F0 m 93 ls [.ref b19]) rfl ?_
  refine lv_ldc2 (v := (-9223372036854775808)) hx hb hown (h2 _ (tb_2 56 rfl rfl)) (eX11_init (93, .ldc2_w 62, 3) (List.mem_of_getElem? (i := 44) rfl)) ?_
  refine zo_fill (bf := b19) hx hb hml hown hts0 hI20 hKn hr19 (by rw [hs20, hz19, hb19]) (by rw [hb19]; exact hI18.2.2.2.1) ⟨by decide, by decide⟩ ⟨by decide, by decide⟩ (tb_2 59 rfl rfl) (tb_1 11 rfl rfl) (tb_2 57 rfl rfl) (tb_2 58 rfl rfl) hl.1 (Nat.le_of_ble_eq_true rfl) (eX11_init (96, .invokestatic 64, 3) (List.mem_of_getElem? (i := 45) rfl)) (fun H21 lo21 hI21 hq21 => ?_)
  have hO21 := hO20.kept (hq21 b (by have g1 := hI20.2.2.2.2.2.2.2; have g2 := hI18.2.2.2.1; omega))
  have kb1_21 := zh_fq (k := 1) (ci := 4) (hq21 b1 ltb1) kb1_20
  have kb10_21 := zh_fq (k := 1) (ci := 0) (hq21 b10 ltb10) kb10_20
  have kb13_21 := zh_fq (k := 1) (ci := 8) (hq21 b13 ltb13) kb13_20
  have kb16_21 := zh_fq (k := 0) (ci := 3) (hq21 b16 ltb16) kb16_20
  have kb16x1_21 := zh_fq (k := 1) (ci := 3) (hq21 b16 ltb16) kb16x1_20
  refine lv_aload_n hx hb (eX11_init (99, .aload_n 0, 1) (List.mem_of_getElem? (i := 46) rfl)) rfl (lv_at hl 0 rfl) ?_
  refine lv_bipush (v := 63) hx hb (eX11_init (100, .bipush 63, 2) (List.mem_of_getElem? (i := 47) rfl)) (by decide) ?_
  refine zo_newa (atype := .long) (N := 63) (ti := 1) (r := 19) (t := (1, (-9223372036854775808), 9223372036854775807)) hx hb hI21 (h2 _ (tb_1 44 rfl rfl)) (zo_cA (ti := 1) (tys := (cA 1, .long)) hKn.1 rfl) rfl (fun _ => ⟨0, rfl, by decide, by decide⟩) (by decide) (by decide) (by decide) (by decide) (eX11_init (102, .newarray .long, 2) (List.mem_of_getElem? (i := 48) rfl)) (fun b22 ro22 H22 hI22 hr22 he22 hq22 hb22 hz22 => ?_)
  have hO22 := hO21.kept (hq22 b (Nat.lt_of_lt_of_le hI21.2.2.2.2.2.2.2 hI21.2.2.2.1))
  have kb1_22 := zh_fq (k := 1) (ci := 4) (hq22 b1 (zh_lt hI21.1 fb1_19)) kb1_21
  have kb10_22 := zh_fq (k := 1) (ci := 0) (hq22 b10 (zh_lt hI21.1 fb10_19)) kb10_21
  have kb13_22 := zh_fq (k := 1) (ci := 8) (hq22 b13 (zh_lt hI21.1 fb13_19)) kb13_21
  have kb16_22 := zh_fq (k := 0) (ci := 3) (hq22 b16 (zh_lt hI21.1 fb16_19)) kb16_21
  have kb16x1_22 := zh_fq (k := 1) (ci := 3) (hq22 b16 (zh_lt hI21.1 fb16_19)) kb16x1_21
  have ltb1 : b1 < b22 := by rw [hb22]; exact zh_lt hI21.1 fb1_19
  have ltb10 : b10 < b22 := by rw [hb22]; exact zh_lt hI21.1 fb10_19
  have ltb13 : b13 < b22 := by rw [hb22]; exact zh_lt hI21.1 fb13_19
  have ltb16 : b16 < b22 := by rw [hb22]; exact zh_lt hI21.1 fb16_19
  have fb1_22 := he22 _ _ fb1_19
  have fb4_22 := he22 _ _ fb4_19
  have fb7_22 := he22 _ _ fb7_19
  have fb10_22 := he22 _ _ fb10_19
  have fb13_22 := he22 _ _ fb13_19
  have fb16_22 := he22 _ _ fb16_19
  have fb19_22 := he22 _ _ hr19
  refine zo_putF (C := RX11) (T := TX11) (N := 9) (ci := 10) (k := 8) (ty := (.array .long)) hx hb hI22 hO22 h2 wiX11 tyX11 tyX11_ok nmX11 hown hin hKn.1 rfl (by decide) (tb_2 68 rfl rfl) rfl rfl (by decide +kernel) rfl rfl (eX11_init (104, .putfield 70, 3) (List.mem_of_getElem? (i := 49) rfl)) (fun H23 lo23 hI23 hO23 hs23 hq23 => ?_)
  have kb1_23 := zh_fq (k := 1) (ci := 4) (hq23 b1 (fun g => by have g9 := fb1_22; rw [g, hI22.2.2.2.2.2.1] at g9; cases g9)) kb1_22
  have kb10_23 := zh_fq (k := 1) (ci := 0) (hq23 b10 (fun g => by have g9 := fb10_22; rw [g, hI22.2.2.2.2.2.1] at g9; cases g9)) kb10_22
  have kb13_23 := zh_fq (k := 1) (ci := 8) (hq23 b13 (fun g => by have g9 := fb13_22; rw [g, hI22.2.2.2.2.2.1] at g9; cases g9)) kb13_22
  have kb16_23 := zh_fq (k := 0) (ci := 3) (hq23 b16 (fun g => by have g9 := fb16_22; rw [g, hI22.2.2.2.2.2.1] at g9; cases g9)) kb16_22
  have kb16x1_23 := zh_fq (k := 1) (ci := 3) (hq23 b16 (fun g => by have g9 := fb16_22; rw [g, hI22.2.2.2.2.2.1] at g9; cases g9)) kb16x1_22
  refine zo_ret (ci := 10) (N := 9) (r := 10) (fs := fsX11) (E := fun ro9 H => zh_f D H b 10 2 = .int 0 ∧ (∃ q : Nat, zh_f D H b 10 0 = .ref q ∧ ro9 q = some 4 ∧ zh_f D H q 4 1 = .int 0) ∧ (∃ q : Nat, zh_f D H b 10 4 = .ref q ∧ ro9 q = some 0 ∧ zh_f D H q 0 1 = .int 0) ∧ (∃ q : Nat, zh_f D H b 10 5 = .ref q ∧ ro9 q = some 8 ∧ zh_f D H q 8 1 = .int 0) ∧ jRr D ro9 H b) (⟨zo_fO (k := 2) hO23 (by decide), ⟨b1, zo_fO (k := 0) hO23 (by decide), zo_up_ext (r := 10) hI23.2.2.2.2.2.1 _ _ fb1_22, kb1_23⟩, ⟨b10, zo_fO (k := 4) hO23 (by decide), zo_up_ext (r := 10) hI23.2.2.2.2.2.1 _ _ fb10_22, kb10_23⟩, ⟨b13, zo_fO (k := 5) hO23 (by decide), zo_up_ext (r := 10) hI23.2.2.2.2.2.1 _ _ fb13_22, kb13_23⟩, ⟨b16, b10, b1, zo_fO (k := 6) hO23 (by decide), zo_up_ext (r := 10) hI23.2.2.2.2.2.1 _ _ fb16_22, zo_fO (k := 4) hO23 (by decide), zo_fO (k := 0) hO23 (by decide), kb16_23, kb16x1_23⟩⟩) hx hb hr B.notSynchronized hI23 hO23 rfl (fun k t hk => ?_) (eX11_init (107, .return_, 1) (List.mem_of_getElem? (i := 50) rfl))
  match k, hk with
  | 0, hk =>
    cases (show some ((12, 0, 0) : zt_T) = some t from hk)
    exact ⟨by decide, Or.inr ⟨b1, rfl, fb1_22⟩⟩
  | 1, hk =>
    cases (show some ((44, 0, 0) : zt_T) = some t from hk)
    exact ⟨by decide, Or.inr ⟨b4, rfl, fb4_22⟩⟩
  | 2, hk =>
    cases (show some ((0, 0, 8) : zt_T) = some t from hk)
    exact ⟨by decide, ⟨0, rfl, by decide, by decide⟩⟩
  | 3, hk =>
    cases (show some ((14, 0, 0) : zt_T) = some t from hk)
    exact ⟨by decide, Or.inr ⟨b7, rfl, fb7_22⟩⟩
  | 4, hk =>
    cases (show some ((4, 0, 0) : zt_T) = some t from hk)
    exact ⟨by decide, Or.inr ⟨b10, rfl, fb10_22⟩⟩
  | 5, hk =>
    cases (show some ((20, 0, 0) : zt_T) = some t from hk)
    exact ⟨by decide, Or.inr ⟨b13, rfl, fb13_22⟩⟩
  | 6, hk =>
    cases (show some ((10, 0, 0) : zt_T) = some t from hk)
    exact ⟨by decide, Or.inr ⟨b16, rfl, fb16_22⟩⟩
  | 7, hk =>
    cases (show some ((40, 0, 0) : zt_T) = some t from hk)
    exact ⟨by decide, Or.inr ⟨b19, rfl, fb19_22⟩⟩
  | 8, hk =>
    cases (show some ((42, 0, 0) : zt_T) = some t from hk)
    exact ⟨by decide, Or.inr ⟨b22, rfl, hr22⟩⟩
  | k + 9, hk => cases (show (none : Option zt_T) = some t from hk)
