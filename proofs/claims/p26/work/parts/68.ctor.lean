def tX5_init : List (Nat × Instr × Nat) := [(0, .aload_n 0, 1), (1, .invokespecial 3, 3), (4, .aload_n 0, 1), (5, .bipush 40, 2), (7, .newarray .long, 2), (9, .putfield 11, 3), (12, .aload_n 0, 1), (13, .iconst 0, 1), (14, .putfield 15, 3), (17, .return_, 1)]
set_option maxRecDepth 100000 in
theorem eX5_init : ∀ x ∈ tX5_init, decode cX5_init x.1 = .ok x.2 := by decide +kernel
set_option maxRecDepth 100000 in
set_option maxHeartbeats 4000000 in
theorem iX5 (l : Launch) (D : va_G) (cA : Nat → ClassId) (ro : Nat → Option Nat) (sz : Nat) (H0 : Heap) (b : Nat) : Met l yX5_init (gW yX5_init cX5_init 1 none) { frames := 1, cells := 1, slots := 40, locals := 12 } (zo_Pc D cA ro sz H0 4 2 (fun k => defaultValue (tyX5 k)) b []) (zo_Qc D cA ro sz H0 4 b (fun _ H => zh_f D H b 4 1 = .int 0)) 1 40 (zy_fr sz) := by
  refine zy_ofW (cc := cX5_init) (maxL := 1) (ret := none) (by decide +kernel) rfl ?_
  intro p e s m args below meth c s1 B hml hv
  obtain ⟨rfl, hh, hro, hsb, hO0, hKo⟩ := hv
  have hKn := hKo.1
  have hx := B.exec
  have hb := B.bytes
  have hr := B.returns
  have hts0 := atoms_spec (ws := gW yX5_init cX5_init 1 none) B.pre
  have h2 : ∀ w ∈ gT, w.before (Value.ref b :: []).toArray s = true := fun w hw => hts0 w (List.mem_cons_of_mem _ hw)
  have hown : s.vm.findClass RX5 = some m.cls := findClass_of_methodNamed B.named
  have hin : meth.name = "<init>" := (name_of_methodNamed B.named B.method).1
  have hl := lv_entry (Value.ref b :: []) (n := 1) (Nat.le_of_ble_eq_true rfl)
  rw [lg_entry_eq]
  generalize (lg_sl (Value.ref b :: []) ++ List.replicate (1 - (lg_sl (Value.ref b :: [])).length) Slot.unset).toArray = ls at hl ⊢
  have hI0 : zo_I D cA ro sz H0 s.heap b ro s.heap [] := ⟨hh, fun _ _ h => h, fun q h => absurd rfl h, Nat.le_refl _, fun _ _ _ => rfl, hro, hsb, (by obtain ⟨cell, q1, -⟩ := hO0; exact (Array.getElem?_eq_some_iff.mp q1).1)⟩
  refine lv_aload_n hx hb (eX5_init (0, .aload_n 0, 1) (List.mem_of_getElem? (i := 0) rfl)) rfl (lv_at hl 0 rfl) ?_
  refine W.objInit hx hb hown (h2 _ (tb_1 36 rfl rfl)) (h2 _ (tb_1 29 rfl rfl)) (h2 _ (tb_1 30 rfl rfl)) rfl (by rw [hml]; exact hl.1) rfl (eX5_init (1, .invokespecial 3, 3) (List.mem_of_getElem? (i := 1) rfl)) (Nat.le_of_ble_eq_true rfl) (Nat.le_of_ble_eq_true rfl) ?_
  refine W.eq (g2 := F0 m 4 ls []) rfl ?_
  refine lv_aload_n hx hb (eX5_init (4, .aload_n 0, 1) (List.mem_of_getElem? (i := 2) rfl)) rfl (lv_at hl 0 rfl) ?_
  refine lv_bipush (v := 40) hx hb (eX5_init (5, .bipush 40, 2) (List.mem_of_getElem? (i := 3) rfl)) (by decide) ?_
  refine zo_newa (atype := .long) (N := 40) (ti := 1) (r := 13) (t := (1, (-9223372036854775808), 9223372036854775807)) hx hb hI0 (h2 _ (tb_1 44 rfl rfl)) (zo_cA (ti := 1) (tys := (cA 1, .long)) hKn.1 rfl) rfl (fun _ => ⟨0, rfl, by decide, by decide⟩) (by decide) (by decide) (by decide) (by decide) (eX5_init (7, .newarray .long, 2) (List.mem_of_getElem? (i := 4) rfl)) (fun b1 ro1 H1 hI1 hr1 he1 hq1 hb1 hz1 => ?_)
  have hO1 := hO0.kept (hq1 b (Nat.lt_of_lt_of_le hI0.2.2.2.2.2.2.2 hI0.2.2.2.1))
  refine zo_putF (C := RX5) (T := TX5) (N := 2) (ci := 4) (k := 0) (ty := (.array .long)) hx hb hI1 hO1 h2 wiX5 tyX5 tyX5_ok nmX5 hown hin hKn.1 rfl (by decide) (tb_1 37 rfl rfl) rfl rfl (by decide +kernel) rfl rfl (eX5_init (9, .putfield 11, 3) (List.mem_of_getElem? (i := 5) rfl)) (fun H2 lo2 hI2 hO2 hs2 hq2 => ?_)
  refine lv_aload_n hx hb (eX5_init (12, .aload_n 0, 1) (List.mem_of_getElem? (i := 6) rfl)) rfl (lv_at hl 0 rfl) ?_
  refine lv_iconst (v := 0) hx hb (eX5_init (13, .iconst 0, 1) (List.mem_of_getElem? (i := 7) rfl)) (by decide) ?_
  refine zo_putN (C := RX5) (T := TX5) (N := 2) (ci := 4) (k := 1) (ty := .int) hx hb hI2 hO2 h2 wiX5 tyX5 tyX5_ok nmX5 hown hKn.1 rfl (by decide) (tb_1 38 rfl rfl) rfl (by decide +kernel) rfl rfl (eX5_init (14, .putfield 15, 3) (List.mem_of_getElem? (i := 8) rfl)) (fun H3 lo3 hI3 hO3 hs3 hq3 => ?_)
  refine zo_ret (ci := 4) (N := 2) (r := 4) (fs := fsX5) (E := fun _ H => zh_f D H b 4 1 = .int 0) (zo_fO (k := 1) hO3 (by decide)) hx hb hr B.notSynchronized hI3 hO3 rfl (fun k t hk => ?_) (eX5_init (17, .return_, 1) (List.mem_of_getElem? (i := 9) rfl))
  match k, hk with
  | 0, hk =>
    cases (show some ((30, 0, 0) : zt_T) = some t from hk)
    exact ⟨by decide, Or.inr ⟨b1, rfl, hr1⟩⟩
  | 1, hk =>
    cases (show some ((0, 0, 40) : zt_T) = some t from hk)
    exact ⟨by decide, ⟨0, rfl, by decide, by decide⟩⟩
  | k + 2, hk => cases (show (none : Option zt_T) = some t from hk)
def tX7_init : List (Nat × Instr × Nat) := [(0, .aload_n 0, 1), (1, .invokespecial 3, 3), (4, .aload_n 0, 1), (5, .iconst 0, 1), (6, .putfield 9, 3), (9, .aload_n 0, 1), (10, .iconst 0, 1), (11, .putfield 15, 3), (14, .aload_n 0, 1), (15, .iconst 0, 1), (16, .putfield 18, 3), (19, .aload_n 0, 1), (20, .iconst 0, 1), (21, .putfield 21, 3), (24, .aload_n 0, 1), (25, .iconst 0, 1), (26, .putfield 24, 3), (29, .return_, 1)]
set_option maxRecDepth 100000 in
theorem eX7_init : ∀ x ∈ tX7_init, decode cX7_init x.1 = .ok x.2 := by decide +kernel
set_option maxRecDepth 100000 in
set_option maxHeartbeats 4000000 in
theorem iX7 (l : Launch) (D : va_G) (cA : Nat → ClassId) (ro : Nat → Option Nat) (sz : Nat) (H0 : Heap) (b : Nat) : Met l yX7_init (gW yX7_init cX7_init 1 none) { frames := 1, cells := 0, slots := 0, locals := 12 } (zo_Pc D cA ro sz H0 6 5 (fun k => defaultValue (tyX7 k)) b []) (zo_Qc D cA ro sz H0 6 b (fun _ _ => True)) 0 0 (zy_fr sz) := by
  refine zy_ofW (cc := cX7_init) (maxL := 1) (ret := none) (by decide +kernel) rfl ?_
  intro p e s m args below meth c s1 B hml hv
  obtain ⟨rfl, hh, hro, hsb, hO0, hKo⟩ := hv
  have hKn := hKo.1
  have hx := B.exec
  have hb := B.bytes
  have hr := B.returns
  have hts0 := atoms_spec (ws := gW yX7_init cX7_init 1 none) B.pre
  have h2 : ∀ w ∈ gT, w.before (Value.ref b :: []).toArray s = true := fun w hw => hts0 w (List.mem_cons_of_mem _ hw)
  have hown : s.vm.findClass RX7 = some m.cls := findClass_of_methodNamed B.named
  have hin : meth.name = "<init>" := (name_of_methodNamed B.named B.method).1
  have hl := lv_entry (Value.ref b :: []) (n := 1) (Nat.le_of_ble_eq_true rfl)
  rw [lg_entry_eq]
  generalize (lg_sl (Value.ref b :: []) ++ List.replicate (1 - (lg_sl (Value.ref b :: [])).length) Slot.unset).toArray = ls at hl ⊢
  have hI0 : zo_I D cA ro sz H0 s.heap b ro s.heap [] := ⟨hh, fun _ _ h => h, fun q h => absurd rfl h, Nat.le_refl _, fun _ _ _ => rfl, hro, hsb, (by obtain ⟨cell, q1, -⟩ := hO0; exact (Array.getElem?_eq_some_iff.mp q1).1)⟩
  refine lv_aload_n hx hb (eX7_init (0, .aload_n 0, 1) (List.mem_of_getElem? (i := 0) rfl)) rfl (lv_at hl 0 rfl) ?_
  refine W.objInit hx hb hown (h2 _ (tb_1 58 rfl rfl)) (h2 _ (tb_1 29 rfl rfl)) (h2 _ (tb_1 30 rfl rfl)) rfl (by rw [hml]; exact hl.1) rfl (eX7_init (1, .invokespecial 3, 3) (List.mem_of_getElem? (i := 1) rfl)) (Nat.le_of_ble_eq_true rfl) (Nat.le_of_ble_eq_true rfl) ?_
  refine W.eq (g2 := F0 m 4 ls []) rfl ?_
  refine lv_aload_n hx hb (eX7_init (4, .aload_n 0, 1) (List.mem_of_getElem? (i := 2) rfl)) rfl (lv_at hl 0 rfl) ?_
  refine lv_iconst (v := 0) hx hb (eX7_init (5, .iconst 0, 1) (List.mem_of_getElem? (i := 3) rfl)) (by decide) ?_
  refine zo_putN (C := RX7) (T := TX7) (N := 5) (ci := 6) (k := 0) (ty := .int) hx hb hI0 hO0 h2 wiX7 tyX7 tyX7_ok nmX7 hown hKn.1 rfl (by decide) (tb_1 59 rfl rfl) rfl (by decide +kernel) rfl rfl (eX7_init (6, .putfield 9, 3) (List.mem_of_getElem? (i := 4) rfl)) (fun H1 lo1 hI1 hO1 hs1 hq1 => ?_)
  refine lv_aload_n hx hb (eX7_init (9, .aload_n 0, 1) (List.mem_of_getElem? (i := 5) rfl)) rfl (lv_at hl 0 rfl) ?_
  refine lv_iconst (v := 0) hx hb (eX7_init (10, .iconst 0, 1) (List.mem_of_getElem? (i := 6) rfl)) (by decide) ?_
  refine zo_putN (C := RX7) (T := TX7) (N := 5) (ci := 6) (k := 1) (ty := .int) hx hb hI1 hO1 h2 wiX7 tyX7 tyX7_ok nmX7 hown hKn.1 rfl (by decide) (tb_1 60 rfl rfl) rfl (by decide +kernel) rfl rfl (eX7_init (11, .putfield 15, 3) (List.mem_of_getElem? (i := 7) rfl)) (fun H2 lo2 hI2 hO2 hs2 hq2 => ?_)
  refine lv_aload_n hx hb (eX7_init (14, .aload_n 0, 1) (List.mem_of_getElem? (i := 8) rfl)) rfl (lv_at hl 0 rfl) ?_
  refine lv_iconst (v := 0) hx hb (eX7_init (15, .iconst 0, 1) (List.mem_of_getElem? (i := 9) rfl)) (by decide) ?_
  refine zo_putN (C := RX7) (T := TX7) (N := 5) (ci := 6) (k := 2) (ty := .int) hx hb hI2 hO2 h2 wiX7 tyX7 tyX7_ok nmX7 hown hKn.1 rfl (by decide) (tb_1 61 rfl rfl) rfl (by decide +kernel) rfl rfl (eX7_init (16, .putfield 18, 3) (List.mem_of_getElem? (i := 10) rfl)) (fun H3 lo3 hI3 hO3 hs3 hq3 => ?_)
  refine lv_aload_n hx hb (eX7_init (19, .aload_n 0, 1) (List.mem_of_getElem? (i := 11) rfl)) rfl (lv_at hl 0 rfl) ?_
  refine lv_iconst (v := 0) hx hb (eX7_init (20, .iconst 0, 1) (List.mem_of_getElem? (i := 12) rfl)) (by decide) ?_
  refine zo_putN (C := RX7) (T := TX7) (N := 5) (ci := 6) (k := 3) (ty := .int) hx hb hI3 hO3 h2 wiX7 tyX7 tyX7_ok nmX7 hown hKn.1 rfl (by decide) (tb_1 62 rfl rfl) rfl (by decide +kernel) rfl rfl (eX7_init (21, .putfield 21, 3) (List.mem_of_getElem? (i := 13) rfl)) (fun H4 lo4 hI4 hO4 hs4 hq4 => ?_)
  refine lv_aload_n hx hb (eX7_init (24, .aload_n 0, 1) (List.mem_of_getElem? (i := 14) rfl)) rfl (lv_at hl 0 rfl) ?_
  refine lv_iconst (v := 0) hx hb (eX7_init (25, .iconst 0, 1) (List.mem_of_getElem? (i := 15) rfl)) (by decide) ?_
  refine zo_putN (C := RX7) (T := TX7) (N := 5) (ci := 6) (k := 4) (ty := .int) hx hb hI4 hO4 h2 wiX7 tyX7 tyX7_ok nmX7 hown hKn.1 rfl (by decide) (tb_1 63 rfl rfl) rfl (by decide +kernel) rfl rfl (eX7_init (26, .putfield 24, 3) (List.mem_of_getElem? (i := 16) rfl)) (fun H5 lo5 hI5 hO5 hs5 hq5 => ?_)
  refine zo_ret (ci := 6) (N := 5) (r := 6) (fs := fsX7) (E := fun _ _ => True) (trivial) hx hb hr B.notSynchronized hI5 hO5 rfl (fun k t hk => ?_) (eX7_init (29, .return_, 1) (List.mem_of_getElem? (i := 17) rfl))
  match k, hk with
  | 0, hk =>
    cases (show some ((0, (-2147483648), 2147483647) : zt_T) = some t from hk)
    exact ⟨by decide, ⟨0, rfl, by decide, by decide⟩⟩
  | 1, hk =>
    cases (show some ((0, (-2147483648), 2147483647) : zt_T) = some t from hk)
    exact ⟨by decide, ⟨0, rfl, by decide, by decide⟩⟩
  | 2, hk =>
    cases (show some ((0, (-2147483648), 2147483647) : zt_T) = some t from hk)
    exact ⟨by decide, ⟨0, rfl, by decide, by decide⟩⟩
  | 3, hk =>
    cases (show some ((0, (-2147483648), 2147483647) : zt_T) = some t from hk)
    exact ⟨by decide, ⟨0, rfl, by decide, by decide⟩⟩
  | 4, hk =>
    cases (show some ((0, (-2147483648), 2147483647) : zt_T) = some t from hk)
    exact ⟨by decide, ⟨0, rfl, by decide, by decide⟩⟩
  | k + 5, hk => cases (show (none : Option zt_T) = some t from hk)
def tX6_init : List (Nat × Instr × Nat) := [(0, .aload_n 0, 1), (1, .invokespecial 3, 3), (4, .aload_n 0, 1), (5, .iconst 0, 1), (6, .putfield 9, 3), (9, .aload_n 0, 1), (10, .iconst 0, 1), (11, .putfield 15, 3), (14, .aload_n 0, 1), (15, .iconst 0, 1), (16, .putfield 18, 3), (19, .aload_n 0, 1), (20, .new 21, 3), (23, .dup, 1), (24, .invokespecial 23, 3), (27, .putfield 24, 3), (30, .aload_n 0, 1), (31, .new 21, 3), (34, .dup, 1), (35, .invokespecial 23, 3), (38, .putfield 28, 3), (41, .aload_n 0, 1), (42, .iconst 0, 1), (43, .putfield 31, 3), (46, .aload_n 0, 1), (47, .iconst 0, 1), (48, .putfield 35, 3), (51, .aload_n 0, 1), (52, .lconst 0, 1), (53, .putfield 38, 3), (56, .aload_n 0, 1), (57, .lconst 0, 1), (58, .putfield 42, 3), (61, .aload_n 0, 1), (62, .lconst 0, 1), (63, .putfield 45, 3), (66, .aload_n 0, 1), (67, .lconst 0, 1), (68, .putfield 48, 3), (71, .return_, 1)]
set_option maxRecDepth 100000 in
theorem eX6_init : ∀ x ∈ tX6_init, decode cX6_init x.1 = .ok x.2 := by decide +kernel
set_option maxRecDepth 100000 in
set_option maxHeartbeats 4000000 in
theorem iX6 (l : Launch) (D : va_G) (cA : Nat → ClassId) (ro : Nat → Option Nat) (sz : Nat) (H0 : Heap) (b : Nat) : Met l yX6_init (gW yX6_init cX6_init 1 none) { frames := 2, cells := 2, slots := 10, locals := 32 } (zo_Pc D cA ro sz H0 5 11 (fun k => defaultValue (tyX6 k)) b []) (zo_Qc D cA ro sz H0 5 b (fun _ _ => True)) 2 10 (zy_fr sz) := by
  refine zy_ofW (cc := cX6_init) (maxL := 1) (ret := none) (by decide +kernel) rfl ?_
  intro p e s m args below meth c s1 B hml hv
  obtain ⟨rfl, hh, hro, hsb, hO0, hKo⟩ := hv
  have hKn := hKo.1
  have hx := B.exec
  have hb := B.bytes
  have hr := B.returns
  have hts0 := atoms_spec (ws := gW yX6_init cX6_init 1 none) B.pre
  have h2 : ∀ w ∈ gT, w.before (Value.ref b :: []).toArray s = true := fun w hw => hts0 w (List.mem_cons_of_mem _ hw)
  have hown : s.vm.findClass RX6 = some m.cls := findClass_of_methodNamed B.named
  have hin : meth.name = "<init>" := (name_of_methodNamed B.named B.method).1
  have hl := lv_entry (Value.ref b :: []) (n := 1) (Nat.le_of_ble_eq_true rfl)
  rw [lg_entry_eq]
  generalize (lg_sl (Value.ref b :: []) ++ List.replicate (1 - (lg_sl (Value.ref b :: [])).length) Slot.unset).toArray = ls at hl ⊢
  have hI0 : zo_I D cA ro sz H0 s.heap b ro s.heap [] := ⟨hh, fun _ _ h => h, fun q h => absurd rfl h, Nat.le_refl _, fun _ _ _ => rfl, hro, hsb, (by obtain ⟨cell, q1, -⟩ := hO0; exact (Array.getElem?_eq_some_iff.mp q1).1)⟩
  refine lv_aload_n hx hb (eX6_init (0, .aload_n 0, 1) (List.mem_of_getElem? (i := 0) rfl)) rfl (lv_at hl 0 rfl) ?_
  refine W.objInit hx hb hown (h2 _ (tb_1 52 rfl rfl)) (h2 _ (tb_1 29 rfl rfl)) (h2 _ (tb_1 30 rfl rfl)) rfl (by rw [hml]; exact hl.1) rfl (eX6_init (1, .invokespecial 3, 3) (List.mem_of_getElem? (i := 1) rfl)) (Nat.le_of_ble_eq_true rfl) (Nat.le_of_ble_eq_true rfl) ?_
  refine W.eq (g2 := F0 m 4 ls []) rfl ?_
  refine lv_aload_n hx hb (eX6_init (4, .aload_n 0, 1) (List.mem_of_getElem? (i := 2) rfl)) rfl (lv_at hl 0 rfl) ?_
  refine lv_iconst (v := 0) hx hb (eX6_init (5, .iconst 0, 1) (List.mem_of_getElem? (i := 3) rfl)) (by decide) ?_
  refine zo_putN (C := RX6) (T := TX6) (N := 11) (ci := 5) (k := 0) (ty := .int) hx hb hI0 hO0 h2 wiX6 tyX6 tyX6_ok nmX6 hown hKn.1 rfl (by decide) (tb_1 75 rfl rfl) rfl (by decide +kernel) rfl rfl (eX6_init (6, .putfield 9, 3) (List.mem_of_getElem? (i := 4) rfl)) (fun H1 lo1 hI1 hO1 hs1 hq1 => ?_)
  refine lv_aload_n hx hb (eX6_init (9, .aload_n 0, 1) (List.mem_of_getElem? (i := 5) rfl)) rfl (lv_at hl 0 rfl) ?_
  refine lv_iconst (v := 0) hx hb (eX6_init (10, .iconst 0, 1) (List.mem_of_getElem? (i := 6) rfl)) (by decide) ?_
  refine zo_putN (C := RX6) (T := TX6) (N := 11) (ci := 5) (k := 1) (ty := .int) hx hb hI1 hO1 h2 wiX6 tyX6 tyX6_ok nmX6 hown hKn.1 rfl (by decide) (tb_1 77 rfl rfl) rfl (by decide +kernel) rfl rfl (eX6_init (11, .putfield 15, 3) (List.mem_of_getElem? (i := 7) rfl)) (fun H2 lo2 hI2 hO2 hs2 hq2 => ?_)
  refine lv_aload_n hx hb (eX6_init (14, .aload_n 0, 1) (List.mem_of_getElem? (i := 8) rfl)) rfl (lv_at hl 0 rfl) ?_
  refine lv_iconst (v := 0) hx hb (eX6_init (15, .iconst 0, 1) (List.mem_of_getElem? (i := 9) rfl)) (by decide) ?_
  refine zo_putN (C := RX6) (T := TX6) (N := 11) (ci := 5) (k := 2) (ty := .int) hx hb hI2 hO2 h2 wiX6 tyX6 tyX6_ok nmX6 hown hKn.1 rfl (by decide) (tb_1 79 rfl rfl) rfl (by decide +kernel) rfl rfl (eX6_init (16, .putfield 18, 3) (List.mem_of_getElem? (i := 10) rfl)) (fun H3 lo3 hI3 hO3 hs3 hq3 => ?_)
  refine lv_aload_n hx hb (eX6_init (19, .aload_n 0, 1) (List.mem_of_getElem? (i := 11) rfl)) rfl (lv_at hl 0 rfl) ?_
  refine zo_new (C := RX7) (T := TX7) (N := 5) (ci := 6) hx hb hI3 h2 wiX7 tyX7 tyX7_ok hown (tb_1 53 rfl rfl) (tb_1 54 rfl rfl) (tb_1 4 rfl rfl) hKn.1 rfl (by decide) (by decide) (eX6_init (20, .new 21, 3) (List.mem_of_getElem? (i := 12) rfl)) (fun b4 H4 hI4 hr4 hs4 hb4 hp4 hq4 => ?_)
  have hO4 := hO3.kept (hq4 b (Nat.lt_of_lt_of_le hI3.2.2.2.2.2.2.2 hI3.2.2.2.1))
  have hz4 : sz ≤ b4 := by rw [hb4]; exact hI3.1.1
  refine lv_dup hx hb (eX6_init (23, .dup, 1) (List.mem_of_getElem? (i := 13) rfl)) rfl ?_
  refine zo_callN (As := []) (rest := [.ref b4, .ref b]) (b := b4) hx hb hml hown hts0 (iX7 l D cA ro sz H0 b4) ⟨rfl, rfl⟩ ⟨by decide, by decide⟩ ⟨by decide, by decide⟩ (tb_1 57 rfl rfl) (tb_1 4 rfl rfl) (List.mem_of_getElem? (i := 7) rfl) (tb_1 56 rfl rfl) rfl (show yX7_init.cls ≠ "java/lang/invoke/MethodHandle" ∧ yX7_init.cls ≠ "java/lang/invoke/VarHandle" ∧ (parseMethodDescriptor yX7_init.desc).map (fun d => d.parameters.length) = some 0 by decide +kernel) hI4.1 hr4 hz4 hp4 (hKo.ext hI4.2.1) hl.1 (Nat.le_of_ble_eq_true rfl) (eX6_init (24, .invokespecial 23, 3) (List.mem_of_getElem? (i := 14) rfl)) (fun H5 lo5 ro5 he5 hn5 hr5 hh5 hz5 hq5 hE5 => ?_)
  have hI5 := hI4.call hs4 he5 hn5 hh5 hz5 hq5
  have hO5 := hO4.kept (hq5 b (Nat.lt_of_lt_of_le hI4.2.2.2.2.2.2.2 hI4.2.2.2.1) (Nat.ne_of_lt (Nat.lt_of_lt_of_le hI4.2.2.2.2.2.2.2 hs4)))
  refine zo_putF (C := RX6) (T := TX6) (N := 11) (ci := 5) (k := 3) (ty := (.object "MomentTexts$RuleDate")) hx hb hI5 hO5 h2 wiX6 tyX6 tyX6_ok nmX6 hown hin hKn.1 rfl (by decide) (tb_1 81 rfl rfl) rfl rfl (by decide +kernel) rfl rfl (eX6_init (27, .putfield 24, 3) (List.mem_of_getElem? (i := 15) rfl)) (fun H6 lo6 hI6 hO6 hs6 hq6 => ?_)
  refine lv_aload_n hx hb (eX6_init (30, .aload_n 0, 1) (List.mem_of_getElem? (i := 16) rfl)) rfl (lv_at hl 0 rfl) ?_
  refine zo_new (C := RX7) (T := TX7) (N := 5) (ci := 6) hx hb hI6 h2 wiX7 tyX7 tyX7_ok hown (tb_1 53 rfl rfl) (tb_1 54 rfl rfl) (tb_1 4 rfl rfl) hKn.1 rfl (by decide) (by decide) (eX6_init (31, .new 21, 3) (List.mem_of_getElem? (i := 17) rfl)) (fun b7 H7 hI7 hr7 hs7 hb7 hp7 hq7 => ?_)
  have hO7 := hO6.kept (hq7 b (Nat.lt_of_lt_of_le hI6.2.2.2.2.2.2.2 hI6.2.2.2.1))
  have hz7 : sz ≤ b7 := by rw [hb7]; exact hI6.1.1
  refine lv_dup hx hb (eX6_init (34, .dup, 1) (List.mem_of_getElem? (i := 18) rfl)) rfl ?_
  refine zo_callN (As := []) (rest := [.ref b7, .ref b]) (b := b7) hx hb hml hown hts0 (iX7 l D cA ro5 sz H0 b7) ⟨rfl, rfl⟩ ⟨by decide, by decide⟩ ⟨by decide, by decide⟩ (tb_1 57 rfl rfl) (tb_1 4 rfl rfl) (List.mem_of_getElem? (i := 7) rfl) (tb_1 56 rfl rfl) rfl (show yX7_init.cls ≠ "java/lang/invoke/MethodHandle" ∧ yX7_init.cls ≠ "java/lang/invoke/VarHandle" ∧ (parseMethodDescriptor yX7_init.desc).map (fun d => d.parameters.length) = some 0 by decide +kernel) hI7.1 hr7 hz7 hp7 (hKo.ext hI7.2.1) hl.1 (Nat.le_of_ble_eq_true rfl) (eX6_init (35, .invokespecial 23, 3) (List.mem_of_getElem? (i := 19) rfl)) (fun H8 lo8 ro8 he8 hn8 hr8 hh8 hz8 hq8 hE8 => ?_)
  have hI8 := hI7.call hs7 he8 hn8 hh8 hz8 hq8
  have hO8 := hO7.kept (hq8 b (Nat.lt_of_lt_of_le hI7.2.2.2.2.2.2.2 hI7.2.2.2.1) (Nat.ne_of_lt (Nat.lt_of_lt_of_le hI7.2.2.2.2.2.2.2 hs7)))
  have fb4_8 := he8 _ _ hr5
  refine zo_putF (C := RX6) (T := TX6) (N := 11) (ci := 5) (k := 4) (ty := (.object "MomentTexts$RuleDate")) hx hb hI8 hO8 h2 wiX6 tyX6 tyX6_ok nmX6 hown hin hKn.1 rfl (by decide) (tb_1 82 rfl rfl) rfl rfl (by decide +kernel) rfl rfl (eX6_init (38, .putfield 28, 3) (List.mem_of_getElem? (i := 20) rfl)) (fun H9 lo9 hI9 hO9 hs9 hq9 => ?_)
  refine lv_aload_n hx hb (eX6_init (41, .aload_n 0, 1) (List.mem_of_getElem? (i := 21) rfl)) rfl (lv_at hl 0 rfl) ?_
  refine lv_iconst (v := 0) hx hb (eX6_init (42, .iconst 0, 1) (List.mem_of_getElem? (i := 22) rfl)) (by decide) ?_
  refine zo_putN (C := RX6) (T := TX6) (N := 11) (ci := 5) (k := 5) (ty := .boolean) hx hb hI9 hO9 h2 wiX6 tyX6 tyX6_ok nmX6 hown hKn.1 rfl (by decide) (tb_1 83 rfl rfl) rfl (by decide +kernel) rfl rfl (eX6_init (43, .putfield 31, 3) (List.mem_of_getElem? (i := 23) rfl)) (fun H10 lo10 hI10 hO10 hs10 hq10 => ?_)
  refine lv_aload_n hx hb (eX6_init (46, .aload_n 0, 1) (List.mem_of_getElem? (i := 24) rfl)) rfl (lv_at hl 0 rfl) ?_
  refine lv_iconst (v := 0) hx hb (eX6_init (47, .iconst 0, 1) (List.mem_of_getElem? (i := 25) rfl)) (by decide) ?_
  refine zo_putN (C := RX6) (T := TX6) (N := 11) (ci := 5) (k := 6) (ty := .int) hx hb hI10 hO10 h2 wiX6 tyX6 tyX6_ok nmX6 hown hKn.1 rfl (by decide) (tb_1 84 rfl rfl) rfl (by decide +kernel) rfl rfl (eX6_init (48, .putfield 35, 3) (List.mem_of_getElem? (i := 26) rfl)) (fun H11 lo11 hI11 hO11 hs11 hq11 => ?_)
  refine lv_aload_n hx hb (eX6_init (51, .aload_n 0, 1) (List.mem_of_getElem? (i := 27) rfl)) rfl (lv_at hl 0 rfl) ?_
  refine lv_lconst (v := 0) hx hb (eX6_init (52, .lconst 0, 1) (List.mem_of_getElem? (i := 28) rfl)) (by decide) ?_
  refine zo_putN (C := RX6) (T := TX6) (N := 11) (ci := 5) (k := 7) (ty := .long) hx hb hI11 hO11 h2 wiX6 tyX6 tyX6_ok nmX6 hown hKn.1 rfl (by decide) (tb_1 85 rfl rfl) rfl (by decide +kernel) rfl rfl (eX6_init (53, .putfield 38, 3) (List.mem_of_getElem? (i := 29) rfl)) (fun H12 lo12 hI12 hO12 hs12 hq12 => ?_)
  refine lv_aload_n hx hb (eX6_init (56, .aload_n 0, 1) (List.mem_of_getElem? (i := 30) rfl)) rfl (lv_at hl 0 rfl) ?_
  refine lv_lconst (v := 0) hx hb (eX6_init (57, .lconst 0, 1) (List.mem_of_getElem? (i := 31) rfl)) (by decide) ?_
  refine zo_putN (C := RX6) (T := TX6) (N := 11) (ci := 5) (k := 8) (ty := .long) hx hb hI12 hO12 h2 wiX6 tyX6 tyX6_ok nmX6 hown hKn.1 rfl (by decide) (tb_1 86 rfl rfl) rfl (by decide +kernel) rfl rfl (eX6_init (58, .putfield 42, 3) (List.mem_of_getElem? (i := 32) rfl)) (fun H13 lo13 hI13 hO13 hs13 hq13 => ?_)
  refine lv_aload_n hx hb (eX6_init (61, .aload_n 0, 1) (List.mem_of_getElem? (i := 33) rfl)) rfl (lv_at hl 0 rfl) ?_
  refine lv_lconst (v := 0) hx hb (eX6_init (62, .lconst 0, 1) (List.mem_of_getElem? (i := 34) rfl)) (by decide) ?_
  refine zo_putN (C := RX6) (T := TX6) (N := 11) (ci := 5) (k := 9) (ty := .long) hx hb hI13 hO13 h2 wiX6 tyX6 tyX6_ok nmX6 hown hKn.1 rfl (by decide) (tb_1 87 rfl rfl) rfl (by decide +kernel) rfl rfl (eX6_init (63, .putfield 45, 3) (List.mem_of_getElem? (i := 35) rfl)) (fun H14 lo14 hI14 hO14 hs14 hq14 => ?_)
  refine lv_aload_n hx hb (eX6_init (66, .aload_n 0, 1) (List.mem_of_getElem? (i := 36) rfl)) rfl (lv_at hl 0 rfl) ?_
  refine lv_lconst (v := 0) hx hb (eX6_init (67, .lconst 0, 1) (List.mem_of_getElem? (i := 37) rfl)) (by decide) ?_
  refine zo_putN (C := RX6) (T := TX6) (N := 11) (ci := 5) (k := 10) (ty := .long) hx hb hI14 hO14 h2 wiX6 tyX6 tyX6_ok nmX6 hown hKn.1 rfl (by decide) (tb_1 88 rfl rfl) rfl (by decide +kernel) rfl rfl (eX6_init (68, .putfield 48, 3) (List.mem_of_getElem? (i := 38) rfl)) (fun H15 lo15 hI15 hO15 hs15 hq15 => ?_)
  refine zo_ret (ci := 5) (N := 11) (r := 5) (fs := fsX6) (E := fun _ _ => True) (trivial) hx hb hr B.notSynchronized hI15 hO15 rfl (fun k t hk => ?_) (eX6_init (71, .return_, 1) (List.mem_of_getElem? (i := 39) rfl))
  match k, hk with
  | 0, hk =>
    cases (show some ((0, (-2147483648), 2147483647) : zt_T) = some t from hk)
    exact ⟨by decide, ⟨0, rfl, by decide, by decide⟩⟩
  | 1, hk =>
    cases (show some ((0, (-2147483648), 2147483647) : zt_T) = some t from hk)
    exact ⟨by decide, ⟨0, rfl, by decide, by decide⟩⟩
  | 2, hk =>
    cases (show some ((0, (-2147483648), 2147483647) : zt_T) = some t from hk)
    exact ⟨by decide, ⟨0, rfl, by decide, by decide⟩⟩
  | 3, hk =>
    cases (show some ((16, 0, 0) : zt_T) = some t from hk)
    exact ⟨by decide, Or.inr ⟨b4, rfl, fb4_8⟩⟩
  | 4, hk =>
    cases (show some ((16, 0, 0) : zt_T) = some t from hk)
    exact ⟨by decide, Or.inr ⟨b7, rfl, hr8⟩⟩
  | 5, hk =>
    cases (show some ((0, 0, 1) : zt_T) = some t from hk)
    exact ⟨by decide, ⟨0, rfl, by decide, by decide⟩⟩
  | 6, hk =>
    cases (show some ((0, (-2147483648), 2147483647) : zt_T) = some t from hk)
    exact ⟨by decide, ⟨0, rfl, by decide, by decide⟩⟩
  | 7, hk =>
    cases (show some ((1, (-9223372036854775808), 9223372036854775807) : zt_T) = some t from hk)
    exact ⟨by decide, ⟨0, rfl, by decide, by decide⟩⟩
  | 8, hk =>
    cases (show some ((1, (-9223372036854775808), 9223372036854775807) : zt_T) = some t from hk)
    exact ⟨by decide, ⟨0, rfl, by decide, by decide⟩⟩
  | 9, hk =>
    cases (show some ((1, (-9223372036854775808), 9223372036854775807) : zt_T) = some t from hk)
    exact ⟨by decide, ⟨0, rfl, by decide, by decide⟩⟩
  | 10, hk =>
    cases (show some ((1, (-9223372036854775808), 9223372036854775807) : zt_T) = some t from hk)
    exact ⟨by decide, ⟨0, rfl, by decide, by decide⟩⟩
  | k + 11, hk => cases (show (none : Option zt_T) = some t from hk)
def tX0_init : List (Nat × Instr × Nat) := [(0, .aload_n 0, 1), (1, .invokespecial 3, 3), (4, .aload_n 0, 1), (5, .bipush 120, 2), (7, .newarray .byte, 2), (9, .putfield 9, 3), (12, .aload_n 0, 1), (13, .iconst 0, 1), (14, .putfield 15, 3), (17, .aload_n 0, 1), (18, .iconst 0, 1), (19, .putfield 19, 3), (22, .aload_n 0, 1), (23, .iconst 0, 1), (24, .putfield 22, 3), (27, .aload_n 0, 1), (28, .iconst (-1), 1), (29, .putfield 26, 3), (32, .return_, 1)]
set_option maxRecDepth 100000 in
theorem eX0_init : ∀ x ∈ tX0_init, decode cX0_init x.1 = .ok x.2 := by decide +kernel
set_option maxRecDepth 100000 in
set_option maxHeartbeats 4000000 in
theorem iX0 (l : Launch) (D : va_G) (cA : Nat → ClassId) (ro : Nat → Option Nat) (sz : Nat) (H0 : Heap) (b : Nat) : Met l yX0_init (gW yX0_init cX0_init 1 none) { frames := 1, cells := 1, slots := 120, locals := 12 } (zo_Pc D cA ro sz H0 0 5 (fun k => defaultValue (tyX0 k)) b []) (zo_Qc D cA ro sz H0 0 b (fun _ H => zh_f D H b 0 1 = .int 0)) 1 120 (zy_fr sz) := by
  refine zy_ofW (cc := cX0_init) (maxL := 1) (ret := none) (by decide +kernel) rfl ?_
  intro p e s m args below meth c s1 B hml hv
  obtain ⟨rfl, hh, hro, hsb, hO0, hKo⟩ := hv
  have hKn := hKo.1
  have hx := B.exec
  have hb := B.bytes
  have hr := B.returns
  have hts0 := atoms_spec (ws := gW yX0_init cX0_init 1 none) B.pre
  have h2 : ∀ w ∈ gT, w.before (Value.ref b :: []).toArray s = true := fun w hw => hts0 w (List.mem_cons_of_mem _ hw)
  have hown : s.vm.findClass RX0 = some m.cls := findClass_of_methodNamed B.named
  have hin : meth.name = "<init>" := (name_of_methodNamed B.named B.method).1
  have hl := lv_entry (Value.ref b :: []) (n := 1) (Nat.le_of_ble_eq_true rfl)
  rw [lg_entry_eq]
  generalize (lg_sl (Value.ref b :: []) ++ List.replicate (1 - (lg_sl (Value.ref b :: [])).length) Slot.unset).toArray = ls at hl ⊢
  have hI0 : zo_I D cA ro sz H0 s.heap b ro s.heap [] := ⟨hh, fun _ _ h => h, fun q h => absurd rfl h, Nat.le_refl _, fun _ _ _ => rfl, hro, hsb, (by obtain ⟨cell, q1, -⟩ := hO0; exact (Array.getElem?_eq_some_iff.mp q1).1)⟩
  refine lv_aload_n hx hb (eX0_init (0, .aload_n 0, 1) (List.mem_of_getElem? (i := 0) rfl)) rfl (lv_at hl 0 rfl) ?_
  refine W.objInit hx hb hown (h2 _ (tb_1 117 rfl rfl)) (h2 _ (tb_1 29 rfl rfl)) (h2 _ (tb_1 30 rfl rfl)) rfl (by rw [hml]; exact hl.1) rfl (eX0_init (1, .invokespecial 3, 3) (List.mem_of_getElem? (i := 1) rfl)) (Nat.le_of_ble_eq_true rfl) (Nat.le_of_ble_eq_true rfl) ?_
  refine W.eq (g2 := F0 m 4 ls []) rfl ?_
  refine lv_aload_n hx hb (eX0_init (4, .aload_n 0, 1) (List.mem_of_getElem? (i := 2) rfl)) rfl (lv_at hl 0 rfl) ?_
  refine lv_bipush (v := 120) hx hb (eX0_init (5, .bipush 120, 2) (List.mem_of_getElem? (i := 3) rfl)) (by decide) ?_
  refine zo_newa (atype := .byte) (N := 120) (ti := 2) (r := 12) (t := (0, (-128), 127)) hx hb hI0 (h2 _ (tb_1 139 rfl rfl)) (zo_cA (ti := 2) (tys := (cA 2, .byte)) hKn.1 rfl) rfl (fun _ => ⟨0, rfl, by decide, by decide⟩) (by decide) (by decide) (by decide) (by decide) (eX0_init (7, .newarray .byte, 2) (List.mem_of_getElem? (i := 4) rfl)) (fun b1 ro1 H1 hI1 hr1 he1 hq1 hb1 hz1 => ?_)
  have hO1 := hO0.kept (hq1 b (Nat.lt_of_lt_of_le hI0.2.2.2.2.2.2.2 hI0.2.2.2.1))
  refine zo_putF (C := RX0) (T := TX0) (N := 5) (ci := 0) (k := 0) (ty := (.array .byte)) hx hb hI1 hO1 h2 wiX0 tyX0 tyX0_ok nmX0 hown hin hKn.1 rfl (by decide) (tb_1 118 rfl rfl) rfl rfl (by decide +kernel) rfl rfl (eX0_init (9, .putfield 9, 3) (List.mem_of_getElem? (i := 5) rfl)) (fun H2 lo2 hI2 hO2 hs2 hq2 => ?_)
  refine lv_aload_n hx hb (eX0_init (12, .aload_n 0, 1) (List.mem_of_getElem? (i := 6) rfl)) rfl (lv_at hl 0 rfl) ?_
  refine lv_iconst (v := 0) hx hb (eX0_init (13, .iconst 0, 1) (List.mem_of_getElem? (i := 7) rfl)) (by decide) ?_
  refine zo_putN (C := RX0) (T := TX0) (N := 5) (ci := 0) (k := 1) (ty := .int) hx hb hI2 hO2 h2 wiX0 tyX0 tyX0_ok nmX0 hown hKn.1 rfl (by decide) (tb_1 119 rfl rfl) rfl (by decide +kernel) rfl rfl (eX0_init (14, .putfield 15, 3) (List.mem_of_getElem? (i := 8) rfl)) (fun H3 lo3 hI3 hO3 hs3 hq3 => ?_)
  refine lv_aload_n hx hb (eX0_init (17, .aload_n 0, 1) (List.mem_of_getElem? (i := 9) rfl)) rfl (lv_at hl 0 rfl) ?_
  refine lv_iconst (v := 0) hx hb (eX0_init (18, .iconst 0, 1) (List.mem_of_getElem? (i := 10) rfl)) (by decide) ?_
  refine zo_putN (C := RX0) (T := TX0) (N := 5) (ci := 0) (k := 2) (ty := .int) hx hb hI3 hO3 h2 wiX0 tyX0 tyX0_ok nmX0 hown hKn.1 rfl (by decide) (tb_1 121 rfl rfl) rfl (by decide +kernel) rfl rfl (eX0_init (19, .putfield 19, 3) (List.mem_of_getElem? (i := 11) rfl)) (fun H4 lo4 hI4 hO4 hs4 hq4 => ?_)
  refine lv_aload_n hx hb (eX0_init (22, .aload_n 0, 1) (List.mem_of_getElem? (i := 12) rfl)) rfl (lv_at hl 0 rfl) ?_
  refine lv_iconst (v := 0) hx hb (eX0_init (23, .iconst 0, 1) (List.mem_of_getElem? (i := 13) rfl)) (by decide) ?_
  refine zo_putN (C := RX0) (T := TX0) (N := 5) (ci := 0) (k := 3) (ty := .boolean) hx hb hI4 hO4 h2 wiX0 tyX0 tyX0_ok nmX0 hown hKn.1 rfl (by decide) (tb_1 126 rfl rfl) rfl (by decide +kernel) rfl rfl (eX0_init (24, .putfield 22, 3) (List.mem_of_getElem? (i := 14) rfl)) (fun H5 lo5 hI5 hO5 hs5 hq5 => ?_)
  refine lv_aload_n hx hb (eX0_init (27, .aload_n 0, 1) (List.mem_of_getElem? (i := 15) rfl)) rfl (lv_at hl 0 rfl) ?_
  refine lv_iconst (v := (-1)) hx hb (eX0_init (28, .iconst (-1), 1) (List.mem_of_getElem? (i := 16) rfl)) (by decide) ?_
  refine zo_putN (C := RX0) (T := TX0) (N := 5) (ci := 0) (k := 4) (ty := .int) hx hb hI5 hO5 h2 wiX0 tyX0 tyX0_ok nmX0 hown hKn.1 rfl (by decide) (tb_1 127 rfl rfl) rfl (by decide +kernel) rfl rfl (eX0_init (29, .putfield 26, 3) (List.mem_of_getElem? (i := 17) rfl)) (fun H6 lo6 hI6 hO6 hs6 hq6 => ?_)
  refine zo_ret (ci := 0) (N := 5) (r := 0) (fs := fsX0) (E := fun _ H => zh_f D H b 0 1 = .int 0) (zo_fO (k := 1) hO6 (by decide)) hx hb hr B.notSynchronized hI6 hO6 rfl (fun k t hk => ?_) (eX0_init (32, .return_, 1) (List.mem_of_getElem? (i := 18) rfl))
  match k, hk with
  | 0, hk =>
    cases (show some ((28, 0, 0) : zt_T) = some t from hk)
    exact ⟨by decide, Or.inr ⟨b1, rfl, hr1⟩⟩
  | 1, hk =>
    cases (show some ((0, 0, 120) : zt_T) = some t from hk)
    exact ⟨by decide, ⟨0, rfl, by decide, by decide⟩⟩
  | 2, hk =>
    cases (show some ((0, (-2147483648), 2147483647) : zt_T) = some t from hk)
    exact ⟨by decide, ⟨0, rfl, by decide, by decide⟩⟩
  | 3, hk =>
    cases (show some ((0, 0, 1) : zt_T) = some t from hk)
    exact ⟨by decide, ⟨0, rfl, by decide, by decide⟩⟩
  | 4, hk =>
    cases (show some ((0, (-2147483648), 2147483647) : zt_T) = some t from hk)
    exact ⟨by decide, ⟨(-1), rfl, by decide, by decide⟩⟩
  | k + 5, hk => cases (show (none : Option zt_T) = some t from hk)
def tX9_init : List (Nat × Instr × Nat) := [(0, .aload_n 0, 1), (1, .invokespecial 3, 3), (4, .aload_n 0, 1), (5, .bipush 120, 2), (7, .newarray .byte, 2), (9, .putfield 9, 3), (12, .aload_n 0, 1), (13, .iconst 0, 1), (14, .putfield 15, 3), (17, .return_, 1)]
set_option maxRecDepth 100000 in
theorem eX9_init : ∀ x ∈ tX9_init, decode cX9_init x.1 = .ok x.2 := by decide +kernel
set_option maxRecDepth 100000 in
set_option maxHeartbeats 4000000 in
theorem iX9 (l : Launch) (D : va_G) (cA : Nat → ClassId) (ro : Nat → Option Nat) (sz : Nat) (H0 : Heap) (b : Nat) : Met l yX9_init (gW yX9_init cX9_init 1 none) { frames := 1, cells := 1, slots := 120, locals := 12 } (zo_Pc D cA ro sz H0 8 2 (fun k => defaultValue (tyX9 k)) b []) (zo_Qc D cA ro sz H0 8 b (fun _ H => zh_f D H b 8 1 = .int 0)) 1 120 (zy_fr sz) := by
  refine zy_ofW (cc := cX9_init) (maxL := 1) (ret := none) (by decide +kernel) rfl ?_
  intro p e s m args below meth c s1 B hml hv
  obtain ⟨rfl, hh, hro, hsb, hO0, hKo⟩ := hv
  have hKn := hKo.1
  have hx := B.exec
  have hb := B.bytes
  have hr := B.returns
  have hts0 := atoms_spec (ws := gW yX9_init cX9_init 1 none) B.pre
  have h2 : ∀ w ∈ gT, w.before (Value.ref b :: []).toArray s = true := fun w hw => hts0 w (List.mem_cons_of_mem _ hw)
  have hown : s.vm.findClass RX9 = some m.cls := findClass_of_methodNamed B.named
  have hin : meth.name = "<init>" := (name_of_methodNamed B.named B.method).1
  have hl := lv_entry (Value.ref b :: []) (n := 1) (Nat.le_of_ble_eq_true rfl)
  rw [lg_entry_eq]
  generalize (lg_sl (Value.ref b :: []) ++ List.replicate (1 - (lg_sl (Value.ref b :: [])).length) Slot.unset).toArray = ls at hl ⊢
  have hI0 : zo_I D cA ro sz H0 s.heap b ro s.heap [] := ⟨hh, fun _ _ h => h, fun q h => absurd rfl h, Nat.le_refl _, fun _ _ _ => rfl, hro, hsb, (by obtain ⟨cell, q1, -⟩ := hO0; exact (Array.getElem?_eq_some_iff.mp q1).1)⟩
  refine lv_aload_n hx hb (eX9_init (0, .aload_n 0, 1) (List.mem_of_getElem? (i := 0) rfl)) rfl (lv_at hl 0 rfl) ?_
  refine W.objInit hx hb hown (h2 _ (tb_1 145 rfl rfl)) (h2 _ (tb_1 29 rfl rfl)) (h2 _ (tb_1 30 rfl rfl)) rfl (by rw [hml]; exact hl.1) rfl (eX9_init (1, .invokespecial 3, 3) (List.mem_of_getElem? (i := 1) rfl)) (Nat.le_of_ble_eq_true rfl) (Nat.le_of_ble_eq_true rfl) ?_
  refine W.eq (g2 := F0 m 4 ls []) rfl ?_
  refine lv_aload_n hx hb (eX9_init (4, .aload_n 0, 1) (List.mem_of_getElem? (i := 2) rfl)) rfl (lv_at hl 0 rfl) ?_
  refine lv_bipush (v := 120) hx hb (eX9_init (5, .bipush 120, 2) (List.mem_of_getElem? (i := 3) rfl)) (by decide) ?_
  refine zo_newa (atype := .byte) (N := 120) (ti := 2) (r := 16) (t := (0, (-128), 127)) hx hb hI0 (h2 _ (tb_1 139 rfl rfl)) (zo_cA (ti := 2) (tys := (cA 2, .byte)) hKn.1 rfl) rfl (fun _ => ⟨0, rfl, by decide, by decide⟩) (by decide) (by decide) (by decide) (by decide) (eX9_init (7, .newarray .byte, 2) (List.mem_of_getElem? (i := 4) rfl)) (fun b1 ro1 H1 hI1 hr1 he1 hq1 hb1 hz1 => ?_)
  have hO1 := hO0.kept (hq1 b (Nat.lt_of_lt_of_le hI0.2.2.2.2.2.2.2 hI0.2.2.2.1))
  refine zo_putF (C := RX9) (T := TX9) (N := 2) (ci := 8) (k := 0) (ty := (.array .byte)) hx hb hI1 hO1 h2 wiX9 tyX9 tyX9_ok nmX9 hown hin hKn.1 rfl (by decide) (tb_1 146 rfl rfl) rfl rfl (by decide +kernel) rfl rfl (eX9_init (9, .putfield 9, 3) (List.mem_of_getElem? (i := 5) rfl)) (fun H2 lo2 hI2 hO2 hs2 hq2 => ?_)
  refine lv_aload_n hx hb (eX9_init (12, .aload_n 0, 1) (List.mem_of_getElem? (i := 6) rfl)) rfl (lv_at hl 0 rfl) ?_
  refine lv_iconst (v := 0) hx hb (eX9_init (13, .iconst 0, 1) (List.mem_of_getElem? (i := 7) rfl)) (by decide) ?_
  refine zo_putN (C := RX9) (T := TX9) (N := 2) (ci := 8) (k := 1) (ty := .int) hx hb hI2 hO2 h2 wiX9 tyX9 tyX9_ok nmX9 hown hKn.1 rfl (by decide) (tb_1 148 rfl rfl) rfl (by decide +kernel) rfl rfl (eX9_init (14, .putfield 15, 3) (List.mem_of_getElem? (i := 8) rfl)) (fun H3 lo3 hI3 hO3 hs3 hq3 => ?_)
  refine zo_ret (ci := 8) (N := 2) (r := 8) (fs := fsX9) (E := fun _ H => zh_f D H b 8 1 = .int 0) (zo_fO (k := 1) hO3 (by decide)) hx hb hr B.notSynchronized hI3 hO3 rfl (fun k t hk => ?_) (eX9_init (17, .return_, 1) (List.mem_of_getElem? (i := 9) rfl))
  match k, hk with
  | 0, hk =>
    cases (show some ((36, 0, 0) : zt_T) = some t from hk)
    exact ⟨by decide, Or.inr ⟨b1, rfl, hr1⟩⟩
  | 1, hk =>
    cases (show some ((0, 0, 120) : zt_T) = some t from hk)
    exact ⟨by decide, ⟨0, rfl, by decide, by decide⟩⟩
  | k + 2, hk => cases (show (none : Option zt_T) = some t from hk)
def tX1_init : List (Nat × Instr × Nat) := [(0, .aload_n 0, 1), (1, .invokespecial 3, 3), (4, .aload_n 0, 1), (5, .iconst 0, 1), (6, .putfield 9, 3), (9, .aload_n 0, 1), (10, .iconst 0, 1), (11, .putfield 15, 3), (14, .aload_n 0, 1), (15, .iconst 0, 1), (16, .putfield 19, 3), (19, .aload_n 0, 1), (20, .iconst 0, 1), (21, .putfield 22, 3), (24, .aload_n 0, 1), (25, .iconst 0, 1), (26, .putfield 25, 3), (29, .aload_n 0, 1), (30, .iconst 0, 1), (31, .putfield 28, 3), (34, .aload_n 0, 1), (35, .iconst 0, 1), (36, .putfield 31, 3), (39, .aload_n 0, 1), (40, .iconst 1, 1), (41, .putfield 34, 3), (44, .aload_n 0, 1), (45, .iconst 0, 1), (46, .putfield 37, 3), (49, .aload_n 0, 1), (50, .iconst 1, 1), (51, .putfield 40, 3), (54, .return_, 1)]
set_option maxRecDepth 100000 in
theorem eX1_init : ∀ x ∈ tX1_init, decode cX1_init x.1 = .ok x.2 := by decide +kernel
set_option maxRecDepth 100000 in
set_option maxHeartbeats 4000000 in
theorem iX1 (l : Launch) (D : va_G) (cA : Nat → ClassId) (ro : Nat → Option Nat) (sz : Nat) (H0 : Heap) (b : Nat) : Met l yX1_init (gW yX1_init cX1_init 1 none) { frames := 1, cells := 0, slots := 0, locals := 12 } (zo_Pc D cA ro sz H0 1 10 (fun k => defaultValue (tyX1 k)) b []) (zo_Qc D cA ro sz H0 1 b (fun _ _ => True)) 0 0 (zy_fr sz) := by
  refine zy_ofW (cc := cX1_init) (maxL := 1) (ret := none) (by decide +kernel) rfl ?_
  intro p e s m args below meth c s1 B hml hv
  obtain ⟨rfl, hh, hro, hsb, hO0, hKo⟩ := hv
  have hKn := hKo.1
  have hx := B.exec
  have hb := B.bytes
  have hr := B.returns
  have hts0 := atoms_spec (ws := gW yX1_init cX1_init 1 none) B.pre
  have h2 : ∀ w ∈ gT, w.before (Value.ref b :: []).toArray s = true := fun w hw => hts0 w (List.mem_cons_of_mem _ hw)
  have hown : s.vm.findClass RX1 = some m.cls := findClass_of_methodNamed B.named
  have hin : meth.name = "<init>" := (name_of_methodNamed B.named B.method).1
  have hl := lv_entry (Value.ref b :: []) (n := 1) (Nat.le_of_ble_eq_true rfl)
  rw [lg_entry_eq]
  generalize (lg_sl (Value.ref b :: []) ++ List.replicate (1 - (lg_sl (Value.ref b :: [])).length) Slot.unset).toArray = ls at hl ⊢
  have hI0 : zo_I D cA ro sz H0 s.heap b ro s.heap [] := ⟨hh, fun _ _ h => h, fun q h => absurd rfl h, Nat.le_refl _, fun _ _ _ => rfl, hro, hsb, (by obtain ⟨cell, q1, -⟩ := hO0; exact (Array.getElem?_eq_some_iff.mp q1).1)⟩
  refine lv_aload_n hx hb (eX1_init (0, .aload_n 0, 1) (List.mem_of_getElem? (i := 0) rfl)) rfl (lv_at hl 0 rfl) ?_
  refine W.objInit hx hb hown (h2 _ (tb_1 166 rfl rfl)) (h2 _ (tb_1 29 rfl rfl)) (h2 _ (tb_1 30 rfl rfl)) rfl (by rw [hml]; exact hl.1) rfl (eX1_init (1, .invokespecial 3, 3) (List.mem_of_getElem? (i := 1) rfl)) (Nat.le_of_ble_eq_true rfl) (Nat.le_of_ble_eq_true rfl) ?_
  refine W.eq (g2 := F0 m 4 ls []) rfl ?_
  refine lv_aload_n hx hb (eX1_init (4, .aload_n 0, 1) (List.mem_of_getElem? (i := 2) rfl)) rfl (lv_at hl 0 rfl) ?_
  refine lv_iconst (v := 0) hx hb (eX1_init (5, .iconst 0, 1) (List.mem_of_getElem? (i := 3) rfl)) (by decide) ?_
  refine zo_putN (C := RX1) (T := TX1) (N := 10) (ci := 1) (k := 0) (ty := .int) hx hb hI0 hO0 h2 wiX1 tyX1 tyX1_ok nmX1 hown hKn.1 rfl (by decide) (tb_1 167 rfl rfl) rfl (by decide +kernel) rfl rfl (eX1_init (6, .putfield 9, 3) (List.mem_of_getElem? (i := 4) rfl)) (fun H1 lo1 hI1 hO1 hs1 hq1 => ?_)
  refine lv_aload_n hx hb (eX1_init (9, .aload_n 0, 1) (List.mem_of_getElem? (i := 5) rfl)) rfl (lv_at hl 0 rfl) ?_
  refine lv_iconst (v := 0) hx hb (eX1_init (10, .iconst 0, 1) (List.mem_of_getElem? (i := 6) rfl)) (by decide) ?_
  refine zo_putN (C := RX1) (T := TX1) (N := 10) (ci := 1) (k := 1) (ty := .boolean) hx hb hI1 hO1 h2 wiX1 tyX1 tyX1_ok nmX1 hown hKn.1 rfl (by decide) (tb_1 169 rfl rfl) rfl (by decide +kernel) rfl rfl (eX1_init (11, .putfield 15, 3) (List.mem_of_getElem? (i := 7) rfl)) (fun H2 lo2 hI2 hO2 hs2 hq2 => ?_)
  refine lv_aload_n hx hb (eX1_init (14, .aload_n 0, 1) (List.mem_of_getElem? (i := 8) rfl)) rfl (lv_at hl 0 rfl) ?_
  refine lv_iconst (v := 0) hx hb (eX1_init (15, .iconst 0, 1) (List.mem_of_getElem? (i := 9) rfl)) (by decide) ?_
  refine zo_putN (C := RX1) (T := TX1) (N := 10) (ci := 1) (k := 2) (ty := .int) hx hb hI2 hO2 h2 wiX1 tyX1 tyX1_ok nmX1 hown hKn.1 rfl (by decide) (tb_1 171 rfl rfl) rfl (by decide +kernel) rfl rfl (eX1_init (16, .putfield 19, 3) (List.mem_of_getElem? (i := 10) rfl)) (fun H3 lo3 hI3 hO3 hs3 hq3 => ?_)
  refine lv_aload_n hx hb (eX1_init (19, .aload_n 0, 1) (List.mem_of_getElem? (i := 11) rfl)) rfl (lv_at hl 0 rfl) ?_
  refine lv_iconst (v := 0) hx hb (eX1_init (20, .iconst 0, 1) (List.mem_of_getElem? (i := 12) rfl)) (by decide) ?_
  refine zo_putN (C := RX1) (T := TX1) (N := 10) (ci := 1) (k := 3) (ty := .boolean) hx hb hI3 hO3 h2 wiX1 tyX1 tyX1_ok nmX1 hown hKn.1 rfl (by decide) (tb_1 172 rfl rfl) rfl (by decide +kernel) rfl rfl (eX1_init (21, .putfield 22, 3) (List.mem_of_getElem? (i := 13) rfl)) (fun H4 lo4 hI4 hO4 hs4 hq4 => ?_)
  refine lv_aload_n hx hb (eX1_init (24, .aload_n 0, 1) (List.mem_of_getElem? (i := 14) rfl)) rfl (lv_at hl 0 rfl) ?_
  refine lv_iconst (v := 0) hx hb (eX1_init (25, .iconst 0, 1) (List.mem_of_getElem? (i := 15) rfl)) (by decide) ?_
  refine zo_putN (C := RX1) (T := TX1) (N := 10) (ci := 1) (k := 4) (ty := .boolean) hx hb hI4 hO4 h2 wiX1 tyX1 tyX1_ok nmX1 hown hKn.1 rfl (by decide) (tb_1 173 rfl rfl) rfl (by decide +kernel) rfl rfl (eX1_init (26, .putfield 25, 3) (List.mem_of_getElem? (i := 16) rfl)) (fun H5 lo5 hI5 hO5 hs5 hq5 => ?_)
  refine lv_aload_n hx hb (eX1_init (29, .aload_n 0, 1) (List.mem_of_getElem? (i := 17) rfl)) rfl (lv_at hl 0 rfl) ?_
  refine lv_iconst (v := 0) hx hb (eX1_init (30, .iconst 0, 1) (List.mem_of_getElem? (i := 18) rfl)) (by decide) ?_
  refine zo_putN (C := RX1) (T := TX1) (N := 10) (ci := 1) (k := 5) (ty := .int) hx hb hI5 hO5 h2 wiX1 tyX1 tyX1_ok nmX1 hown hKn.1 rfl (by decide) (tb_1 174 rfl rfl) rfl (by decide +kernel) rfl rfl (eX1_init (31, .putfield 28, 3) (List.mem_of_getElem? (i := 19) rfl)) (fun H6 lo6 hI6 hO6 hs6 hq6 => ?_)
  refine lv_aload_n hx hb (eX1_init (34, .aload_n 0, 1) (List.mem_of_getElem? (i := 20) rfl)) rfl (lv_at hl 0 rfl) ?_
  refine lv_iconst (v := 0) hx hb (eX1_init (35, .iconst 0, 1) (List.mem_of_getElem? (i := 21) rfl)) (by decide) ?_
  refine zo_putN (C := RX1) (T := TX1) (N := 10) (ci := 1) (k := 6) (ty := .int) hx hb hI6 hO6 h2 wiX1 tyX1 tyX1_ok nmX1 hown hKn.1 rfl (by decide) (tb_1 175 rfl rfl) rfl (by decide +kernel) rfl rfl (eX1_init (36, .putfield 31, 3) (List.mem_of_getElem? (i := 22) rfl)) (fun H7 lo7 hI7 hO7 hs7 hq7 => ?_)
  refine lv_aload_n hx hb (eX1_init (39, .aload_n 0, 1) (List.mem_of_getElem? (i := 23) rfl)) rfl (lv_at hl 0 rfl) ?_
  refine lv_iconst (v := 1) hx hb (eX1_init (40, .iconst 1, 1) (List.mem_of_getElem? (i := 24) rfl)) (by decide) ?_
  refine zo_putN (C := RX1) (T := TX1) (N := 10) (ci := 1) (k := 7) (ty := .int) hx hb hI7 hO7 h2 wiX1 tyX1 tyX1_ok nmX1 hown hKn.1 rfl (by decide) (tb_1 176 rfl rfl) rfl (by decide +kernel) rfl rfl (eX1_init (41, .putfield 34, 3) (List.mem_of_getElem? (i := 25) rfl)) (fun H8 lo8 hI8 hO8 hs8 hq8 => ?_)
  refine lv_aload_n hx hb (eX1_init (44, .aload_n 0, 1) (List.mem_of_getElem? (i := 26) rfl)) rfl (lv_at hl 0 rfl) ?_
  refine lv_iconst (v := 0) hx hb (eX1_init (45, .iconst 0, 1) (List.mem_of_getElem? (i := 27) rfl)) (by decide) ?_
  refine zo_putN (C := RX1) (T := TX1) (N := 10) (ci := 1) (k := 8) (ty := .int) hx hb hI8 hO8 h2 wiX1 tyX1 tyX1_ok nmX1 hown hKn.1 rfl (by decide) (tb_1 177 rfl rfl) rfl (by decide +kernel) rfl rfl (eX1_init (46, .putfield 37, 3) (List.mem_of_getElem? (i := 28) rfl)) (fun H9 lo9 hI9 hO9 hs9 hq9 => ?_)
  refine lv_aload_n hx hb (eX1_init (49, .aload_n 0, 1) (List.mem_of_getElem? (i := 29) rfl)) rfl (lv_at hl 0 rfl) ?_
  refine lv_iconst (v := 1) hx hb (eX1_init (50, .iconst 1, 1) (List.mem_of_getElem? (i := 30) rfl)) (by decide) ?_
  refine zo_putN (C := RX1) (T := TX1) (N := 10) (ci := 1) (k := 9) (ty := .int) hx hb hI9 hO9 h2 wiX1 tyX1 tyX1_ok nmX1 hown hKn.1 rfl (by decide) (tb_1 178 rfl rfl) rfl (by decide +kernel) rfl rfl (eX1_init (51, .putfield 40, 3) (List.mem_of_getElem? (i := 31) rfl)) (fun H10 lo10 hI10 hO10 hs10 hq10 => ?_)
  refine zo_ret (ci := 1) (N := 10) (r := 1) (fs := fsX1) (E := fun _ _ => True) (trivial) hx hb hr B.notSynchronized hI10 hO10 rfl (fun k t hk => ?_) (eX1_init (54, .return_, 1) (List.mem_of_getElem? (i := 32) rfl))
  match k, hk with
  | 0, hk =>
    cases (show some ((0, (-2147483648), 2147483647) : zt_T) = some t from hk)
    exact ⟨by decide, ⟨0, rfl, by decide, by decide⟩⟩
  | 1, hk =>
    cases (show some ((0, 0, 1) : zt_T) = some t from hk)
    exact ⟨by decide, ⟨0, rfl, by decide, by decide⟩⟩
  | 2, hk =>
    cases (show some ((0, (-2147483648), 2147483647) : zt_T) = some t from hk)
    exact ⟨by decide, ⟨0, rfl, by decide, by decide⟩⟩
  | 3, hk =>
    cases (show some ((0, 0, 1) : zt_T) = some t from hk)
    exact ⟨by decide, ⟨0, rfl, by decide, by decide⟩⟩
  | 4, hk =>
    cases (show some ((0, 0, 1) : zt_T) = some t from hk)
    exact ⟨by decide, ⟨0, rfl, by decide, by decide⟩⟩
  | 5, hk =>
    cases (show some ((0, (-2147483648), 2147483647) : zt_T) = some t from hk)
    exact ⟨by decide, ⟨0, rfl, by decide, by decide⟩⟩
  | 6, hk =>
    cases (show some ((0, (-2147483648), 2147483647) : zt_T) = some t from hk)
    exact ⟨by decide, ⟨0, rfl, by decide, by decide⟩⟩
  | 7, hk =>
    cases (show some ((0, (-2147483648), 2147483647) : zt_T) = some t from hk)
    exact ⟨by decide, ⟨1, rfl, by decide, by decide⟩⟩
  | 8, hk =>
    cases (show some ((0, (-2147483648), 2147483647) : zt_T) = some t from hk)
    exact ⟨by decide, ⟨0, rfl, by decide, by decide⟩⟩
  | 9, hk =>
    cases (show some ((0, (-2147483648), 2147483647) : zt_T) = some t from hk)
    exact ⟨by decide, ⟨1, rfl, by decide, by decide⟩⟩
  | k + 10, hk => cases (show (none : Option zt_T) = some t from hk)
def tX8_init : List (Nat × Instr × Nat) := [(0, .aload_n 0, 1), (1, .invokespecial 3, 3), (4, .aload_n 0, 1), (5, .iconst 0, 1), (6, .putfield 9, 3), (9, .aload_n 0, 1), (10, .iconst 0, 1), (11, .putfield 15, 3), (14, .aload_n 0, 1), (15, .iconst 0, 1), (16, .putfield 18, 3), (19, .aload_n 0, 1), (20, .iconst 0, 1), (21, .putfield 21, 3), (24, .aload_n 0, 1), (25, .iconst 0, 1), (26, .putfield 24, 3), (29, .aload_n 0, 1), (30, .iconst 0, 1), (31, .putfield 27, 3), (34, .aload_n 0, 1), (35, .iconst 0, 1), (36, .putfield 30, 3), (39, .aload_n 0, 1), (40, .iconst 1, 1), (41, .putfield 33, 3), (44, .aload_n 0, 1), (45, .iconst (-1), 1), (46, .putfield 36, 3), (49, .aload_n 0, 1), (50, .iconst 0, 1), (51, .putfield 39, 3), (54, .aload_n 0, 1), (55, .iconst 0, 1), (56, .putfield 43, 3), (59, .aload_n 0, 1), (60, .iconst 0, 1), (61, .putfield 46, 3), (64, .aload_n 0, 1), (65, .iconst 0, 1), (66, .putfield 49, 3), (69, .aload_n 0, 1), (70, .iconst 0, 1), (71, .putfield 52, 3), (74, .return_, 1)]
set_option maxRecDepth 100000 in
theorem eX8_init : ∀ x ∈ tX8_init, decode cX8_init x.1 = .ok x.2 := by decide +kernel
set_option maxRecDepth 100000 in
set_option maxHeartbeats 4000000 in
theorem iX8 (l : Launch) (D : va_G) (cA : Nat → ClassId) (ro : Nat → Option Nat) (sz : Nat) (H0 : Heap) (b : Nat) : Met l yX8_init (gW yX8_init cX8_init 1 none) { frames := 1, cells := 0, slots := 0, locals := 12 } (zo_Pc D cA ro sz H0 7 14 (fun k => defaultValue (tyX8 k)) b []) (zo_Qc D cA ro sz H0 7 b (fun _ _ => True)) 0 0 (zy_fr sz) := by
  refine zy_ofW (cc := cX8_init) (maxL := 1) (ret := none) (by decide +kernel) rfl ?_
  intro p e s m args below meth c s1 B hml hv
  obtain ⟨rfl, hh, hro, hsb, hO0, hKo⟩ := hv
  have hKn := hKo.1
  have hx := B.exec
  have hb := B.bytes
  have hr := B.returns
  have hts0 := atoms_spec (ws := gW yX8_init cX8_init 1 none) B.pre
  have h2 : ∀ w ∈ gT, w.before (Value.ref b :: []).toArray s = true := fun w hw => hts0 w (List.mem_cons_of_mem _ hw)
  have hown : s.vm.findClass RX8 = some m.cls := findClass_of_methodNamed B.named
  have hin : meth.name = "<init>" := (name_of_methodNamed B.named B.method).1
  have hl := lv_entry (Value.ref b :: []) (n := 1) (Nat.le_of_ble_eq_true rfl)
  rw [lg_entry_eq]
  generalize (lg_sl (Value.ref b :: []) ++ List.replicate (1 - (lg_sl (Value.ref b :: [])).length) Slot.unset).toArray = ls at hl ⊢
  have hI0 : zo_I D cA ro sz H0 s.heap b ro s.heap [] := ⟨hh, fun _ _ h => h, fun q h => absurd rfl h, Nat.le_refl _, fun _ _ _ => rfl, hro, hsb, (by obtain ⟨cell, q1, -⟩ := hO0; exact (Array.getElem?_eq_some_iff.mp q1).1)⟩
  refine lv_aload_n hx hb (eX8_init (0, .aload_n 0, 1) (List.mem_of_getElem? (i := 0) rfl)) rfl (lv_at hl 0 rfl) ?_
  refine W.objInit hx hb hown (h2 _ (tb_1 205 rfl rfl)) (h2 _ (tb_1 29 rfl rfl)) (h2 _ (tb_1 30 rfl rfl)) rfl (by rw [hml]; exact hl.1) rfl (eX8_init (1, .invokespecial 3, 3) (List.mem_of_getElem? (i := 1) rfl)) (Nat.le_of_ble_eq_true rfl) (Nat.le_of_ble_eq_true rfl) ?_
  refine W.eq (g2 := F0 m 4 ls []) rfl ?_
  refine lv_aload_n hx hb (eX8_init (4, .aload_n 0, 1) (List.mem_of_getElem? (i := 2) rfl)) rfl (lv_at hl 0 rfl) ?_
  refine lv_iconst (v := 0) hx hb (eX8_init (5, .iconst 0, 1) (List.mem_of_getElem? (i := 3) rfl)) (by decide) ?_
  refine zo_putN (C := RX8) (T := TX8) (N := 14) (ci := 7) (k := 0) (ty := .int) hx hb hI0 hO0 h2 wiX8 tyX8 tyX8_ok nmX8 hown hKn.1 rfl (by decide) (tb_1 206 rfl rfl) rfl (by decide +kernel) rfl rfl (eX8_init (6, .putfield 9, 3) (List.mem_of_getElem? (i := 4) rfl)) (fun H1 lo1 hI1 hO1 hs1 hq1 => ?_)
  refine lv_aload_n hx hb (eX8_init (9, .aload_n 0, 1) (List.mem_of_getElem? (i := 5) rfl)) rfl (lv_at hl 0 rfl) ?_
  refine lv_iconst (v := 0) hx hb (eX8_init (10, .iconst 0, 1) (List.mem_of_getElem? (i := 6) rfl)) (by decide) ?_
  refine zo_putN (C := RX8) (T := TX8) (N := 14) (ci := 7) (k := 1) (ty := .int) hx hb hI1 hO1 h2 wiX8 tyX8 tyX8_ok nmX8 hown hKn.1 rfl (by decide) (tb_1 207 rfl rfl) rfl (by decide +kernel) rfl rfl (eX8_init (11, .putfield 15, 3) (List.mem_of_getElem? (i := 7) rfl)) (fun H2 lo2 hI2 hO2 hs2 hq2 => ?_)
  refine lv_aload_n hx hb (eX8_init (14, .aload_n 0, 1) (List.mem_of_getElem? (i := 8) rfl)) rfl (lv_at hl 0 rfl) ?_
  refine lv_iconst (v := 0) hx hb (eX8_init (15, .iconst 0, 1) (List.mem_of_getElem? (i := 9) rfl)) (by decide) ?_
  refine zo_putN (C := RX8) (T := TX8) (N := 14) (ci := 7) (k := 2) (ty := .int) hx hb hI2 hO2 h2 wiX8 tyX8 tyX8_ok nmX8 hown hKn.1 rfl (by decide) (tb_1 208 rfl rfl) rfl (by decide +kernel) rfl rfl (eX8_init (16, .putfield 18, 3) (List.mem_of_getElem? (i := 10) rfl)) (fun H3 lo3 hI3 hO3 hs3 hq3 => ?_)
  refine lv_aload_n hx hb (eX8_init (19, .aload_n 0, 1) (List.mem_of_getElem? (i := 11) rfl)) rfl (lv_at hl 0 rfl) ?_
  refine lv_iconst (v := 0) hx hb (eX8_init (20, .iconst 0, 1) (List.mem_of_getElem? (i := 12) rfl)) (by decide) ?_
  refine zo_putN (C := RX8) (T := TX8) (N := 14) (ci := 7) (k := 3) (ty := .int) hx hb hI3 hO3 h2 wiX8 tyX8 tyX8_ok nmX8 hown hKn.1 rfl (by decide) (tb_1 209 rfl rfl) rfl (by decide +kernel) rfl rfl (eX8_init (21, .putfield 21, 3) (List.mem_of_getElem? (i := 13) rfl)) (fun H4 lo4 hI4 hO4 hs4 hq4 => ?_)
  refine lv_aload_n hx hb (eX8_init (24, .aload_n 0, 1) (List.mem_of_getElem? (i := 14) rfl)) rfl (lv_at hl 0 rfl) ?_
  refine lv_iconst (v := 0) hx hb (eX8_init (25, .iconst 0, 1) (List.mem_of_getElem? (i := 15) rfl)) (by decide) ?_
  refine zo_putN (C := RX8) (T := TX8) (N := 14) (ci := 7) (k := 4) (ty := .int) hx hb hI4 hO4 h2 wiX8 tyX8 tyX8_ok nmX8 hown hKn.1 rfl (by decide) (tb_1 210 rfl rfl) rfl (by decide +kernel) rfl rfl (eX8_init (26, .putfield 24, 3) (List.mem_of_getElem? (i := 16) rfl)) (fun H5 lo5 hI5 hO5 hs5 hq5 => ?_)
  refine lv_aload_n hx hb (eX8_init (29, .aload_n 0, 1) (List.mem_of_getElem? (i := 17) rfl)) rfl (lv_at hl 0 rfl) ?_
  refine lv_iconst (v := 0) hx hb (eX8_init (30, .iconst 0, 1) (List.mem_of_getElem? (i := 18) rfl)) (by decide) ?_
  refine zo_putN (C := RX8) (T := TX8) (N := 14) (ci := 7) (k := 5) (ty := .int) hx hb hI5 hO5 h2 wiX8 tyX8 tyX8_ok nmX8 hown hKn.1 rfl (by decide) (tb_1 211 rfl rfl) rfl (by decide +kernel) rfl rfl (eX8_init (31, .putfield 27, 3) (List.mem_of_getElem? (i := 19) rfl)) (fun H6 lo6 hI6 hO6 hs6 hq6 => ?_)
  refine lv_aload_n hx hb (eX8_init (34, .aload_n 0, 1) (List.mem_of_getElem? (i := 20) rfl)) rfl (lv_at hl 0 rfl) ?_
  refine lv_iconst (v := 0) hx hb (eX8_init (35, .iconst 0, 1) (List.mem_of_getElem? (i := 21) rfl)) (by decide) ?_
  refine zo_putN (C := RX8) (T := TX8) (N := 14) (ci := 7) (k := 6) (ty := .int) hx hb hI6 hO6 h2 wiX8 tyX8 tyX8_ok nmX8 hown hKn.1 rfl (by decide) (tb_1 212 rfl rfl) rfl (by decide +kernel) rfl rfl (eX8_init (36, .putfield 30, 3) (List.mem_of_getElem? (i := 22) rfl)) (fun H7 lo7 hI7 hO7 hs7 hq7 => ?_)
  refine lv_aload_n hx hb (eX8_init (39, .aload_n 0, 1) (List.mem_of_getElem? (i := 23) rfl)) rfl (lv_at hl 0 rfl) ?_
  refine lv_iconst (v := 1) hx hb (eX8_init (40, .iconst 1, 1) (List.mem_of_getElem? (i := 24) rfl)) (by decide) ?_
  refine zo_putN (C := RX8) (T := TX8) (N := 14) (ci := 7) (k := 7) (ty := .int) hx hb hI7 hO7 h2 wiX8 tyX8 tyX8_ok nmX8 hown hKn.1 rfl (by decide) (tb_1 213 rfl rfl) rfl (by decide +kernel) rfl rfl (eX8_init (41, .putfield 33, 3) (List.mem_of_getElem? (i := 25) rfl)) (fun H8 lo8 hI8 hO8 hs8 hq8 => ?_)
  refine lv_aload_n hx hb (eX8_init (44, .aload_n 0, 1) (List.mem_of_getElem? (i := 26) rfl)) rfl (lv_at hl 0 rfl) ?_
  refine lv_iconst (v := (-1)) hx hb (eX8_init (45, .iconst (-1), 1) (List.mem_of_getElem? (i := 27) rfl)) (by decide) ?_
  refine zo_putN (C := RX8) (T := TX8) (N := 14) (ci := 7) (k := 8) (ty := .int) hx hb hI8 hO8 h2 wiX8 tyX8 tyX8_ok nmX8 hown hKn.1 rfl (by decide) (tb_1 214 rfl rfl) rfl (by decide +kernel) rfl rfl (eX8_init (46, .putfield 36, 3) (List.mem_of_getElem? (i := 28) rfl)) (fun H9 lo9 hI9 hO9 hs9 hq9 => ?_)
  refine lv_aload_n hx hb (eX8_init (49, .aload_n 0, 1) (List.mem_of_getElem? (i := 29) rfl)) rfl (lv_at hl 0 rfl) ?_
  refine lv_iconst (v := 0) hx hb (eX8_init (50, .iconst 0, 1) (List.mem_of_getElem? (i := 30) rfl)) (by decide) ?_
  refine zo_putN (C := RX8) (T := TX8) (N := 14) (ci := 7) (k := 9) (ty := .boolean) hx hb hI9 hO9 h2 wiX8 tyX8 tyX8_ok nmX8 hown hKn.1 rfl (by decide) (tb_1 216 rfl rfl) rfl (by decide +kernel) rfl rfl (eX8_init (51, .putfield 39, 3) (List.mem_of_getElem? (i := 31) rfl)) (fun H10 lo10 hI10 hO10 hs10 hq10 => ?_)
  refine lv_aload_n hx hb (eX8_init (54, .aload_n 0, 1) (List.mem_of_getElem? (i := 32) rfl)) rfl (lv_at hl 0 rfl) ?_
  refine lv_iconst (v := 0) hx hb (eX8_init (55, .iconst 0, 1) (List.mem_of_getElem? (i := 33) rfl)) (by decide) ?_
  refine zo_putN (C := RX8) (T := TX8) (N := 14) (ci := 7) (k := 10) (ty := .int) hx hb hI10 hO10 h2 wiX8 tyX8 tyX8_ok nmX8 hown hKn.1 rfl (by decide) (tb_1 217 rfl rfl) rfl (by decide +kernel) rfl rfl (eX8_init (56, .putfield 43, 3) (List.mem_of_getElem? (i := 34) rfl)) (fun H11 lo11 hI11 hO11 hs11 hq11 => ?_)
  refine lv_aload_n hx hb (eX8_init (59, .aload_n 0, 1) (List.mem_of_getElem? (i := 35) rfl)) rfl (lv_at hl 0 rfl) ?_
  refine lv_iconst (v := 0) hx hb (eX8_init (60, .iconst 0, 1) (List.mem_of_getElem? (i := 36) rfl)) (by decide) ?_
  refine zo_putN (C := RX8) (T := TX8) (N := 14) (ci := 7) (k := 11) (ty := .int) hx hb hI11 hO11 h2 wiX8 tyX8 tyX8_ok nmX8 hown hKn.1 rfl (by decide) (tb_1 218 rfl rfl) rfl (by decide +kernel) rfl rfl (eX8_init (61, .putfield 46, 3) (List.mem_of_getElem? (i := 37) rfl)) (fun H12 lo12 hI12 hO12 hs12 hq12 => ?_)
  refine lv_aload_n hx hb (eX8_init (64, .aload_n 0, 1) (List.mem_of_getElem? (i := 38) rfl)) rfl (lv_at hl 0 rfl) ?_
  refine lv_iconst (v := 0) hx hb (eX8_init (65, .iconst 0, 1) (List.mem_of_getElem? (i := 39) rfl)) (by decide) ?_
  refine zo_putN (C := RX8) (T := TX8) (N := 14) (ci := 7) (k := 12) (ty := .int) hx hb hI12 hO12 h2 wiX8 tyX8 tyX8_ok nmX8 hown hKn.1 rfl (by decide) (tb_1 219 rfl rfl) rfl (by decide +kernel) rfl rfl (eX8_init (66, .putfield 49, 3) (List.mem_of_getElem? (i := 40) rfl)) (fun H13 lo13 hI13 hO13 hs13 hq13 => ?_)
  refine lv_aload_n hx hb (eX8_init (69, .aload_n 0, 1) (List.mem_of_getElem? (i := 41) rfl)) rfl (lv_at hl 0 rfl) ?_
  refine lv_iconst (v := 0) hx hb (eX8_init (70, .iconst 0, 1) (List.mem_of_getElem? (i := 42) rfl)) (by decide) ?_
  refine zo_putN (C := RX8) (T := TX8) (N := 14) (ci := 7) (k := 13) (ty := .int) hx hb hI13 hO13 h2 wiX8 tyX8 tyX8_ok nmX8 hown hKn.1 rfl (by decide) (tb_1 220 rfl rfl) rfl (by decide +kernel) rfl rfl (eX8_init (71, .putfield 52, 3) (List.mem_of_getElem? (i := 43) rfl)) (fun H14 lo14 hI14 hO14 hs14 hq14 => ?_)
  refine zo_ret (ci := 7) (N := 14) (r := 7) (fs := fsX8) (E := fun _ _ => True) (trivial) hx hb hr B.notSynchronized hI14 hO14 rfl (fun k t hk => ?_) (eX8_init (74, .return_, 1) (List.mem_of_getElem? (i := 44) rfl))
  match k, hk with
  | 0, hk =>
    cases (show some ((0, (-2147483648), 2147483647) : zt_T) = some t from hk)
    exact ⟨by decide, ⟨0, rfl, by decide, by decide⟩⟩
  | 1, hk =>
    cases (show some ((0, (-2147483648), 2147483647) : zt_T) = some t from hk)
    exact ⟨by decide, ⟨0, rfl, by decide, by decide⟩⟩
  | 2, hk =>
    cases (show some ((0, (-2147483648), 2147483647) : zt_T) = some t from hk)
    exact ⟨by decide, ⟨0, rfl, by decide, by decide⟩⟩
  | 3, hk =>
    cases (show some ((0, (-2147483648), 2147483647) : zt_T) = some t from hk)
    exact ⟨by decide, ⟨0, rfl, by decide, by decide⟩⟩
  | 4, hk =>
    cases (show some ((0, (-2147483648), 2147483647) : zt_T) = some t from hk)
    exact ⟨by decide, ⟨0, rfl, by decide, by decide⟩⟩
  | 5, hk =>
    cases (show some ((0, (-2147483648), 2147483647) : zt_T) = some t from hk)
    exact ⟨by decide, ⟨0, rfl, by decide, by decide⟩⟩
  | 6, hk =>
    cases (show some ((0, (-2147483648), 2147483647) : zt_T) = some t from hk)
    exact ⟨by decide, ⟨0, rfl, by decide, by decide⟩⟩
  | 7, hk =>
    cases (show some ((0, (-2147483648), 2147483647) : zt_T) = some t from hk)
    exact ⟨by decide, ⟨1, rfl, by decide, by decide⟩⟩
  | 8, hk =>
    cases (show some ((0, (-2147483648), 2147483647) : zt_T) = some t from hk)
    exact ⟨by decide, ⟨(-1), rfl, by decide, by decide⟩⟩
  | 9, hk =>
    cases (show some ((0, 0, 1) : zt_T) = some t from hk)
    exact ⟨by decide, ⟨0, rfl, by decide, by decide⟩⟩
  | 10, hk =>
    cases (show some ((0, (-2147483648), 2147483647) : zt_T) = some t from hk)
    exact ⟨by decide, ⟨0, rfl, by decide, by decide⟩⟩
  | 11, hk =>
    cases (show some ((0, (-2147483648), 2147483647) : zt_T) = some t from hk)
    exact ⟨by decide, ⟨0, rfl, by decide, by decide⟩⟩
  | 12, hk =>
    cases (show some ((0, (-2147483648), 2147483647) : zt_T) = some t from hk)
    exact ⟨by decide, ⟨0, rfl, by decide, by decide⟩⟩
  | 13, hk =>
    cases (show some ((0, (-2147483648), 2147483647) : zt_T) = some t from hk)
    exact ⟨by decide, ⟨0, rfl, by decide, by decide⟩⟩
  | k + 14, hk => cases (show (none : Option zt_T) = some t from hk)
def tX3_init : List (Nat × Instr × Nat) := [(0, .aload_n 0, 1), (1, .invokespecial 3, 3), (4, .aload_n 0, 1), (5, .lconst 0, 1), (6, .putfield 9, 3), (9, .aload_n 0, 1), (10, .lconst 0, 1), (11, .putfield 15, 3), (14, .aload_n 0, 1), (15, .lconst 0, 1), (16, .putfield 18, 3), (19, .aload_n 0, 1), (20, .lconst 0, 1), (21, .putfield 21, 3), (24, .aload_n 0, 1), (25, .iconst 0, 1), (26, .putfield 24, 3), (29, .return_, 1)]
set_option maxRecDepth 100000 in
theorem eX3_init : ∀ x ∈ tX3_init, decode cX3_init x.1 = .ok x.2 := by decide +kernel
set_option maxRecDepth 100000 in
set_option maxHeartbeats 4000000 in
theorem iX3 (l : Launch) (D : va_G) (cA : Nat → ClassId) (ro : Nat → Option Nat) (sz : Nat) (H0 : Heap) (b : Nat) : Met l yX3_init (gW yX3_init cX3_init 1 none) { frames := 1, cells := 0, slots := 0, locals := 12 } (zo_Pc D cA ro sz H0 2 5 (fun k => defaultValue (tyX3 k)) b []) (zo_Qc D cA ro sz H0 2 b (fun _ _ => True)) 0 0 (zy_fr sz) := by
  refine zy_ofW (cc := cX3_init) (maxL := 1) (ret := none) (by decide +kernel) rfl ?_
  intro p e s m args below meth c s1 B hml hv
  obtain ⟨rfl, hh, hro, hsb, hO0, hKo⟩ := hv
  have hKn := hKo.1
  have hx := B.exec
  have hb := B.bytes
  have hr := B.returns
  have hts0 := atoms_spec (ws := gW yX3_init cX3_init 1 none) B.pre
  have h2 : ∀ w ∈ gT, w.before (Value.ref b :: []).toArray s = true := fun w hw => hts0 w (List.mem_cons_of_mem _ hw)
  have hown : s.vm.findClass RX3 = some m.cls := findClass_of_methodNamed B.named
  have hin : meth.name = "<init>" := (name_of_methodNamed B.named B.method).1
  have hl := lv_entry (Value.ref b :: []) (n := 1) (Nat.le_of_ble_eq_true rfl)
  rw [lg_entry_eq]
  generalize (lg_sl (Value.ref b :: []) ++ List.replicate (1 - (lg_sl (Value.ref b :: [])).length) Slot.unset).toArray = ls at hl ⊢
  have hI0 : zo_I D cA ro sz H0 s.heap b ro s.heap [] := ⟨hh, fun _ _ h => h, fun q h => absurd rfl h, Nat.le_refl _, fun _ _ _ => rfl, hro, hsb, (by obtain ⟨cell, q1, -⟩ := hO0; exact (Array.getElem?_eq_some_iff.mp q1).1)⟩
  refine lv_aload_n hx hb (eX3_init (0, .aload_n 0, 1) (List.mem_of_getElem? (i := 0) rfl)) rfl (lv_at hl 0 rfl) ?_
  refine W.objInit hx hb hown (h2 _ (tb_2 15 rfl rfl)) (h2 _ (tb_1 29 rfl rfl)) (h2 _ (tb_1 30 rfl rfl)) rfl (by rw [hml]; exact hl.1) rfl (eX3_init (1, .invokespecial 3, 3) (List.mem_of_getElem? (i := 1) rfl)) (Nat.le_of_ble_eq_true rfl) (Nat.le_of_ble_eq_true rfl) ?_
  refine W.eq (g2 := F0 m 4 ls []) rfl ?_
  refine lv_aload_n hx hb (eX3_init (4, .aload_n 0, 1) (List.mem_of_getElem? (i := 2) rfl)) rfl (lv_at hl 0 rfl) ?_
  refine lv_lconst (v := 0) hx hb (eX3_init (5, .lconst 0, 1) (List.mem_of_getElem? (i := 3) rfl)) (by decide) ?_
  refine zo_putN (C := RX3) (T := TX3) (N := 5) (ci := 2) (k := 0) (ty := .long) hx hb hI0 hO0 h2 wiX3 tyX3 tyX3_ok nmX3 hown hKn.1 rfl (by decide) (tb_2 16 rfl rfl) rfl (by decide +kernel) rfl rfl (eX3_init (6, .putfield 9, 3) (List.mem_of_getElem? (i := 4) rfl)) (fun H1 lo1 hI1 hO1 hs1 hq1 => ?_)
  refine lv_aload_n hx hb (eX3_init (9, .aload_n 0, 1) (List.mem_of_getElem? (i := 5) rfl)) rfl (lv_at hl 0 rfl) ?_
  refine lv_lconst (v := 0) hx hb (eX3_init (10, .lconst 0, 1) (List.mem_of_getElem? (i := 6) rfl)) (by decide) ?_
  refine zo_putN (C := RX3) (T := TX3) (N := 5) (ci := 2) (k := 1) (ty := .long) hx hb hI1 hO1 h2 wiX3 tyX3 tyX3_ok nmX3 hown hKn.1 rfl (by decide) (tb_2 18 rfl rfl) rfl (by decide +kernel) rfl rfl (eX3_init (11, .putfield 15, 3) (List.mem_of_getElem? (i := 7) rfl)) (fun H2 lo2 hI2 hO2 hs2 hq2 => ?_)
  refine lv_aload_n hx hb (eX3_init (14, .aload_n 0, 1) (List.mem_of_getElem? (i := 8) rfl)) rfl (lv_at hl 0 rfl) ?_
  refine lv_lconst (v := 0) hx hb (eX3_init (15, .lconst 0, 1) (List.mem_of_getElem? (i := 9) rfl)) (by decide) ?_
  refine zo_putN (C := RX3) (T := TX3) (N := 5) (ci := 2) (k := 2) (ty := .long) hx hb hI2 hO2 h2 wiX3 tyX3 tyX3_ok nmX3 hown hKn.1 rfl (by decide) (tb_2 20 rfl rfl) rfl (by decide +kernel) rfl rfl (eX3_init (16, .putfield 18, 3) (List.mem_of_getElem? (i := 10) rfl)) (fun H3 lo3 hI3 hO3 hs3 hq3 => ?_)
  refine lv_aload_n hx hb (eX3_init (19, .aload_n 0, 1) (List.mem_of_getElem? (i := 11) rfl)) rfl (lv_at hl 0 rfl) ?_
  refine lv_lconst (v := 0) hx hb (eX3_init (20, .lconst 0, 1) (List.mem_of_getElem? (i := 12) rfl)) (by decide) ?_
  refine zo_putN (C := RX3) (T := TX3) (N := 5) (ci := 2) (k := 3) (ty := .long) hx hb hI3 hO3 h2 wiX3 tyX3 tyX3_ok nmX3 hown hKn.1 rfl (by decide) (tb_2 22 rfl rfl) rfl (by decide +kernel) rfl rfl (eX3_init (21, .putfield 21, 3) (List.mem_of_getElem? (i := 13) rfl)) (fun H4 lo4 hI4 hO4 hs4 hq4 => ?_)
  refine lv_aload_n hx hb (eX3_init (24, .aload_n 0, 1) (List.mem_of_getElem? (i := 14) rfl)) rfl (lv_at hl 0 rfl) ?_
  refine lv_iconst (v := 0) hx hb (eX3_init (25, .iconst 0, 1) (List.mem_of_getElem? (i := 15) rfl)) (by decide) ?_
  refine zo_putN (C := RX3) (T := TX3) (N := 5) (ci := 2) (k := 4) (ty := .boolean) hx hb hI4 hO4 h2 wiX3 tyX3 tyX3_ok nmX3 hown hKn.1 rfl (by decide) (tb_2 24 rfl rfl) rfl (by decide +kernel) rfl rfl (eX3_init (26, .putfield 24, 3) (List.mem_of_getElem? (i := 16) rfl)) (fun H5 lo5 hI5 hO5 hs5 hq5 => ?_)
  refine zo_ret (ci := 2) (N := 5) (r := 2) (fs := fsX3) (E := fun _ _ => True) (trivial) hx hb hr B.notSynchronized hI5 hO5 rfl (fun k t hk => ?_) (eX3_init (29, .return_, 1) (List.mem_of_getElem? (i := 17) rfl))
  match k, hk with
  | 0, hk =>
    cases (show some ((1, (-9223372036854775808), 9223372036854775807) : zt_T) = some t from hk)
    exact ⟨by decide, ⟨0, rfl, by decide, by decide⟩⟩
  | 1, hk =>
    cases (show some ((1, (-9223372036854775808), 9223372036854775807) : zt_T) = some t from hk)
    exact ⟨by decide, ⟨0, rfl, by decide, by decide⟩⟩
  | 2, hk =>
    cases (show some ((1, (-9223372036854775808), 9223372036854775807) : zt_T) = some t from hk)
    exact ⟨by decide, ⟨0, rfl, by decide, by decide⟩⟩
  | 3, hk =>
    cases (show some ((1, (-9223372036854775808), 9223372036854775807) : zt_T) = some t from hk)
    exact ⟨by decide, ⟨0, rfl, by decide, by decide⟩⟩
  | 4, hk =>
    cases (show some ((0, 0, 1) : zt_T) = some t from hk)
    exact ⟨by decide, ⟨0, rfl, by decide, by decide⟩⟩
  | k + 5, hk => cases (show (none : Option zt_T) = some t from hk)
def tX4_init : List (Nat × Instr × Nat) := [(0, .aload_n 0, 1), (1, .invokespecial 3, 3), (4, .aload_n 0, 1), (5, .new 9, 3), (8, .dup, 1), (9, .invokespecial 11, 3), (12, .putfield 12, 3), (15, .aload_n 0, 1), (16, .new 18, 3), (19, .dup, 1), (20, .invokespecial 20, 3), (23, .putfield 21, 3), (26, .aload_n 0, 1), (27, .new 25, 3), (30, .dup, 1), (31, .invokespecial 27, 3), (34, .putfield 28, 3), (37, .aload_n 0, 1), (38, .bipush 39, 2), (40, .newarray .long, 2), (42, .putfield 32, 3), (45, .aload_n 0, 1), (46, .aload_n 1, 1), (47, .putfield 36, 3), (50, .aload_n 0, 1), (51, .aload_n 2, 1), (52, .putfield 40, 3), (55, .return_, 1)]
set_option maxRecDepth 100000 in
theorem eX4_init : ∀ x ∈ tX4_init, decode cX4_init x.1 = .ok x.2 := by decide +kernel
set_option maxRecDepth 100000 in
set_option maxHeartbeats 4000000 in
theorem iX4 (l : Launch) (D : va_G) (cA : Nat → ClassId) (ro : Nat → Option Nat) (sz : Nat) (H0 : Heap) (b : Nat) (t1 l1 : Nat) (g1 : ro t1 = some 0) (g2 : ro l1 = some 4) : Met l yX4_init (gW yX4_init cX4_init 3 none) { frames := 2, cells := 4, slots := 68, locals := 32 } (zo_Pc D cA ro sz H0 3 6 (fun k => defaultValue (tyX4 k)) b [.ref t1, .ref l1]) (zo_Qc D cA ro sz H0 3 b (fun _ _ => True)) 4 68 (zy_fr sz) := by
  refine zy_ofW (cc := cX4_init) (maxL := 3) (ret := none) (by decide +kernel) rfl ?_
  intro p e s m args below meth c s1 B hml hv
  obtain ⟨rfl, hh, hro, hsb, hO0, hKo⟩ := hv
  have hKn := hKo.1
  have hx := B.exec
  have hb := B.bytes
  have hr := B.returns
  have hts0 := atoms_spec (ws := gW yX4_init cX4_init 3 none) B.pre
  have h2 : ∀ w ∈ gT, w.before (Value.ref b :: [.ref t1, .ref l1]).toArray s = true := fun w hw => hts0 w (List.mem_cons_of_mem _ hw)
  have hown : s.vm.findClass RX4 = some m.cls := findClass_of_methodNamed B.named
  have hin : meth.name = "<init>" := (name_of_methodNamed B.named B.method).1
  have hl := lv_entry (Value.ref b :: [.ref t1, .ref l1]) (n := 3) (Nat.le_of_ble_eq_true rfl)
  rw [lg_entry_eq]
  generalize (lg_sl (Value.ref b :: [.ref t1, .ref l1]) ++ List.replicate (3 - (lg_sl (Value.ref b :: [.ref t1, .ref l1])).length) Slot.unset).toArray = ls at hl ⊢
  have hI0 : zo_I D cA ro sz H0 s.heap b ro s.heap [] := ⟨hh, fun _ _ h => h, fun q h => absurd rfl h, Nat.le_refl _, fun _ _ _ => rfl, hro, hsb, (by obtain ⟨cell, q1, -⟩ := hO0; exact (Array.getElem?_eq_some_iff.mp q1).1)⟩
  refine lv_aload_n hx hb (eX4_init (0, .aload_n 0, 1) (List.mem_of_getElem? (i := 0) rfl)) rfl (lv_at hl 0 rfl) ?_
  refine W.objInit hx hb hown (h2 _ (tb_1 160 rfl rfl)) (h2 _ (tb_1 29 rfl rfl)) (h2 _ (tb_1 30 rfl rfl)) rfl (by rw [hml]; exact hl.1) rfl (eX4_init (1, .invokespecial 3, 3) (List.mem_of_getElem? (i := 1) rfl)) (Nat.le_of_ble_eq_true rfl) (Nat.le_of_ble_eq_true rfl) ?_
  refine W.eq (g2 := F0 m 4 ls []) rfl ?_
  refine lv_aload_n hx hb (eX4_init (4, .aload_n 0, 1) (List.mem_of_getElem? (i := 2) rfl)) rfl (lv_at hl 0 rfl) ?_
  refine zo_new (C := RX1) (T := TX1) (N := 10) (ci := 1) hx hb hI0 h2 wiX1 tyX1 tyX1_ok hown (tb_1 161 rfl rfl) (tb_1 162 rfl rfl) (tb_1 8 rfl rfl) hKn.1 rfl (by decide) (by decide) (eX4_init (5, .new 9, 3) (List.mem_of_getElem? (i := 3) rfl)) (fun b1 H1 hI1 hr1 hs1 hb1 hp1 hq1 => ?_)
  have hO1 := hO0.kept (hq1 b (Nat.lt_of_lt_of_le hI0.2.2.2.2.2.2.2 hI0.2.2.2.1))
  have hz1 : sz ≤ b1 := by rw [hb1]; exact hI0.1.1
  refine lv_dup hx hb (eX4_init (8, .dup, 1) (List.mem_of_getElem? (i := 4) rfl)) rfl ?_
  refine zo_callN (As := []) (rest := [.ref b1, .ref b]) (b := b1) hx hb hml hown hts0 (iX1 l D cA ro sz H0 b1) ⟨rfl, rfl⟩ ⟨by decide, by decide⟩ ⟨by decide, by decide⟩ (tb_1 165 rfl rfl) (tb_1 8 rfl rfl) (List.mem_of_getElem? (i := 4) rfl) (tb_1 164 rfl rfl) rfl (show yX1_init.cls ≠ "java/lang/invoke/MethodHandle" ∧ yX1_init.cls ≠ "java/lang/invoke/VarHandle" ∧ (parseMethodDescriptor yX1_init.desc).map (fun d => d.parameters.length) = some 0 by decide +kernel) hI1.1 hr1 hz1 hp1 (hKo.ext hI1.2.1) hl.1 (Nat.le_of_ble_eq_true rfl) (eX4_init (9, .invokespecial 11, 3) (List.mem_of_getElem? (i := 5) rfl)) (fun H2 lo2 ro2 he2 hn2 hr2 hh2 hz2 hq2 hE2 => ?_)
  have hI2 := hI1.call hs1 he2 hn2 hh2 hz2 hq2
  have hO2 := hO1.kept (hq2 b (Nat.lt_of_lt_of_le hI1.2.2.2.2.2.2.2 hI1.2.2.2.1) (Nat.ne_of_lt (Nat.lt_of_lt_of_le hI1.2.2.2.2.2.2.2 hs1)))
  have ft1_2 := he2 _ _ g1
  have fl1_2 := he2 _ _ g2
  refine zo_putF (C := RX4) (T := TX4) (N := 6) (ci := 3) (k := 2) (ty := (.object "MomentTexts$DateText")) hx hb hI2 hO2 h2 wiX4 tyX4 tyX4_ok nmX4 hown hin hKn.1 rfl (by decide) (tb_2 38 rfl rfl) rfl rfl (by decide +kernel) rfl rfl (eX4_init (12, .putfield 12, 3) (List.mem_of_getElem? (i := 6) rfl)) (fun H3 lo3 hI3 hO3 hs3 hq3 => ?_)
  refine lv_aload_n hx hb (eX4_init (15, .aload_n 0, 1) (List.mem_of_getElem? (i := 7) rfl)) rfl (lv_at hl 0 rfl) ?_
  refine zo_new (C := RX8) (T := TX8) (N := 14) (ci := 7) hx hb hI3 h2 wiX8 tyX8 tyX8_ok hown (tb_1 200 rfl rfl) (tb_1 201 rfl rfl) (tb_1 9 rfl rfl) hKn.1 rfl (by decide) (by decide) (eX4_init (16, .new 18, 3) (List.mem_of_getElem? (i := 8) rfl)) (fun b4 H4 hI4 hr4 hs4 hb4 hp4 hq4 => ?_)
  have hO4 := hO3.kept (hq4 b (Nat.lt_of_lt_of_le hI3.2.2.2.2.2.2.2 hI3.2.2.2.1))
  have hz4 : sz ≤ b4 := by rw [hb4]; exact hI3.1.1
  refine lv_dup hx hb (eX4_init (19, .dup, 1) (List.mem_of_getElem? (i := 9) rfl)) rfl ?_
  refine zo_callN (As := []) (rest := [.ref b4, .ref b]) (b := b4) hx hb hml hown hts0 (iX8 l D cA ro2 sz H0 b4) ⟨rfl, rfl⟩ ⟨by decide, by decide⟩ ⟨by decide, by decide⟩ (tb_1 204 rfl rfl) (tb_1 9 rfl rfl) (List.mem_of_getElem? (i := 5) rfl) (tb_1 203 rfl rfl) rfl (show yX8_init.cls ≠ "java/lang/invoke/MethodHandle" ∧ yX8_init.cls ≠ "java/lang/invoke/VarHandle" ∧ (parseMethodDescriptor yX8_init.desc).map (fun d => d.parameters.length) = some 0 by decide +kernel) hI4.1 hr4 hz4 hp4 (hKo.ext hI4.2.1) hl.1 (Nat.le_of_ble_eq_true rfl) (eX4_init (20, .invokespecial 20, 3) (List.mem_of_getElem? (i := 10) rfl)) (fun H5 lo5 ro5 he5 hn5 hr5 hh5 hz5 hq5 hE5 => ?_)
  have hI5 := hI4.call hs4 he5 hn5 hh5 hz5 hq5
  have hO5 := hO4.kept (hq5 b (Nat.lt_of_lt_of_le hI4.2.2.2.2.2.2.2 hI4.2.2.2.1) (Nat.ne_of_lt (Nat.lt_of_lt_of_le hI4.2.2.2.2.2.2.2 hs4)))
  have ft1_5 := he5 _ _ ft1_2
  have fl1_5 := he5 _ _ fl1_2
  have fb1_5 := he5 _ _ hr2
  refine zo_putF (C := RX4) (T := TX4) (N := 6) (ci := 3) (k := 3) (ty := (.object "MomentTexts$TimeText")) hx hb hI5 hO5 h2 wiX4 tyX4 tyX4_ok nmX4 hown hin hKn.1 rfl (by decide) (tb_2 39 rfl rfl) rfl rfl (by decide +kernel) rfl rfl (eX4_init (23, .putfield 21, 3) (List.mem_of_getElem? (i := 11) rfl)) (fun H6 lo6 hI6 hO6 hs6 hq6 => ?_)
  refine lv_aload_n hx hb (eX4_init (26, .aload_n 0, 1) (List.mem_of_getElem? (i := 12) rfl)) rfl (lv_at hl 0 rfl) ?_
  refine zo_new (C := RX3) (T := TX3) (N := 5) (ci := 2) hx hb hI6 h2 wiX3 tyX3 tyX3_ok hown (tb_2 10 rfl rfl) (tb_2 11 rfl rfl) (tb_1 10 rfl rfl) hKn.1 rfl (by decide) (by decide) (eX4_init (27, .new 25, 3) (List.mem_of_getElem? (i := 13) rfl)) (fun b7 H7 hI7 hr7 hs7 hb7 hp7 hq7 => ?_)
  have hO7 := hO6.kept (hq7 b (Nat.lt_of_lt_of_le hI6.2.2.2.2.2.2.2 hI6.2.2.2.1))
  have hz7 : sz ≤ b7 := by rw [hb7]; exact hI6.1.1
  refine lv_dup hx hb (eX4_init (30, .dup, 1) (List.mem_of_getElem? (i := 14) rfl)) rfl ?_
  refine zo_callN (As := []) (rest := [.ref b7, .ref b]) (b := b7) hx hb hml hown hts0 (iX3 l D cA ro5 sz H0 b7) ⟨rfl, rfl⟩ ⟨by decide, by decide⟩ ⟨by decide, by decide⟩ (tb_2 14 rfl rfl) (tb_1 10 rfl rfl) (List.mem_of_getElem? (i := 6) rfl) (tb_2 13 rfl rfl) rfl (show yX3_init.cls ≠ "java/lang/invoke/MethodHandle" ∧ yX3_init.cls ≠ "java/lang/invoke/VarHandle" ∧ (parseMethodDescriptor yX3_init.desc).map (fun d => d.parameters.length) = some 0 by decide +kernel) hI7.1 hr7 hz7 hp7 (hKo.ext hI7.2.1) hl.1 (Nat.le_of_ble_eq_true rfl) (eX4_init (31, .invokespecial 27, 3) (List.mem_of_getElem? (i := 15) rfl)) (fun H8 lo8 ro8 he8 hn8 hr8 hh8 hz8 hq8 hE8 => ?_)
  have hI8 := hI7.call hs7 he8 hn8 hh8 hz8 hq8
  have hO8 := hO7.kept (hq8 b (Nat.lt_of_lt_of_le hI7.2.2.2.2.2.2.2 hI7.2.2.2.1) (Nat.ne_of_lt (Nat.lt_of_lt_of_le hI7.2.2.2.2.2.2.2 hs7)))
  have ft1_8 := he8 _ _ ft1_5
  have fl1_8 := he8 _ _ fl1_5
  have fb1_8 := he8 _ _ fb1_5
  have fb4_8 := he8 _ _ hr5
  refine zo_putF (C := RX4) (T := TX4) (N := 6) (ci := 3) (k := 4) (ty := (.object "MomentTexts$DurationText")) hx hb hI8 hO8 h2 wiX4 tyX4 tyX4_ok nmX4 hown hin hKn.1 rfl (by decide) (tb_2 40 rfl rfl) rfl rfl (by decide +kernel) rfl rfl (eX4_init (34, .putfield 28, 3) (List.mem_of_getElem? (i := 16) rfl)) (fun H9 lo9 hI9 hO9 hs9 hq9 => ?_)
  refine lv_aload_n hx hb (eX4_init (37, .aload_n 0, 1) (List.mem_of_getElem? (i := 17) rfl)) rfl (lv_at hl 0 rfl) ?_
  refine lv_bipush (v := 39) hx hb (eX4_init (38, .bipush 39, 2) (List.mem_of_getElem? (i := 18) rfl)) (by decide) ?_
  refine zo_newa (atype := .long) (N := 39) (ti := 1) (r := 17) (t := (1, (-9223372036854775808), 9223372036854775807)) hx hb hI9 (h2 _ (tb_1 44 rfl rfl)) (zo_cA (ti := 1) (tys := (cA 1, .long)) hKn.1 rfl) rfl (fun _ => ⟨0, rfl, by decide, by decide⟩) (by decide) (by decide) (by decide) (by decide) (eX4_init (40, .newarray .long, 2) (List.mem_of_getElem? (i := 19) rfl)) (fun b10 ro10 H10 hI10 hr10 he10 hq10 hb10 hz10 => ?_)
  have hO10 := hO9.kept (hq10 b (Nat.lt_of_lt_of_le hI9.2.2.2.2.2.2.2 hI9.2.2.2.1))
  have ft1_10 := he10 _ _ ft1_8
  have fl1_10 := he10 _ _ fl1_8
  have fb1_10 := he10 _ _ fb1_8
  have fb4_10 := he10 _ _ fb4_8
  have fb7_10 := he10 _ _ hr8
  refine zo_putF (C := RX4) (T := TX4) (N := 6) (ci := 3) (k := 5) (ty := (.array .long)) hx hb hI10 hO10 h2 wiX4 tyX4 tyX4_ok nmX4 hown hin hKn.1 rfl (by decide) (tb_2 41 rfl rfl) rfl rfl (by decide +kernel) rfl rfl (eX4_init (42, .putfield 32, 3) (List.mem_of_getElem? (i := 20) rfl)) (fun H11 lo11 hI11 hO11 hs11 hq11 => ?_)
  refine lv_aload_n hx hb (eX4_init (45, .aload_n 0, 1) (List.mem_of_getElem? (i := 21) rfl)) rfl (lv_at hl 0 rfl) ?_
  refine lv_aload_n hx hb (eX4_init (46, .aload_n 1, 1) (List.mem_of_getElem? (i := 22) rfl)) rfl (lv_at hl 1 rfl) ?_
  refine zo_putF (C := RX4) (T := TX4) (N := 6) (ci := 3) (k := 0) (ty := (.object "MomentTexts$Cursor")) hx hb hI11 hO11 h2 wiX4 tyX4 tyX4_ok nmX4 hown hin hKn.1 rfl (by decide) (tb_2 36 rfl rfl) rfl rfl (by decide +kernel) rfl rfl (eX4_init (47, .putfield 36, 3) (List.mem_of_getElem? (i := 23) rfl)) (fun H12 lo12 hI12 hO12 hs12 hq12 => ?_)
  refine lv_aload_n hx hb (eX4_init (50, .aload_n 0, 1) (List.mem_of_getElem? (i := 24) rfl)) rfl (lv_at hl 0 rfl) ?_
  refine lv_aload_n hx hb (eX4_init (51, .aload_n 2, 1) (List.mem_of_getElem? (i := 25) rfl)) rfl (lv_at hl 2 rfl) ?_
  refine zo_putF (C := RX4) (T := TX4) (N := 6) (ci := 3) (k := 1) (ty := (.object "MomentTexts$Leaps")) hx hb hI12 hO12 h2 wiX4 tyX4 tyX4_ok nmX4 hown hin hKn.1 rfl (by decide) (tb_2 37 rfl rfl) rfl rfl (by decide +kernel) rfl rfl (eX4_init (52, .putfield 40, 3) (List.mem_of_getElem? (i := 26) rfl)) (fun H13 lo13 hI13 hO13 hs13 hq13 => ?_)
  refine zo_ret (ci := 3) (N := 6) (r := 3) (fs := fsX4) (E := fun _ _ => True) (trivial) hx hb hr B.notSynchronized hI13 hO13 rfl (fun k t hk => ?_) (eX4_init (55, .return_, 1) (List.mem_of_getElem? (i := 27) rfl))
  match k, hk with
  | 0, hk =>
    cases (show some ((4, 0, 0) : zt_T) = some t from hk)
    exact ⟨by decide, Or.inr ⟨t1, rfl, ft1_10⟩⟩
  | 1, hk =>
    cases (show some ((12, 0, 0) : zt_T) = some t from hk)
    exact ⟨by decide, Or.inr ⟨l1, rfl, fl1_10⟩⟩
  | 2, hk =>
    cases (show some ((6, 0, 0) : zt_T) = some t from hk)
    exact ⟨by decide, Or.inr ⟨b1, rfl, fb1_10⟩⟩
  | 3, hk =>
    cases (show some ((18, 0, 0) : zt_T) = some t from hk)
    exact ⟨by decide, Or.inr ⟨b4, rfl, fb4_10⟩⟩
  | 4, hk =>
    cases (show some ((8, 0, 0) : zt_T) = some t from hk)
    exact ⟨by decide, Or.inr ⟨b7, rfl, fb7_10⟩⟩
  | 5, hk =>
    cases (show some ((38, 0, 0) : zt_T) = some t from hk)
    exact ⟨by decide, Or.inr ⟨b10, rfl, hr10⟩⟩
  | k + 6, hk => cases (show (none : Option zt_T) = some t from hk)
def tX10_init : List (Nat × Instr × Nat) := [(0, .aload_n 0, 1), (1, .invokespecial 3, 3), (4, .aload_n 0, 1), (5, .bipush 60, 2), (7, .newarray .long, 2), (9, .putfield 9, 3), (12, .aload_n 0, 1), (13, .bipush 60, 2), (15, .newarray .int, 2), (17, .putfield 15, 3), (20, .aload_n 0, 1), (21, .iconst 0, 1), (22, .putfield 19, 3), (25, .aload_n 0, 1), (26, .new 23, 3), (29, .dup, 1), (30, .invokespecial 25, 3), (33, .putfield 26, 3), (36, .aload_n 0, 1), (37, .iload_n 1, 1), (38, .putfield 30, 3), (41, .aload_n 0, 1), (42, .aload_n 2, 1), (43, .putfield 33, 3), (46, .return_, 1)]
set_option maxRecDepth 100000 in
theorem eX10_init : ∀ x ∈ tX10_init, decode cX10_init x.1 = .ok x.2 := by decide +kernel
set_option maxRecDepth 100000 in
set_option maxHeartbeats 4000000 in
theorem iX10 (l : Launch) (D : va_G) (cA : Nat → ClassId) (ro : Nat → Option Nat) (sz : Nat) (H0 : Heap) (b : Nat) (k1 : Int32) (l1 : Nat) (g2 : ro l1 = some 4) : Met l yX10_init (gW yX10_init cX10_init 3 none) { frames := 3, cells := 5, slots := 141, locals := 52 } (zo_Pc D cA ro sz H0 9 6 (fun k => defaultValue (tyX10 k)) b [.int k1, .ref l1]) (zo_Qc D cA ro sz H0 9 b (fun _ _ => True)) 5 141 (zy_fr sz) := by
  refine zy_ofW (cc := cX10_init) (maxL := 3) (ret := none) (by decide +kernel) rfl ?_
  intro p e s m args below meth c s1 B hml hv
  obtain ⟨rfl, hh, hro, hsb, hO0, hKo⟩ := hv
  have hKn := hKo.1
  have hx := B.exec
  have hb := B.bytes
  have hr := B.returns
  have hts0 := atoms_spec (ws := gW yX10_init cX10_init 3 none) B.pre
  have h2 : ∀ w ∈ gT, w.before (Value.ref b :: [.int k1, .ref l1]).toArray s = true := fun w hw => hts0 w (List.mem_cons_of_mem _ hw)
  have hown : s.vm.findClass RX10 = some m.cls := findClass_of_methodNamed B.named
  have hin : meth.name = "<init>" := (name_of_methodNamed B.named B.method).1
  have hl := lv_entry (Value.ref b :: [.int k1, .ref l1]) (n := 3) (Nat.le_of_ble_eq_true rfl)
  rw [lg_entry_eq]
  generalize (lg_sl (Value.ref b :: [.int k1, .ref l1]) ++ List.replicate (3 - (lg_sl (Value.ref b :: [.int k1, .ref l1])).length) Slot.unset).toArray = ls at hl ⊢
  have hI0 : zo_I D cA ro sz H0 s.heap b ro s.heap [] := ⟨hh, fun _ _ h => h, fun q h => absurd rfl h, Nat.le_refl _, fun _ _ _ => rfl, hro, hsb, (by obtain ⟨cell, q1, -⟩ := hO0; exact (Array.getElem?_eq_some_iff.mp q1).1)⟩
  refine lv_aload_n hx hb (eX10_init (0, .aload_n 0, 1) (List.mem_of_getElem? (i := 0) rfl)) rfl (lv_at hl 0 rfl) ?_
  refine W.objInit hx hb hown (h2 _ (tb_3 177 rfl rfl)) (h2 _ (tb_1 29 rfl rfl)) (h2 _ (tb_1 30 rfl rfl)) rfl (by rw [hml]; exact hl.1) rfl (eX10_init (1, .invokespecial 3, 3) (List.mem_of_getElem? (i := 1) rfl)) (Nat.le_of_ble_eq_true rfl) (Nat.le_of_ble_eq_true rfl) ?_
  refine W.eq (g2 := F0 m 4 ls []) rfl ?_
  refine lv_aload_n hx hb (eX10_init (4, .aload_n 0, 1) (List.mem_of_getElem? (i := 2) rfl)) rfl (lv_at hl 0 rfl) ?_
  refine lv_bipush (v := 60) hx hb (eX10_init (5, .bipush 60, 2) (List.mem_of_getElem? (i := 3) rfl)) (by decide) ?_
  refine zo_newa (atype := .long) (N := 60) (ti := 1) (r := 14) (t := (1, (-9223372036854775808), 9223372036854775807)) hx hb hI0 (h2 _ (tb_1 44 rfl rfl)) (zo_cA (ti := 1) (tys := (cA 1, .long)) hKn.1 rfl) rfl (fun _ => ⟨0, rfl, by decide, by decide⟩) (by decide) (by decide) (by decide) (by decide) (eX10_init (7, .newarray .long, 2) (List.mem_of_getElem? (i := 4) rfl)) (fun b1 ro1 H1 hI1 hr1 he1 hq1 hb1 hz1 => ?_)
  have hO1 := hO0.kept (hq1 b (Nat.lt_of_lt_of_le hI0.2.2.2.2.2.2.2 hI0.2.2.2.1))
  have fl1_1 := he1 _ _ g2
  refine zo_putF (C := RX10) (T := TX10) (N := 6) (ci := 9) (k := 2) (ty := (.array .long)) hx hb hI1 hO1 h2 wiX10 tyX10 tyX10_ok nmX10 hown hin hKn.1 rfl (by decide) (tb_3 182 rfl rfl) rfl rfl (by decide +kernel) rfl rfl (eX10_init (9, .putfield 9, 3) (List.mem_of_getElem? (i := 5) rfl)) (fun H2 lo2 hI2 hO2 hs2 hq2 => ?_)
  refine lv_aload_n hx hb (eX10_init (12, .aload_n 0, 1) (List.mem_of_getElem? (i := 6) rfl)) rfl (lv_at hl 0 rfl) ?_
  refine lv_bipush (v := 60) hx hb (eX10_init (13, .bipush 60, 2) (List.mem_of_getElem? (i := 7) rfl)) (by decide) ?_
  refine zo_newa (atype := .int) (N := 60) (ti := 0) (r := 15) (t := (0, (-2147483648), 2147483647)) hx hb hI2 (h2 _ (tb_3 200 rfl rfl)) (zo_cA (ti := 0) (tys := (cA 0, .int)) hKn.1 rfl) rfl (fun _ => ⟨0, rfl, by decide, by decide⟩) (by decide) (by decide) (by decide) (by decide) (eX10_init (15, .newarray .int, 2) (List.mem_of_getElem? (i := 8) rfl)) (fun b3 ro3 H3 hI3 hr3 he3 hq3 hb3 hz3 => ?_)
  have hO3 := hO2.kept (hq3 b (Nat.lt_of_lt_of_le hI2.2.2.2.2.2.2.2 hI2.2.2.2.1))
  have fl1_3 := he3 _ _ fl1_1
  have fb1_3 := he3 _ _ hr1
  refine zo_putF (C := RX10) (T := TX10) (N := 6) (ci := 9) (k := 3) (ty := (.array .int)) hx hb hI3 hO3 h2 wiX10 tyX10 tyX10_ok nmX10 hown hin hKn.1 rfl (by decide) (tb_3 183 rfl rfl) rfl rfl (by decide +kernel) rfl rfl (eX10_init (17, .putfield 15, 3) (List.mem_of_getElem? (i := 9) rfl)) (fun H4 lo4 hI4 hO4 hs4 hq4 => ?_)
  refine lv_aload_n hx hb (eX10_init (20, .aload_n 0, 1) (List.mem_of_getElem? (i := 10) rfl)) rfl (lv_at hl 0 rfl) ?_
  refine lv_iconst (v := 0) hx hb (eX10_init (21, .iconst 0, 1) (List.mem_of_getElem? (i := 11) rfl)) (by decide) ?_
  refine zo_putN (C := RX10) (T := TX10) (N := 6) (ci := 9) (k := 4) (ty := .int) hx hb hI4 hO4 h2 wiX10 tyX10 tyX10_ok nmX10 hown hKn.1 rfl (by decide) (tb_3 184 rfl rfl) rfl (by decide +kernel) rfl rfl (eX10_init (22, .putfield 19, 3) (List.mem_of_getElem? (i := 12) rfl)) (fun H5 lo5 hI5 hO5 hs5 hq5 => ?_)
  refine lv_aload_n hx hb (eX10_init (25, .aload_n 0, 1) (List.mem_of_getElem? (i := 13) rfl)) rfl (lv_at hl 0 rfl) ?_
  refine zo_new (C := RX6) (T := TX6) (N := 11) (ci := 5) hx hb hI5 h2 wiX6 tyX6 tyX6_ok hown (tb_3 178 rfl rfl) (tb_1 48 rfl rfl) (tb_1 3 rfl rfl) hKn.1 rfl (by decide) (by decide) (eX10_init (26, .new 23, 3) (List.mem_of_getElem? (i := 14) rfl)) (fun b6 H6 hI6 hr6 hs6 hb6 hp6 hq6 => ?_)
  have hO6 := hO5.kept (hq6 b (Nat.lt_of_lt_of_le hI5.2.2.2.2.2.2.2 hI5.2.2.2.1))
  have hz6 : sz ≤ b6 := by rw [hb6]; exact hI5.1.1
  refine lv_dup hx hb (eX10_init (29, .dup, 1) (List.mem_of_getElem? (i := 15) rfl)) rfl ?_
  refine zo_callN (As := []) (rest := [.ref b6, .ref b]) (b := b6) hx hb hml hown hts0 (iX6 l D cA ro3 sz H0 b6) ⟨rfl, rfl⟩ ⟨by decide, by decide⟩ ⟨by decide, by decide⟩ (tb_1 51 rfl rfl) (tb_1 3 rfl rfl) (List.mem_of_getElem? (i := 8) rfl) (tb_1 50 rfl rfl) rfl (show yX6_init.cls ≠ "java/lang/invoke/MethodHandle" ∧ yX6_init.cls ≠ "java/lang/invoke/VarHandle" ∧ (parseMethodDescriptor yX6_init.desc).map (fun d => d.parameters.length) = some 0 by decide +kernel) hI6.1 hr6 hz6 hp6 (hKo.ext hI6.2.1) hl.1 (Nat.le_of_ble_eq_true rfl) (eX10_init (30, .invokespecial 25, 3) (List.mem_of_getElem? (i := 16) rfl)) (fun H7 lo7 ro7 he7 hn7 hr7 hh7 hz7 hq7 hE7 => ?_)
  have hI7 := hI6.call hs6 he7 hn7 hh7 hz7 hq7
  have hO7 := hO6.kept (hq7 b (Nat.lt_of_lt_of_le hI6.2.2.2.2.2.2.2 hI6.2.2.2.1) (Nat.ne_of_lt (Nat.lt_of_lt_of_le hI6.2.2.2.2.2.2.2 hs6)))
  have fl1_7 := he7 _ _ fl1_3
  have fb1_7 := he7 _ _ fb1_3
  have fb3_7 := he7 _ _ hr3
  refine zo_putF (C := RX10) (T := TX10) (N := 6) (ci := 9) (k := 5) (ty := (.object "MomentTexts$Rule")) hx hb hI7 hO7 h2 wiX10 tyX10 tyX10_ok nmX10 hown hin hKn.1 rfl (by decide) (tb_3 185 rfl rfl) rfl rfl (by decide +kernel) rfl rfl (eX10_init (33, .putfield 26, 3) (List.mem_of_getElem? (i := 17) rfl)) (fun H8 lo8 hI8 hO8 hs8 hq8 => ?_)
  refine lv_aload_n hx hb (eX10_init (36, .aload_n 0, 1) (List.mem_of_getElem? (i := 18) rfl)) rfl (lv_at hl 0 rfl) ?_
  refine lv_iload_n hx hb (eX10_init (37, .iload_n 1, 1) (List.mem_of_getElem? (i := 19) rfl)) rfl (lv_at hl 1 rfl) ?_
  refine zo_putF (C := RX10) (T := TX10) (N := 6) (ci := 9) (k := 0) (ty := .int) hx hb hI8 hO8 h2 wiX10 tyX10 tyX10_ok nmX10 hown hin hKn.1 rfl (by decide) (tb_3 180 rfl rfl) rfl rfl (by decide +kernel) rfl rfl (eX10_init (38, .putfield 30, 3) (List.mem_of_getElem? (i := 20) rfl)) (fun H9 lo9 hI9 hO9 hs9 hq9 => ?_)
  refine lv_aload_n hx hb (eX10_init (41, .aload_n 0, 1) (List.mem_of_getElem? (i := 21) rfl)) rfl (lv_at hl 0 rfl) ?_
  refine lv_aload_n hx hb (eX10_init (42, .aload_n 2, 1) (List.mem_of_getElem? (i := 22) rfl)) rfl (lv_at hl 2 rfl) ?_
  refine zo_putF (C := RX10) (T := TX10) (N := 6) (ci := 9) (k := 1) (ty := (.object "MomentTexts$Leaps")) hx hb hI9 hO9 h2 wiX10 tyX10 tyX10_ok nmX10 hown hin hKn.1 rfl (by decide) (tb_3 181 rfl rfl) rfl rfl (by decide +kernel) rfl rfl (eX10_init (43, .putfield 33, 3) (List.mem_of_getElem? (i := 23) rfl)) (fun H10 lo10 hI10 hO10 hs10 hq10 => ?_)
  refine zo_ret (ci := 9) (N := 6) (r := 9) (fs := fsX10) (E := fun _ _ => True) (trivial) hx hb hr B.notSynchronized hI10 hO10 rfl (fun k t hk => ?_) (eX10_init (46, .return_, 1) (List.mem_of_getElem? (i := 24) rfl))
  match k, hk with
  | 0, hk =>
    cases (show some ((0, (-2147483648), 2147483647) : zt_T) = some t from hk)
    exact ⟨by decide, ⟨k1, rfl, (zn_i32 k1).1, (zn_i32 k1).2⟩⟩
  | 1, hk =>
    cases (show some ((12, 0, 0) : zt_T) = some t from hk)
    exact ⟨by decide, Or.inr ⟨l1, rfl, fl1_7⟩⟩
  | 2, hk =>
    cases (show some ((32, 0, 0) : zt_T) = some t from hk)
    exact ⟨by decide, Or.inr ⟨b1, rfl, fb1_7⟩⟩
  | 3, hk =>
    cases (show some ((34, 0, 0) : zt_T) = some t from hk)
    exact ⟨by decide, Or.inr ⟨b3, rfl, fb3_7⟩⟩
  | 4, hk =>
    cases (show some ((0, 0, 60) : zt_T) = some t from hk)
    exact ⟨by decide, ⟨0, rfl, by decide, by decide⟩⟩
  | 5, hk =>
    cases (show some ((14, 0, 0) : zt_T) = some t from hk)
    exact ⟨by decide, Or.inr ⟨b6, rfl, hr7⟩⟩
  | k + 6, hk => cases (show (none : Option zt_T) = some t from hk)
