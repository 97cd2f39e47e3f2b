theorem zc_one {D : va_G} {RT : List zr_R} {ro : Nat → Option Nat} {k : zc_C} {t : zt_T} {H H1 : Heap} {vs : List Value} {x : Option Value} {L : List zl_F} (h : ∃ al ∈ [((some t, [], L) : zc_A)], zc_post D RT ro k al H H1 vs x) : ∃ v : Value, x = some v ∧ zt_ok ro v t := by
  obtain ⟨al, hal, hres, -⟩ := h
  cases List.mem_singleton.mp hal
  match x, hres with
  | some v, hres => exact ⟨v, rfl, hres⟩
def tX11_init : List (Nat × Instr × Nat) := [(0, .aload_n 0, 1), (1, .invokespecial 5, 3), (4, .aload_n 0, 1), (5, .new 11, 3), (8, .dup, 1), (9, .invokespecial 13, 3), (12, .putfield 14, 3), (15, .aload_n 0, 1), (16, .bipush 8, 2), (18, .anewarray 18, 3), (21, .putfield 20, 3), (24, .aload_n 0, 1), (25, .iconst 0, 1), (26, .putfield 24, 3), (29, .aload_n 0, 1), (30, .new 28, 3), (33, .dup, 1), (34, .invokespecial 30, 3), (37, .putfield 31, 3), (40, .aload_n 0, 1), (41, .new 35, 3), (44, .dup, 1), (45, .invokespecial 37, 3), (48, .putfield 38, 3), (51, .aload_n 0, 1), (52, .new 42, 3), (55, .dup, 1), (56, .invokespecial 44, 3), (59, .putfield 45, 3), (62, .aload_n 0, 1), (63, .new 49, 3), (66, .dup, 1), (67, .aload_n 0, 1), (68, .getfield 38, 3), (71, .aload_n 0, 1), (72, .getfield 14, 3), (75, .invokespecial 51, 3), (78, .putfield 54, 3), (81, .aload_n 0, 1), (82, .bipush 39, 2), (84, .newarray .long, 2), (86, .putfield 58, 3), (89, .aload_n 0, 1), (90, .getfield 58, 3), (93, .ldc2_w 62, 3), (96, .invokestatic 64, 3), (99, .aload_n 0, 1), (100, .bipush 63, 2), (102, .newarray .long, 2), (104, .putfield 70, 3), (107, .return_, 1)]
set_option maxRecDepth 100000 in
theorem eX11_init : ∀ x ∈ tX11_init, decode cX11_init x.1 = .ok x.2 := by decide +kernel
set_option maxRecDepth 100000 in
set_option maxHeartbeats 4000000 in
theorem iX11 (l : Launch) (D : va_G) (cA : Nat → ClassId) (ro : Nat → Option Nat) (sz : Nat) (H0 : Heap) (b : Nat) : Met l yX11_init (gW yX11_init cX11_init 1 none) { frames := 3, cells := 17, slots := 494, locals := 54 } (zo_Pc D cA ro sz H0 10 9 (fun k => defaultValue (tyX11 k)) b []) (zo_Qc D cA ro sz H0 10 b (fun ro9 H => zh_f D H b 10 2 = .int 0 ∧ (∃ q : Nat, zh_f D H b 10 0 = .ref q ∧ ro9 q = some 4 ∧ zh_f D H q 4 1 = .int 0) ∧ (∃ q : Nat, zh_f D H b 10 4 = .ref q ∧ ro9 q = some 0 ∧ zh_f D H q 0 1 = .int 0) ∧ (∃ q : Nat, zh_f D H b 10 5 = .ref q ∧ ro9 q = some 8 ∧ zh_f D H q 8 1 = .int 0))) 17 494 (zy_fr sz) := by
  refine zy_ofW (cc := cX11_init) (maxL := 1) (ret := none) (by decide +kernel) rfl ?_
  intro p e s m args below meth c s1 B hml hv
  obtain ⟨rfl, hh, hro, hsb, hO0, hKo⟩ := hv
  have hKn := hKo.1
  have hx := B.exec
  have hb := B.bytes
  have hr := B.returns
  have hts0 := atoms_spec (ws := gW yX11_init cX11_init 1 none) B.pre
  have h2 : ∀ w ∈ gT, w.before (Value.ref b :: []).toArray s = true := fun w hw => hts0 w (List.mem_cons_of_mem _ hw)
  have hown : s.vm.findClass RX11 = some m.cls := findClass_of_methodNamed B.named
  have hin : meth.name = "<init>" := (name_of_methodNamed B.named B.method).1
  have hl := lv_entry (Value.ref b :: []) (n := 1) (Nat.le_of_ble_eq_true rfl)
  rw [lg_entry_eq]
  generalize (lg_sl (Value.ref b :: []) ++ List.replicate (1 - (lg_sl (Value.ref b :: [])).length) Slot.unset).toArray = ls at hl ⊢
  have hI0 : zo_I D cA ro sz H0 s.heap b ro s.heap [] := ⟨hh, fun _ _ h => h, fun q h => absurd rfl h, Nat.le_refl _, fun _ _ _ => rfl, hro, hsb, (by obtain ⟨cell, q1, -⟩ := hO0; exact (Array.getElem?_eq_some_iff.mp q1).1)⟩
  refine lv_aload_n hx hb (eX11_init (0, .aload_n 0, 1) (List.mem_of_getElem? (i := 0) rfl)) rfl (lv_at hl 0 rfl) ?_
  refine W.objInit hx hb hown (h2 _ (tb_1 28 rfl rfl)) (h2 _ (tb_1 29 rfl rfl)) (h2 _ (tb_1 30 rfl rfl)) rfl (by rw [hml]; exact hl.1) rfl (eX11_init (1, .invokespecial 5, 3) (List.mem_of_getElem? (i := 1) rfl)) (Nat.le_of_ble_eq_true rfl) (Nat.le_of_ble_eq_true rfl) ?_
  refine W.eq (g2 := F0 m 4 ls []) rfl ?_
  refine lv_aload_n hx hb (eX11_init (4, .aload_n 0, 1) (List.mem_of_getElem? (i := 2) rfl)) rfl (lv_at hl 0 rfl) ?_
  refine zo_new (C := RX5) (T := TX5) (N := 2) (ci := 4) hx hb hI0 h2 wiX5 tyX5 tyX5_ok hown (tb_1 31 rfl rfl) (tb_1 32 rfl rfl) (tb_1 2 rfl rfl) hKn.1 rfl (by decide) (by decide) (eX11_init (5, .new 11, 3) (List.mem_of_getElem? (i := 3) rfl)) (fun b1 H1 hI1 hr1 hs1 hb1 hp1 hq1 => ?_)
  have hO1 := hO0.kept (hq1 b (Nat.lt_of_lt_of_le hI0.2.2.2.2.2.2.2 hI0.2.2.2.1))
  have hz1 : sz ≤ b1 := by rw [hb1]; exact hI0.1.1
  refine lv_dup hx hb (eX11_init (8, .dup, 1) (List.mem_of_getElem? (i := 4) rfl)) rfl ?_
  refine zo_callN (As := []) (rest := [.ref b1, .ref b]) (b := b1) hx hb hml hown hts0 (iX5 l D cA ro sz H0 b1) ⟨rfl, rfl⟩ ⟨by decide, by decide⟩ ⟨by decide, by decide⟩ (tb_1 35 rfl rfl) (tb_1 2 rfl rfl) (List.mem_of_getElem? (i := 0) rfl) (tb_1 34 rfl rfl) rfl (show yX5_init.cls ≠ "java/lang/invoke/MethodHandle" ∧ yX5_init.cls ≠ "java/lang/invoke/VarHandle" ∧ (parseMethodDescriptor yX5_init.desc).map (fun d => d.parameters.length) = some 0 by decide +kernel) hI1.1 hr1 hz1 hp1 (hKo.ext hI1.2.1) hl.1 (Nat.le_of_ble_eq_true rfl) (eX11_init (9, .invokespecial 13, 3) (List.mem_of_getElem? (i := 5) rfl)) (fun H2 lo2 ro2 he2 hn2 hr2 hh2 hz2 hq2 hE2 => ?_)
  have hI2 := hI1.call hs1 he2 hn2 hh2 hz2 hq2
  have hO2 := hO1.kept (hq2 b (Nat.lt_of_lt_of_le hI1.2.2.2.2.2.2.2 hI1.2.2.2.1) (Nat.ne_of_lt (Nat.lt_of_lt_of_le hI1.2.2.2.2.2.2.2 hs1)))
  refine zo_putF (C := RX11) (T := TX11) (N := 9) (ci := 10) (k := 0) (ty := (.object "MomentTexts$Leaps")) hx hb hI2 hO2 h2 wiX11 tyX11 tyX11_ok nmX11 hown hin hKn.1 rfl (by decide) (tb_2 60 rfl rfl) rfl rfl (by decide +kernel) rfl rfl (eX11_init (12, .putfield 14, 3) (List.mem_of_getElem? (i := 6) rfl)) (fun H3 lo3 hI3 hO3 hs3 hq3 => ?_)
  have kb1_3 := zh_fq (k := 1) (ci := 4) (hq3 b1 (fun g => by have g9 := hr2; rw [g, hI2.2.2.2.2.2.1] at g9; cases g9)) hE2
  refine lv_aload_n hx hb (eX11_init (15, .aload_n 0, 1) (List.mem_of_getElem? (i := 7) rfl)) rfl (lv_at hl 0 rfl) ?_
  refine lv_bipush (v := 8) hx hb (eX11_init (16, .bipush 8, 2) (List.mem_of_getElem? (i := 8) rfl)) (by decide) ?_
  refine zo_anew (N := 8) (ti := 4) (r := 20) (t := (23, 0, 0)) hx hb hI3 hown (h2 _ (tb_1 45 rfl rfl)) hKo.2.2.use (zo_cA (ti := 4) (tys := (cA 4, .object "MomentTexts$Zone")) hKn.1 rfl).choose_spec.choose_spec.2.2.2 rfl (fun _ => Or.inl ⟨rfl, rfl⟩) (by decide) (by decide) (by decide) (by decide) (eX11_init (18, .anewarray 18, 3) (List.mem_of_getElem? (i := 9) rfl)) (fun b4 ro4 H4 hI4 hr4 he4 hq4 hb4 hz4 => ?_)
  have hO4 := hO3.kept (hq4 b (Nat.lt_of_lt_of_le hI3.2.2.2.2.2.2.2 hI3.2.2.2.1))
  have kb1_4 := zh_fq (k := 1) (ci := 4) (hq4 b1 (zh_lt hI3.1 hr2)) kb1_3
  have ltb1 : b1 < b4 := by rw [hb4]; exact zh_lt hI3.1 hr2
  have fb1_4 := he4 _ _ hr2
  refine zo_putF (C := RX11) (T := TX11) (N := 9) (ci := 10) (k := 1) (ty := (.array (.object "MomentTexts$Zone"))) hx hb hI4 hO4 h2 wiX11 tyX11 tyX11_ok nmX11 hown hin hKn.1 rfl (by decide) (tb_2 61 rfl rfl) rfl rfl (by decide +kernel) rfl rfl (eX11_init (21, .putfield 20, 3) (List.mem_of_getElem? (i := 10) rfl)) (fun H5 lo5 hI5 hO5 hs5 hq5 => ?_)
  have kb1_5 := zh_fq (k := 1) (ci := 4) (hq5 b1 (fun g => by have g9 := fb1_4; rw [g, hI4.2.2.2.2.2.1] at g9; cases g9)) kb1_4
  refine lv_aload_n hx hb (eX11_init (24, .aload_n 0, 1) (List.mem_of_getElem? (i := 11) rfl)) rfl (lv_at hl 0 rfl) ?_
  refine lv_iconst (v := 0) hx hb (eX11_init (25, .iconst 0, 1) (List.mem_of_getElem? (i := 12) rfl)) (by decide) ?_
  refine zo_putN (C := RX11) (T := TX11) (N := 9) (ci := 10) (k := 2) (ty := .int) hx hb hI5 hO5 h2 wiX11 tyX11 tyX11_ok nmX11 hown hKn.1 rfl (by decide) (tb_2 62 rfl rfl) rfl (by decide +kernel) rfl rfl (eX11_init (26, .putfield 24, 3) (List.mem_of_getElem? (i := 13) rfl)) (fun H6 lo6 hI6 hO6 hs6 hq6 => ?_)
  have kb1_6 := zh_fq (k := 1) (ci := 4) (hq6 b1 (fun g => by have g9 := fb1_4; rw [g, hI5.2.2.2.2.2.1] at g9; cases g9)) kb1_5
  refine lv_aload_n hx hb (eX11_init (29, .aload_n 0, 1) (List.mem_of_getElem? (i := 14) rfl)) rfl (lv_at hl 0 rfl) ?_
  refine zo_new (C := RX6) (T := TX6) (N := 11) (ci := 5) hx hb hI6 h2 wiX6 tyX6 tyX6_ok hown (tb_1 47 rfl rfl) (tb_1 48 rfl rfl) (tb_1 3 rfl rfl) hKn.1 rfl (by decide) (by decide) (eX11_init (30, .new 28, 3) (List.mem_of_getElem? (i := 15) rfl)) (fun b7 H7 hI7 hr7 hs7 hb7 hp7 hq7 => ?_)
  have hO7 := hO6.kept (hq7 b (Nat.lt_of_lt_of_le hI6.2.2.2.2.2.2.2 hI6.2.2.2.1))
  have hz7 : sz ≤ b7 := by rw [hb7]; exact hI6.1.1
  have kb1_7 := zh_fq (k := 1) (ci := 4) (hq7 b1 (zh_lt hI6.1 fb1_4)) kb1_6
  refine lv_dup hx hb (eX11_init (33, .dup, 1) (List.mem_of_getElem? (i := 16) rfl)) rfl ?_
  refine zo_callN (As := []) (rest := [.ref b7, .ref b]) (b := b7) hx hb hml hown hts0 (iX6 l D cA ro4 sz H0 b7) ⟨rfl, rfl⟩ ⟨by decide, by decide⟩ ⟨by decide, by decide⟩ (tb_1 51 rfl rfl) (tb_1 3 rfl rfl) (List.mem_of_getElem? (i := 1) rfl) (tb_1 50 rfl rfl) rfl (show yX6_init.cls ≠ "java/lang/invoke/MethodHandle" ∧ yX6_init.cls ≠ "java/lang/invoke/VarHandle" ∧ (parseMethodDescriptor yX6_init.desc).map (fun d => d.parameters.length) = some 0 by decide +kernel) hI7.1 hr7 hz7 hp7 (hKo.ext hI7.2.1) hl.1 (Nat.le_of_ble_eq_true rfl) (eX11_init (34, .invokespecial 30, 3) (List.mem_of_getElem? (i := 17) rfl)) (fun H8 lo8 ro8 he8 hn8 hr8 hh8 hz8 hq8 hE8 => ?_)
  have hI8 := hI7.call hs7 he8 hn8 hh8 hz8 hq8
  have hO8 := hO7.kept (hq8 b (Nat.lt_of_lt_of_le hI7.2.2.2.2.2.2.2 hI7.2.2.2.1) (Nat.ne_of_lt (Nat.lt_of_lt_of_le hI7.2.2.2.2.2.2.2 hs7)))
  have kb1_8 := zh_fq (k := 1) (ci := 4) (hq8 b1 (zh_lt hI7.1 fb1_4) (fun g => by have g9 := fb1_4; rw [g, hr7] at g9; cases g9)) kb1_7
  have fb1_8 := he8 _ _ fb1_4
  have fb4_8 := he8 _ _ hr4
  refine zo_putF (C := RX11) (T := TX11) (N := 9) (ci := 10) (k := 3) (ty := (.object "MomentTexts$Rule")) hx hb hI8 hO8 h2 wiX11 tyX11 tyX11_ok nmX11 hown hin hKn.1 rfl (by decide) (tb_2 63 rfl rfl) rfl rfl (by decide +kernel) rfl rfl (eX11_init (37, .putfield 31, 3) (List.mem_of_getElem? (i := 18) rfl)) (fun H9 lo9 hI9 hO9 hs9 hq9 => ?_)
  have kb1_9 := zh_fq (k := 1) (ci := 4) (hq9 b1 (fun g => by have g9 := fb1_8; rw [g, hI8.2.2.2.2.2.1] at g9; cases g9)) kb1_8
  refine lv_aload_n hx hb (eX11_init (40, .aload_n 0, 1) (List.mem_of_getElem? (i := 19) rfl)) rfl (lv_at hl 0 rfl) ?_
  refine zo_new (C := RX0) (T := TX0) (N := 5) (ci := 0) hx hb hI9 h2 wiX0 tyX0 tyX0_ok hown (tb_1 112 rfl rfl) (tb_1 113 rfl rfl) (tb_1 5 rfl rfl) hKn.1 rfl (by decide) (by decide) (eX11_init (41, .new 35, 3) (List.mem_of_getElem? (i := 20) rfl)) (fun b10 H10 hI10 hr10 hs10 hb10 hp10 hq10 => ?_)
  have hO10 := hO9.kept (hq10 b (Nat.lt_of_lt_of_le hI9.2.2.2.2.2.2.2 hI9.2.2.2.1))
  have hz10 : sz ≤ b10 := by rw [hb10]; exact hI9.1.1
  have kb1_10 := zh_fq (k := 1) (ci := 4) (hq10 b1 (zh_lt hI9.1 fb1_8)) kb1_9
  refine lv_dup hx hb (eX11_init (44, .dup, 1) (List.mem_of_getElem? (i := 21) rfl)) rfl ?_
  refine zo_callN (As := []) (rest := [.ref b10, .ref b]) (b := b10) hx hb hml hown hts0 (iX0 l D cA ro8 sz H0 b10) ⟨rfl, rfl⟩ ⟨by decide, by decide⟩ ⟨by decide, by decide⟩ (tb_1 116 rfl rfl) (tb_1 5 rfl rfl) (List.mem_of_getElem? (i := 2) rfl) (tb_1 115 rfl rfl) rfl (show yX0_init.cls ≠ "java/lang/invoke/MethodHandle" ∧ yX0_init.cls ≠ "java/lang/invoke/VarHandle" ∧ (parseMethodDescriptor yX0_init.desc).map (fun d => d.parameters.length) = some 0 by decide +kernel) hI10.1 hr10 hz10 hp10 (hKo.ext hI10.2.1) hl.1 (Nat.le_of_ble_eq_true rfl) (eX11_init (45, .invokespecial 37, 3) (List.mem_of_getElem? (i := 22) rfl)) (fun H11 lo11 ro11 he11 hn11 hr11 hh11 hz11 hq11 hE11 => ?_)
  have hI11 := hI10.call hs10 he11 hn11 hh11 hz11 hq11
  have hO11 := hO10.kept (hq11 b (Nat.lt_of_lt_of_le hI10.2.2.2.2.2.2.2 hI10.2.2.2.1) (Nat.ne_of_lt (Nat.lt_of_lt_of_le hI10.2.2.2.2.2.2.2 hs10)))
  have kb1_11 := zh_fq (k := 1) (ci := 4) (hq11 b1 (zh_lt hI10.1 fb1_8) (fun g => by have g9 := fb1_8; rw [g, hr10] at g9; cases g9)) kb1_10
  have fb1_11 := he11 _ _ fb1_8
  have fb4_11 := he11 _ _ fb4_8
  have fb7_11 := he11 _ _ hr8
  refine zo_putF (C := RX11) (T := TX11) (N := 9) (ci := 10) (k := 4) (ty := (.object "MomentTexts$Cursor")) hx hb hI11 hO11 h2 wiX11 tyX11 tyX11_ok nmX11 hown hin hKn.1 rfl (by decide) (tb_2 64 rfl rfl) rfl rfl (by decide +kernel) rfl rfl (eX11_init (48, .putfield 38, 3) (List.mem_of_getElem? (i := 23) rfl)) (fun H12 lo12 hI12 hO12 hs12 hq12 => ?_)
  have kb1_12 := zh_fq (k := 1) (ci := 4) (hq12 b1 (fun g => by have g9 := fb1_11; rw [g, hI11.2.2.2.2.2.1] at g9; cases g9)) kb1_11
  have kb10_12 := zh_fq (k := 1) (ci := 0) (hq12 b10 (fun g => by have g9 := hr11; rw [g, hI11.2.2.2.2.2.1] at g9; cases g9)) hE11
  refine lv_aload_n hx hb (eX11_init (51, .aload_n 0, 1) (List.mem_of_getElem? (i := 24) rfl)) rfl (lv_at hl 0 rfl) ?_
  refine zo_new (C := RX9) (T := TX9) (N := 2) (ci := 8) hx hb hI12 h2 wiX9 tyX9 tyX9_ok hown (tb_1 140 rfl rfl) (tb_1 141 rfl rfl) (tb_1 6 rfl rfl) hKn.1 rfl (by decide) (by decide) (eX11_init (52, .new 42, 3) (List.mem_of_getElem? (i := 25) rfl)) (fun b13 H13 hI13 hr13 hs13 hb13 hp13 hq13 => ?_)
  have hO13 := hO12.kept (hq13 b (Nat.lt_of_lt_of_le hI12.2.2.2.2.2.2.2 hI12.2.2.2.1))
  have hz13 : sz ≤ b13 := by rw [hb13]; exact hI12.1.1
  have kb1_13 := zh_fq (k := 1) (ci := 4) (hq13 b1 (zh_lt hI12.1 fb1_11)) kb1_12
  have kb10_13 := zh_fq (k := 1) (ci := 0) (hq13 b10 (zh_lt hI12.1 hr11)) kb10_12
  refine lv_dup hx hb (eX11_init (55, .dup, 1) (List.mem_of_getElem? (i := 26) rfl)) rfl ?_
  refine zo_callN (As := []) (rest := [.ref b13, .ref b]) (b := b13) hx hb hml hown hts0 (iX9 l D cA ro11 sz H0 b13) ⟨rfl, rfl⟩ ⟨by decide, by decide⟩ ⟨by decide, by decide⟩ (tb_1 144 rfl rfl) (tb_1 6 rfl rfl) (List.mem_of_getElem? (i := 3) rfl) (tb_1 143 rfl rfl) rfl (show yX9_init.cls ≠ "java/lang/invoke/MethodHandle" ∧ yX9_init.cls ≠ "java/lang/invoke/VarHandle" ∧ (parseMethodDescriptor yX9_init.desc).map (fun d => d.parameters.length) = some 0 by decide +kernel) hI13.1 hr13 hz13 hp13 (hKo.ext hI13.2.1) hl.1 (Nat.le_of_ble_eq_true rfl) (eX11_init (56, .invokespecial 44, 3) (List.mem_of_getElem? (i := 27) rfl)) (fun H14 lo14 ro14 he14 hn14 hr14 hh14 hz14 hq14 hE14 => ?_)
  have hI14 := hI13.call hs13 he14 hn14 hh14 hz14 hq14
  have hO14 := hO13.kept (hq14 b (Nat.lt_of_lt_of_le hI13.2.2.2.2.2.2.2 hI13.2.2.2.1) (Nat.ne_of_lt (Nat.lt_of_lt_of_le hI13.2.2.2.2.2.2.2 hs13)))
  have kb1_14 := zh_fq (k := 1) (ci := 4) (hq14 b1 (zh_lt hI13.1 fb1_11) (fun g => by have g9 := fb1_11; rw [g, hr13] at g9; cases g9)) kb1_13
  have kb10_14 := zh_fq (k := 1) (ci := 0) (hq14 b10 (zh_lt hI13.1 hr11) (fun g => by have g9 := hr11; rw [g, hr13] at g9; cases g9)) kb10_13
  have fb1_14 := he14 _ _ fb1_11
  have fb4_14 := he14 _ _ fb4_11
  have fb7_14 := he14 _ _ fb7_11
  have fb10_14 := he14 _ _ hr11
  refine zo_putF (C := RX11) (T := TX11) (N := 9) (ci := 10) (k := 5) (ty := (.object "MomentTexts$Writer")) hx hb hI14 hO14 h2 wiX11 tyX11 tyX11_ok nmX11 hown hin hKn.1 rfl (by decide) (tb_2 65 rfl rfl) rfl rfl (by decide +kernel) rfl rfl (eX11_init (59, .putfield 45, 3) (List.mem_of_getElem? (i := 28) rfl)) (fun H15 lo15 hI15 hO15 hs15 hq15 => ?_)
  have kb1_15 := zh_fq (k := 1) (ci := 4) (hq15 b1 (fun g => by have g9 := fb1_14; rw [g, hI14.2.2.2.2.2.1] at g9; cases g9)) kb1_14
  have kb10_15 := zh_fq (k := 1) (ci := 0) (hq15 b10 (fun g => by have g9 := fb10_14; rw [g, hI14.2.2.2.2.2.1] at g9; cases g9)) kb10_14
  have kb13_15 := zh_fq (k := 1) (ci := 8) (hq15 b13 (fun g => by have g9 := hr14; rw [g, hI14.2.2.2.2.2.1] at g9; cases g9)) hE14
  refine lv_aload_n hx hb (eX11_init (62, .aload_n 0, 1) (List.mem_of_getElem? (i := 29) rfl)) rfl (lv_at hl 0 rfl) ?_
  refine zo_new (C := RX4) (T := TX4) (N := 6) (ci := 3) hx hb hI15 h2 wiX4 tyX4 tyX4_ok hown (tb_1 155 rfl rfl) (tb_1 156 rfl rfl) (tb_1 7 rfl rfl) hKn.1 rfl (by decide) (by decide) (eX11_init (63, .new 49, 3) (List.mem_of_getElem? (i := 30) rfl)) (fun b16 H16 hI16 hr16 hs16 hb16 hp16 hq16 => ?_)
  have hO16 := hO15.kept (hq16 b (Nat.lt_of_lt_of_le hI15.2.2.2.2.2.2.2 hI15.2.2.2.1))
  have hz16 : sz ≤ b16 := by rw [hb16]; exact hI15.1.1
  have kb1_16 := zh_fq (k := 1) (ci := 4) (hq16 b1 (zh_lt hI15.1 fb1_14)) kb1_15
  have kb10_16 := zh_fq (k := 1) (ci := 0) (hq16 b10 (zh_lt hI15.1 fb10_14)) kb10_15
  have kb13_16 := zh_fq (k := 1) (ci := 8) (hq16 b13 (zh_lt hI15.1 hr14)) kb13_15
  refine lv_dup hx hb (eX11_init (66, .dup, 1) (List.mem_of_getElem? (i := 31) rfl)) rfl ?_
  refine lv_aload_n hx hb (eX11_init (67, .aload_n 0, 1) (List.mem_of_getElem? (i := 32) rfl)) rfl (lv_at hl 0 rfl) ?_
  refine zo_get (C := RX11) (T := TX11) (N := 9) (ci := 10) (k := 4) hx hb hO16 h2 wiX11 hown hKn.1 rfl (by decide) (tb_2 64 rfl rfl) (eX11_init (68, .getfield 38, 3) (List.mem_of_getElem? (i := 33) rfl)) ?_
  refine W.eq (g2 := F0 m 71 ls [.ref b10, .ref b16, .ref b16, .ref b]) rfl ?_
  refine lv_aload_n hx hb (eX11_init (71, .aload_n 0, 1) (List.mem_of_getElem? (i := 34) rfl)) rfl (lv_at hl 0 rfl) ?_
  refine zo_get (C := RX11) (T := TX11) (N := 9) (ci := 10) (k := 0) hx hb hO16 h2 wiX11 hown hKn.1 rfl (by decide) (tb_2 60 rfl rfl) (eX11_init (72, .getfield 14, 3) (List.mem_of_getElem? (i := 35) rfl)) ?_
  refine W.eq (g2 := F0 m 75 ls [.ref b1, .ref b10, .ref b16, .ref b16, .ref b]) rfl ?_
  refine zo_call (As := [.ref b10, .ref b1]) (rest := [.ref b16, .ref b]) (b := b16) hx hb hml hown hts0 (iX4 l D cA ro14 sz H0 b16 b10 b1 fb10_14 fb1_14) ⟨rfl, rfl⟩ ⟨by decide, by decide⟩ ⟨by decide, by decide⟩ (tb_1 159 rfl rfl) (tb_1 7 rfl rfl) (tb_1 157 rfl rfl) (tb_1 158 rfl rfl) rfl (show yX4_init.cls ≠ "java/lang/invoke/MethodHandle" ∧ yX4_init.cls ≠ "java/lang/invoke/VarHandle" ∧ (parseMethodDescriptor yX4_init.desc).map (fun d => d.parameters.length) = some 2 by decide +kernel) hI16.1 hr16 hz16 hp16 (hKo.ext hI16.2.1) hl.1 (Nat.le_of_ble_eq_true rfl) (eX11_init (75, .invokespecial 51, 3) (List.mem_of_getElem? (i := 36) rfl)) (fun H17 lo17 ro17 he17 hn17 hr17 hh17 hz17 hq17 hE17 => ?_)
  have hI17 := hI16.call hs16 he17 hn17 hh17 hz17 hq17
  have hO17 := hO16.kept (hq17 b (Nat.lt_of_lt_of_le hI16.2.2.2.2.2.2.2 hI16.2.2.2.1) (Nat.ne_of_lt (Nat.lt_of_lt_of_le hI16.2.2.2.2.2.2.2 hs16)))
  have kb1_17 := zh_fq (k := 1) (ci := 4) (hq17 b1 (zh_lt hI16.1 fb1_14) (fun g => by have g9 := fb1_14; rw [g, hr16] at g9; cases g9)) kb1_16
  have kb10_17 := zh_fq (k := 1) (ci := 0) (hq17 b10 (zh_lt hI16.1 fb10_14) (fun g => by have g9 := fb10_14; rw [g, hr16] at g9; cases g9)) kb10_16
  have kb13_17 := zh_fq (k := 1) (ci := 8) (hq17 b13 (zh_lt hI16.1 hr14) (fun g => by have g9 := hr14; rw [g, hr16] at g9; cases g9)) kb13_16
  have fb1_17 := he17 _ _ fb1_14
  have fb4_17 := he17 _ _ fb4_14
  have fb7_17 := he17 _ _ fb7_14
  have fb10_17 := he17 _ _ fb10_14
  have fb13_17 := he17 _ _ hr14
  refine zo_putF (C := RX11) (T := TX11) (N := 9) (ci := 10) (k := 6) (ty := (.object "MomentTexts$FormReader")) hx hb hI17 hO17 h2 wiX11 tyX11 tyX11_ok nmX11 hown hin hKn.1 rfl (by decide) (tb_2 66 rfl rfl) rfl rfl (by decide +kernel) rfl rfl (eX11_init (78, .putfield 54, 3) (List.mem_of_getElem? (i := 37) rfl)) (fun H18 lo18 hI18 hO18 hs18 hq18 => ?_)
  have kb1_18 := zh_fq (k := 1) (ci := 4) (hq18 b1 (fun g => by have g9 := fb1_17; rw [g, hI17.2.2.2.2.2.1] at g9; cases g9)) kb1_17
  have kb10_18 := zh_fq (k := 1) (ci := 0) (hq18 b10 (fun g => by have g9 := fb10_17; rw [g, hI17.2.2.2.2.2.1] at g9; cases g9)) kb10_17
  have kb13_18 := zh_fq (k := 1) (ci := 8) (hq18 b13 (fun g => by have g9 := fb13_17; rw [g, hI17.2.2.2.2.2.1] at g9; cases g9)) kb13_17
  refine lv_aload_n hx hb (eX11_init (81, .aload_n 0, 1) (List.mem_of_getElem? (i := 38) rfl)) rfl (lv_at hl 0 rfl) ?_
  refine lv_bipush (v := 39) hx hb (eX11_init (82, .bipush 39, 2) (List.mem_of_getElem? (i := 39) rfl)) (by decide) ?_
  refine zo_newa (atype := .long) (N := 39) (ti := 1) (r := 18) (t := (1, (-9223372036854775808), 9223372036854775807)) hx hb hI18 (h2 _ (tb_1 44 rfl rfl)) (zo_cA (ti := 1) (tys := (cA 1, .long)) hKn.1 rfl) rfl (fun _ => ⟨0, rfl, by decide, by decide⟩) (by decide) (by decide) (by decide) (by decide) (eX11_init (84, .newarray .long, 2) (List.mem_of_getElem? (i := 40) rfl)) (fun b19 ro19 H19 hI19 hr19 he19 hq19 hb19 hz19 => ?_)
  have hO19 := hO18.kept (hq19 b (Nat.lt_of_lt_of_le hI18.2.2.2.2.2.2.2 hI18.2.2.2.1))
  have kb1_19 := zh_fq (k := 1) (ci := 4) (hq19 b1 (zh_lt hI18.1 fb1_17)) kb1_18
  have kb10_19 := zh_fq (k := 1) (ci := 0) (hq19 b10 (zh_lt hI18.1 fb10_17)) kb10_18
  have kb13_19 := zh_fq (k := 1) (ci := 8) (hq19 b13 (zh_lt hI18.1 fb13_17)) kb13_18
  have ltb1 : b1 < b19 := by rw [hb19]; exact zh_lt hI18.1 fb1_17
  have ltb10 : b10 < b19 := by rw [hb19]; exact zh_lt hI18.1 fb10_17
  have ltb13 : b13 < b19 := by rw [hb19]; exact zh_lt hI18.1 fb13_17
  have fb1_19 := he19 _ _ fb1_17
  have fb4_19 := he19 _ _ fb4_17
  have fb7_19 := he19 _ _ fb7_17
  have fb10_19 := he19 _ _ fb10_17
  have fb13_19 := he19 _ _ fb13_17
  have fb16_19 := he19 _ _ hr17
  refine zo_putF (C := RX11) (T := TX11) (N := 9) (ci := 10) (k := 7) (ty := (.array .long)) hx hb hI19 hO19 h2 wiX11 tyX11 tyX11_ok nmX11 hown hin hKn.1 rfl (by decide) (tb_2 67 rfl rfl) rfl rfl (by decide +kernel) rfl rfl (eX11_init (86, .putfield 58, 3) (List.mem_of_getElem? (i := 41) rfl)) (fun H20 lo20 hI20 hO20 hs20 hq20 => ?_)
  have kb1_20 := zh_fq (k := 1) (ci := 4) (hq20 b1 (fun g => by have g9 := fb1_19; rw [g, hI19.2.2.2.2.2.1] at g9; cases g9)) kb1_19
  have kb10_20 := zh_fq (k := 1) (ci := 0) (hq20 b10 (fun g => by have g9 := fb10_19; rw [g, hI19.2.2.2.2.2.1] at g9; cases g9)) kb10_19
  have kb13_20 := zh_fq (k := 1) (ci := 8) (hq20 b13 (fun g => by have g9 := fb13_19; rw [g, hI19.2.2.2.2.2.1] at g9; cases g9)) kb13_19
  refine lv_aload_n hx hb (eX11_init (89, .aload_n 0, 1) (List.mem_of_getElem? (i := 42) rfl)) rfl (lv_at hl 0 rfl) ?_
  refine zo_get (C := RX11) (T := TX11) (N := 9) (ci := 10) (k := 7) hx hb hO20 h2 wiX11 hown hKn.1 rfl (by decide) (tb_2 67 rfl rfl) (eX11_init (90, .getfield 58, 3) (List.mem_of_getElem? (i := 43) rfl)) ?_
  refine W.eq (g2 := F0 m 93 ls [.ref b19]) rfl ?_
  refine lv_ldc2 (v := (-9223372036854775808)) hx hb hown (h2 _ (tb_2 56 rfl rfl)) (eX11_init (93, .ldc2_w 62, 3) (List.mem_of_getElem? (i := 44) rfl)) ?_
  refine zo_fill (bf := b19) hx hb hml hown hts0 hI20 hKn hr19 (by rw [hs20, hz19, hb19]) (by rw [hb19]; exact hI18.2.2.2.1) ⟨by decide, by decide⟩ ⟨by decide, by decide⟩ (tb_2 59 rfl rfl) (tb_1 11 rfl rfl) (tb_2 57 rfl rfl) (tb_2 58 rfl rfl) hl.1 (Nat.le_of_ble_eq_true rfl) (eX11_init (96, .invokestatic 64, 3) (List.mem_of_getElem? (i := 45) rfl)) (fun H21 lo21 hI21 hq21 => ?_)
  have hO21 := hO20.kept (hq21 b (by have g1 := hI20.2.2.2.2.2.2.2; have g2 := hI18.2.2.2.1; omega))
  have kb1_21 := zh_fq (k := 1) (ci := 4) (hq21 b1 ltb1) kb1_20
  have kb10_21 := zh_fq (k := 1) (ci := 0) (hq21 b10 ltb10) kb10_20
  have kb13_21 := zh_fq (k := 1) (ci := 8) (hq21 b13 ltb13) kb13_20
  refine lv_aload_n hx hb (eX11_init (99, .aload_n 0, 1) (List.mem_of_getElem? (i := 46) rfl)) rfl (lv_at hl 0 rfl) ?_
  refine lv_bipush (v := 63) hx hb (eX11_init (100, .bipush 63, 2) (List.mem_of_getElem? (i := 47) rfl)) (by decide) ?_
  refine zo_newa (atype := .long) (N := 63) (ti := 1) (r := 19) (t := (1, (-9223372036854775808), 9223372036854775807)) hx hb hI21 (h2 _ (tb_1 44 rfl rfl)) (zo_cA (ti := 1) (tys := (cA 1, .long)) hKn.1 rfl) rfl (fun _ => ⟨0, rfl, by decide, by decide⟩) (by decide) (by decide) (by decide) (by decide) (eX11_init (102, .newarray .long, 2) (List.mem_of_getElem? (i := 48) rfl)) (fun b22 ro22 H22 hI22 hr22 he22 hq22 hb22 hz22 => ?_)
  have hO22 := hO21.kept (hq22 b (Nat.lt_of_lt_of_le hI21.2.2.2.2.2.2.2 hI21.2.2.2.1))
  have kb1_22 := zh_fq (k := 1) (ci := 4) (hq22 b1 (zh_lt hI21.1 fb1_19)) kb1_21
  have kb10_22 := zh_fq (k := 1) (ci := 0) (hq22 b10 (zh_lt hI21.1 fb10_19)) kb10_21
  have kb13_22 := zh_fq (k := 1) (ci := 8) (hq22 b13 (zh_lt hI21.1 fb13_19)) kb13_21
  have ltb1 : b1 < b22 := by rw [hb22]; exact zh_lt hI21.1 fb1_19
  have ltb10 : b10 < b22 := by rw [hb22]; exact zh_lt hI21.1 fb10_19
  have ltb13 : b13 < b22 := by rw [hb22]; exact zh_lt hI21.1 fb13_19
  have fb1_22 := he22 _ _ fb1_19
  have fb4_22 := he22 _ _ fb4_19
  have fb7_22 := he22 _ _ fb7_19
  have fb10_22 := he22 _ _ fb10_19
  have fb13_22 := he22 _ _ fb13_19
  have fb16_22 := he22 _ _ fb16_19
  have fb19_22 := he22 _ _ hr19
  refine zo_putF (C := RX11) (T := TX11) (N := 9) (ci := 10) (k := 8) (ty := (.array .long)) hx hb hI22 hO22 h2 wiX11 tyX11 tyX11_ok nmX11 hown hin hKn.1 rfl (by decide) (tb_2 68 rfl rfl) rfl rfl (by decide +kernel) rfl rfl (eX11_init (104, .putfield 70, 3) (List.mem_of_getElem? (i := 49) rfl)) (fun H23 lo23 hI23 hO23 hs23 hq23 => ?_)
  have kb1_23 := zh_fq (k := 1) (ci := 4) (hq23 b1 (fun g => by have g9 := fb1_22; rw [g, hI22.2.2.2.2.2.1] at g9; cases g9)) kb1_22
  have kb10_23 := zh_fq (k := 1) (ci := 0) (hq23 b10 (fun g => by have g9 := fb10_22; rw [g, hI22.2.2.2.2.2.1] at g9; cases g9)) kb10_22
  have kb13_23 := zh_fq (k := 1) (ci := 8) (hq23 b13 (fun g => by have g9 := fb13_22; rw [g, hI22.2.2.2.2.2.1] at g9; cases g9)) kb13_22
  refine zo_ret (ci := 10) (N := 9) (r := 10) (fs := fsX11) (E := fun ro9 H => zh_f D H b 10 2 = .int 0 ∧ (∃ q : Nat, zh_f D H b 10 0 = .ref q ∧ ro9 q = some 4 ∧ zh_f D H q 4 1 = .int 0) ∧ (∃ q : Nat, zh_f D H b 10 4 = .ref q ∧ ro9 q = some 0 ∧ zh_f D H q 0 1 = .int 0) ∧ (∃ q : Nat, zh_f D H b 10 5 = .ref q ∧ ro9 q = some 8 ∧ zh_f D H q 8 1 = .int 0)) (⟨zo_fO (k := 2) hO23 (by decide), ⟨b1, zo_fO (k := 0) hO23 (by decide), zo_up_ext (r := 10) hI23.2.2.2.2.2.1 _ _ fb1_22, kb1_23⟩, ⟨b10, zo_fO (k := 4) hO23 (by decide), zo_up_ext (r := 10) hI23.2.2.2.2.2.1 _ _ fb10_22, kb10_23⟩, ⟨b13, zo_fO (k := 5) hO23 (by decide), zo_up_ext (r := 10) hI23.2.2.2.2.2.1 _ _ fb13_22, kb13_23⟩⟩) hx hb hr B.notSynchronized hI23 hO23 rfl (fun k t hk => ?_) (eX11_init (107, .return_, 1) (List.mem_of_getElem? (i := 50) rfl))
  match k, hk with
  | 0, hk =>
    cases (show some ((12, 0, 0) : zt_T) = some t from hk)
    exact ⟨by decide, Or.inr ⟨b1, rfl, fb1_22⟩⟩
  | 1, hk =>
    cases (show some ((44, 0, 0) : zt_T) = some t from hk)
    exact ⟨by decide, Or.inr ⟨b4, rfl, fb4_22⟩⟩
  | 2, hk =>
    cases (show some ((0, 0, 8) : zt_T) = some t from hk)
    exact ⟨by decide, ⟨0, rfl, by decide, by decide⟩⟩
  | 3, hk =>
    cases (show some ((14, 0, 0) : zt_T) = some t from hk)
    exact ⟨by decide, Or.inr ⟨b7, rfl, fb7_22⟩⟩
  | 4, hk =>
    cases (show some ((4, 0, 0) : zt_T) = some t from hk)
    exact ⟨by decide, Or.inr ⟨b10, rfl, fb10_22⟩⟩
  | 5, hk =>
    cases (show some ((20, 0, 0) : zt_T) = some t from hk)
    exact ⟨by decide, Or.inr ⟨b13, rfl, fb13_22⟩⟩
  | 6, hk =>
    cases (show some ((10, 0, 0) : zt_T) = some t from hk)
    exact ⟨by decide, Or.inr ⟨b16, rfl, fb16_22⟩⟩
  | 7, hk =>
    cases (show some ((40, 0, 0) : zt_T) = some t from hk)
    exact ⟨by decide, Or.inr ⟨b19, rfl, fb19_22⟩⟩
  | 8, hk =>
    cases (show some ((42, 0, 0) : zt_T) = some t from hk)
    exact ⟨by decide, Or.inr ⟨b22, rfl, hr22⟩⟩
  | k + 9, hk => cases (show (none : Option zt_T) = some t from hk)
def tX12_init : List (Nat × Instr × Nat) := [(0, .aload_n 0, 1), (1, .invokespecial 3, 3), (4, .aload_n 0, 1), (5, .bipush 40, 2), (7, .newarray .long, 2), (9, .putfield 9, 3), (12, .aload_n 0, 1), (13, .bipush 8, 2), (15, .newarray .int, 2), (17, .putfield 15, 3), (20, .aload_n 0, 1), (21, .bipush 8, 2), (23, .newarray .int, 2), (25, .putfield 19, 3), (28, .aload_n 0, 1), (29, .sipush 480, 3), (32, .newarray .long, 2), (34, .putfield 22, 3), (37, .aload_n 0, 1), (38, .sipush 480, 3), (41, .newarray .int, 2), (43, .putfield 25, 3), (46, .aload_n 0, 1), (47, .bipush 8, 2), (49, .newarray .int, 2), (51, .putfield 28, 3), (54, .aload_n 0, 1), (55, .bipush 8, 2), (57, .newarray .int, 2), (59, .putfield 31, 3), (62, .aload_n 0, 1), (63, .bipush 8, 2), (65, .newarray .int, 2), (67, .putfield 34, 3), (70, .aload_n 0, 1), (71, .bipush 80, 2), (73, .newarray .int, 2), (75, .putfield 37, 3), (78, .aload_n 0, 1), (79, .bipush 120, 2), (81, .newarray .byte, 2), (83, .putfield 40, 3), (86, .aload_n 0, 1), (87, .sipush 160, 3), (90, .newarray .byte, 2), (92, .putfield 44, 3), (95, .aload_n 0, 1), (96, .bipush 64, 2), (98, .newarray .int, 2), (100, .putfield 47, 3), (103, .aload_n 0, 1), (104, .bipush 64, 2), (106, .newarray .long, 2), (108, .putfield 50, 3), (111, .aload_n 0, 1), (112, .sipush 128, 3), (115, .newarray .long, 2), (117, .putfield 53, 3), (120, .aload_n 0, 1), (121, .bipush 10, 2), (123, .newarray .int, 2), (125, .putfield 56, 3), (128, .aload_n 0, 1), (129, .bipush 64, 2), (131, .newarray .long, 2), (133, .putfield 59, 3), (136, .aload_n 0, 1), (137, .bipush 16, 2), (139, .newarray .long, 2), (141, .putfield 62, 3), (144, .aload_n 0, 1), (145, .bipush 39, 2), (147, .newarray .long, 2), (149, .putfield 65, 3), (152, .aload_n 0, 1), (153, .ldc2_w 68, 3), (156, .iconst 1, 1), (157, .iconst 1, 1), (158, .invokestatic 70, 3), (161, .putfield 74, 3), (164, .aload_n 0, 1), (165, .ldc2_w 78, 3), (168, .bipush 12, 2), (170, .bipush 31, 2), (172, .invokestatic 70, 3), (175, .putfield 80, 3), (178, .iconst 0, 1), (179, .istore_n 1, 1), (180, .iload_n 1, 1), (181, .bipush 39, 2), (183, .if_icmp .ge 18, 3), (186, .aload_n 0, 1), (187, .getfield 65, 3), (190, .iload_n 1, 1), (191, .ldc2_w 83, 3), (194, .lastore, 1), (195, .iinc 1 1, 3), (198, .goto (-18), 3), (201, .return_, 1)]
set_option maxRecDepth 100000 in
theorem eX12_init : ∀ x ∈ tX12_init, decode cX12_init x.1 = .ok x.2 := by decide +kernel
set_option maxRecDepth 100000 in
set_option maxHeartbeats 4000000 in
theorem iX12 (l : Launch) (D : va_G) (cA : Nat → ClassId) (ro : Nat → Option Nat) (sz : Nat) (H0 : Heap) (b : Nat) : Met l yX12_init (gW yX12_init cX12_init 2 none) { frames := 3, cells := 18, slots := 1785, locals := 80 } (zo_Pc D cA ro sz H0 11 41 (fun k => defaultValue (tyX12 k)) b []) (zo_Qc D cA ro sz H0 11 b (fun _ H => zh_f D H b 11 1 = .int 0 ∧ zh_f D H b 11 3 = .int 0 ∧ zh_f D H b 11 13 = .int 0 ∧ zh_f D H b 11 15 = .int 0)) 18 1785 (zy_fr sz) := by
  refine zy_ofW (cc := cX12_init) (maxL := 2) (ret := none) (by decide +kernel) rfl ?_
  intro p e s m args below meth c s1 B hml hv
  obtain ⟨rfl, hh, hro, hsb, hO0, hKo⟩ := hv
  have hKn := hKo.1
  have hx := B.exec
  have hb := B.bytes
  have hr := B.returns
  have hts0 := atoms_spec (ws := gW yX12_init cX12_init 2 none) B.pre
  have h2 : ∀ w ∈ gT, w.before (Value.ref b :: []).toArray s = true := fun w hw => hts0 w (List.mem_cons_of_mem _ hw)
  have hown : s.vm.findClass RX12 = some m.cls := findClass_of_methodNamed B.named
  have hin : meth.name = "<init>" := (name_of_methodNamed B.named B.method).1
  have hl := lv_entry (Value.ref b :: []) (n := 2) (Nat.le_of_ble_eq_true rfl)
  rw [lg_entry_eq]
  generalize (lg_sl (Value.ref b :: []) ++ List.replicate (2 - (lg_sl (Value.ref b :: [])).length) Slot.unset).toArray = ls at hl ⊢
  have hI0 : zo_I D cA ro sz H0 s.heap b ro s.heap [] := ⟨hh, fun _ _ h => h, fun q h => absurd rfl h, Nat.le_refl _, fun _ _ _ => rfl, hro, hsb, (by obtain ⟨cell, q1, -⟩ := hO0; exact (Array.getElem?_eq_some_iff.mp q1).1)⟩
  refine lv_aload_n hx hb (eX12_init (0, .aload_n 0, 1) (List.mem_of_getElem? (i := 0) rfl)) rfl (lv_at hl 0 rfl) ?_
  refine W.objInit hx hb hown (h2 _ (tb_6 131 rfl rfl)) (h2 _ (tb_1 29 rfl rfl)) (h2 _ (tb_1 30 rfl rfl)) rfl (by rw [hml]; exact hl.1) rfl (eX12_init (1, .invokespecial 3, 3) (List.mem_of_getElem? (i := 1) rfl)) (Nat.le_of_ble_eq_true rfl) (Nat.le_of_ble_eq_true rfl) ?_
  refine W.eq (g2 := F0 m 4 ls []) rfl ?_
  refine lv_aload_n hx hb (eX12_init (4, .aload_n 0, 1) (List.mem_of_getElem? (i := 2) rfl)) rfl (lv_at hl 0 rfl) ?_
  refine lv_bipush (v := 40) hx hb (eX12_init (5, .bipush 40, 2) (List.mem_of_getElem? (i := 3) rfl)) (by decide) ?_
  refine zo_newa (atype := .long) (N := 40) (ti := 1) (r := 21) (t := (1, (-9223372036854775808), 9223372036854775807)) hx hb hI0 (h2 _ (tb_1 44 rfl rfl)) (zo_cA (ti := 1) (tys := (cA 1, .long)) hKn.1 rfl) rfl (fun _ => ⟨0, rfl, by decide, by decide⟩) (by decide) (by decide) (by decide) (by decide) (eX12_init (7, .newarray .long, 2) (List.mem_of_getElem? (i := 4) rfl)) (fun b1 ro1 H1 hI1 hr1 he1 hq1 hb1 hz1 => ?_)
  have hO1 := hO0.kept (hq1 b (Nat.lt_of_lt_of_le hI0.2.2.2.2.2.2.2 hI0.2.2.2.1))
  refine zo_putF (C := RX12) (T := TX12) (N := 41) (ci := 11) (k := 2) (ty := (.array .long)) hx hb hI1 hO1 h2 wiX12 tyX12 tyX12_ok nmX12 hown hin hKn.1 rfl (by decide) (tb_6 152 rfl rfl) rfl rfl (by decide +kernel) rfl rfl (eX12_init (9, .putfield 9, 3) (List.mem_of_getElem? (i := 5) rfl)) (fun H2 lo2 hI2 hO2 hs2 hq2 => ?_)
  refine lv_aload_n hx hb (eX12_init (12, .aload_n 0, 1) (List.mem_of_getElem? (i := 6) rfl)) rfl (lv_at hl 0 rfl) ?_
  refine lv_bipush (v := 8) hx hb (eX12_init (13, .bipush 8, 2) (List.mem_of_getElem? (i := 7) rfl)) (by decide) ?_
  refine zo_newa (atype := .int) (N := 8) (ti := 0) (r := 22) (t := (0, (-1439), 1439)) hx hb hI2 (h2 _ (tb_3 200 rfl rfl)) (zo_cA (ti := 0) (tys := (cA 0, .int)) hKn.1 rfl) rfl (fun _ => ⟨0, rfl, by decide, by decide⟩) (by decide) (by decide) (by decide) (by decide) (eX12_init (15, .newarray .int, 2) (List.mem_of_getElem? (i := 8) rfl)) (fun b3 ro3 H3 hI3 hr3 he3 hq3 hb3 hz3 => ?_)
  have hO3 := hO2.kept (hq3 b (Nat.lt_of_lt_of_le hI2.2.2.2.2.2.2.2 hI2.2.2.2.1))
  have fb1_3 := he3 _ _ hr1
  refine zo_putF (C := RX12) (T := TX12) (N := 41) (ci := 11) (k := 4) (ty := (.array .int)) hx hb hI3 hO3 h2 wiX12 tyX12 tyX12_ok nmX12 hown hin hKn.1 rfl (by decide) (tb_6 154 rfl rfl) rfl rfl (by decide +kernel) rfl rfl (eX12_init (17, .putfield 15, 3) (List.mem_of_getElem? (i := 9) rfl)) (fun H4 lo4 hI4 hO4 hs4 hq4 => ?_)
  refine lv_aload_n hx hb (eX12_init (20, .aload_n 0, 1) (List.mem_of_getElem? (i := 10) rfl)) rfl (lv_at hl 0 rfl) ?_
  refine lv_bipush (v := 8) hx hb (eX12_init (21, .bipush 8, 2) (List.mem_of_getElem? (i := 11) rfl)) (by decide) ?_
  refine zo_newa (atype := .int) (N := 8) (ti := 0) (r := 23) (t := (0, 0, 60)) hx hb hI4 (h2 _ (tb_3 200 rfl rfl)) (zo_cA (ti := 0) (tys := (cA 0, .int)) hKn.1 rfl) rfl (fun _ => ⟨0, rfl, by decide, by decide⟩) (by decide) (by decide) (by decide) (by decide) (eX12_init (23, .newarray .int, 2) (List.mem_of_getElem? (i := 12) rfl)) (fun b5 ro5 H5 hI5 hr5 he5 hq5 hb5 hz5 => ?_)
  have hO5 := hO4.kept (hq5 b (Nat.lt_of_lt_of_le hI4.2.2.2.2.2.2.2 hI4.2.2.2.1))
  have fb1_5 := he5 _ _ fb1_3
  have fb3_5 := he5 _ _ hr3
  refine zo_putF (C := RX12) (T := TX12) (N := 41) (ci := 11) (k := 5) (ty := (.array .int)) hx hb hI5 hO5 h2 wiX12 tyX12 tyX12_ok nmX12 hown hin hKn.1 rfl (by decide) (tb_6 155 rfl rfl) rfl rfl (by decide +kernel) rfl rfl (eX12_init (25, .putfield 19, 3) (List.mem_of_getElem? (i := 13) rfl)) (fun H6 lo6 hI6 hO6 hs6 hq6 => ?_)
  refine lv_aload_n hx hb (eX12_init (28, .aload_n 0, 1) (List.mem_of_getElem? (i := 14) rfl)) rfl (lv_at hl 0 rfl) ?_
  refine lv_sipush (v := 480) hx hb (eX12_init (29, .sipush 480, 3) (List.mem_of_getElem? (i := 15) rfl)) (by decide) ?_
  refine zo_newa (atype := .long) (N := 480) (ti := 1) (r := 24) (t := (1, (-100000000000000), 100000000000000)) hx hb hI6 (h2 _ (tb_1 44 rfl rfl)) (zo_cA (ti := 1) (tys := (cA 1, .long)) hKn.1 rfl) rfl (fun _ => ⟨0, rfl, by decide, by decide⟩) (by decide) (by decide) (by decide) (by decide) (eX12_init (32, .newarray .long, 2) (List.mem_of_getElem? (i := 16) rfl)) (fun b7 ro7 H7 hI7 hr7 he7 hq7 hb7 hz7 => ?_)
  have hO7 := hO6.kept (hq7 b (Nat.lt_of_lt_of_le hI6.2.2.2.2.2.2.2 hI6.2.2.2.1))
  have fb1_7 := he7 _ _ fb1_5
  have fb3_7 := he7 _ _ fb3_5
  have fb5_7 := he7 _ _ hr5
  refine zo_putF (C := RX12) (T := TX12) (N := 41) (ci := 11) (k := 6) (ty := (.array .long)) hx hb hI7 hO7 h2 wiX12 tyX12 tyX12_ok nmX12 hown hin hKn.1 rfl (by decide) (tb_6 156 rfl rfl) rfl rfl (by decide +kernel) rfl rfl (eX12_init (34, .putfield 22, 3) (List.mem_of_getElem? (i := 17) rfl)) (fun H8 lo8 hI8 hO8 hs8 hq8 => ?_)
  refine lv_aload_n hx hb (eX12_init (37, .aload_n 0, 1) (List.mem_of_getElem? (i := 18) rfl)) rfl (lv_at hl 0 rfl) ?_
  refine lv_sipush (v := 480) hx hb (eX12_init (38, .sipush 480, 3) (List.mem_of_getElem? (i := 19) rfl)) (by decide) ?_
  refine zo_newa (atype := .int) (N := 480) (ti := 0) (r := 25) (t := (0, (-1439), 1439)) hx hb hI8 (h2 _ (tb_3 200 rfl rfl)) (zo_cA (ti := 0) (tys := (cA 0, .int)) hKn.1 rfl) rfl (fun _ => ⟨0, rfl, by decide, by decide⟩) (by decide) (by decide) (by decide) (by decide) (eX12_init (41, .newarray .int, 2) (List.mem_of_getElem? (i := 20) rfl)) (fun b9 ro9 H9 hI9 hr9 he9 hq9 hb9 hz9 => ?_)
  have hO9 := hO8.kept (hq9 b (Nat.lt_of_lt_of_le hI8.2.2.2.2.2.2.2 hI8.2.2.2.1))
  have fb1_9 := he9 _ _ fb1_7
  have fb3_9 := he9 _ _ fb3_7
  have fb5_9 := he9 _ _ fb5_7
  have fb7_9 := he9 _ _ hr7
  refine zo_putF (C := RX12) (T := TX12) (N := 41) (ci := 11) (k := 7) (ty := (.array .int)) hx hb hI9 hO9 h2 wiX12 tyX12 tyX12_ok nmX12 hown hin hKn.1 rfl (by decide) (tb_6 157 rfl rfl) rfl rfl (by decide +kernel) rfl rfl (eX12_init (43, .putfield 25, 3) (List.mem_of_getElem? (i := 21) rfl)) (fun H10 lo10 hI10 hO10 hs10 hq10 => ?_)
  refine lv_aload_n hx hb (eX12_init (46, .aload_n 0, 1) (List.mem_of_getElem? (i := 22) rfl)) rfl (lv_at hl 0 rfl) ?_
  refine lv_bipush (v := 8) hx hb (eX12_init (47, .bipush 8, 2) (List.mem_of_getElem? (i := 23) rfl)) (by decide) ?_
  refine zo_newa (atype := .int) (N := 8) (ti := 0) (r := 26) (t := (0, 0, 2)) hx hb hI10 (h2 _ (tb_3 200 rfl rfl)) (zo_cA (ti := 0) (tys := (cA 0, .int)) hKn.1 rfl) rfl (fun _ => ⟨0, rfl, by decide, by decide⟩) (by decide) (by decide) (by decide) (by decide) (eX12_init (49, .newarray .int, 2) (List.mem_of_getElem? (i := 24) rfl)) (fun b11 ro11 H11 hI11 hr11 he11 hq11 hb11 hz11 => ?_)
  have hO11 := hO10.kept (hq11 b (Nat.lt_of_lt_of_le hI10.2.2.2.2.2.2.2 hI10.2.2.2.1))
  have fb1_11 := he11 _ _ fb1_9
  have fb3_11 := he11 _ _ fb3_9
  have fb5_11 := he11 _ _ fb5_9
  have fb7_11 := he11 _ _ fb7_9
  have fb9_11 := he11 _ _ hr9
  refine zo_putF (C := RX12) (T := TX12) (N := 41) (ci := 11) (k := 8) (ty := (.array .int)) hx hb hI11 hO11 h2 wiX12 tyX12 tyX12_ok nmX12 hown hin hKn.1 rfl (by decide) (tb_6 158 rfl rfl) rfl rfl (by decide +kernel) rfl rfl (eX12_init (51, .putfield 28, 3) (List.mem_of_getElem? (i := 25) rfl)) (fun H12 lo12 hI12 hO12 hs12 hq12 => ?_)
  refine lv_aload_n hx hb (eX12_init (54, .aload_n 0, 1) (List.mem_of_getElem? (i := 26) rfl)) rfl (lv_at hl 0 rfl) ?_
  refine lv_bipush (v := 8) hx hb (eX12_init (55, .bipush 8, 2) (List.mem_of_getElem? (i := 27) rfl)) (by decide) ?_
  refine zo_newa (atype := .int) (N := 8) (ti := 0) (r := 27) (t := (0, (-1000000), 1000000)) hx hb hI12 (h2 _ (tb_3 200 rfl rfl)) (zo_cA (ti := 0) (tys := (cA 0, .int)) hKn.1 rfl) rfl (fun _ => ⟨0, rfl, by decide, by decide⟩) (by decide) (by decide) (by decide) (by decide) (eX12_init (57, .newarray .int, 2) (List.mem_of_getElem? (i := 28) rfl)) (fun b13 ro13 H13 hI13 hr13 he13 hq13 hb13 hz13 => ?_)
  have hO13 := hO12.kept (hq13 b (Nat.lt_of_lt_of_le hI12.2.2.2.2.2.2.2 hI12.2.2.2.1))
  have fb1_13 := he13 _ _ fb1_11
  have fb3_13 := he13 _ _ fb3_11
  have fb5_13 := he13 _ _ fb5_11
  have fb7_13 := he13 _ _ fb7_11
  have fb9_13 := he13 _ _ fb9_11
  have fb11_13 := he13 _ _ hr11
  refine zo_putF (C := RX12) (T := TX12) (N := 41) (ci := 11) (k := 9) (ty := (.array .int)) hx hb hI13 hO13 h2 wiX12 tyX12 tyX12_ok nmX12 hown hin hKn.1 rfl (by decide) (tb_6 159 rfl rfl) rfl rfl (by decide +kernel) rfl rfl (eX12_init (59, .putfield 31, 3) (List.mem_of_getElem? (i := 29) rfl)) (fun H14 lo14 hI14 hO14 hs14 hq14 => ?_)
  refine lv_aload_n hx hb (eX12_init (62, .aload_n 0, 1) (List.mem_of_getElem? (i := 30) rfl)) rfl (lv_at hl 0 rfl) ?_
  refine lv_bipush (v := 8) hx hb (eX12_init (63, .bipush 8, 2) (List.mem_of_getElem? (i := 31) rfl)) (by decide) ?_
  refine zo_newa (atype := .int) (N := 8) (ti := 0) (r := 28) (t := (0, (-1000000), 1000000)) hx hb hI14 (h2 _ (tb_3 200 rfl rfl)) (zo_cA (ti := 0) (tys := (cA 0, .int)) hKn.1 rfl) rfl (fun _ => ⟨0, rfl, by decide, by decide⟩) (by decide) (by decide) (by decide) (by decide) (eX12_init (65, .newarray .int, 2) (List.mem_of_getElem? (i := 32) rfl)) (fun b15 ro15 H15 hI15 hr15 he15 hq15 hb15 hz15 => ?_)
  have hO15 := hO14.kept (hq15 b (Nat.lt_of_lt_of_le hI14.2.2.2.2.2.2.2 hI14.2.2.2.1))
  have fb1_15 := he15 _ _ fb1_13
  have fb3_15 := he15 _ _ fb3_13
  have fb5_15 := he15 _ _ fb5_13
  have fb7_15 := he15 _ _ fb7_13
  have fb9_15 := he15 _ _ fb9_13
  have fb11_15 := he15 _ _ fb11_13
  have fb13_15 := he15 _ _ hr13
  refine zo_putF (C := RX12) (T := TX12) (N := 41) (ci := 11) (k := 10) (ty := (.array .int)) hx hb hI15 hO15 h2 wiX12 tyX12 tyX12_ok nmX12 hown hin hKn.1 rfl (by decide) (tb_6 160 rfl rfl) rfl rfl (by decide +kernel) rfl rfl (eX12_init (67, .putfield 34, 3) (List.mem_of_getElem? (i := 33) rfl)) (fun H16 lo16 hI16 hO16 hs16 hq16 => ?_)
  refine lv_aload_n hx hb (eX12_init (70, .aload_n 0, 1) (List.mem_of_getElem? (i := 34) rfl)) rfl (lv_at hl 0 rfl) ?_
  refine lv_bipush (v := 80) hx hb (eX12_init (71, .bipush 80, 2) (List.mem_of_getElem? (i := 35) rfl)) (by decide) ?_
  refine zo_newa (atype := .int) (N := 80) (ti := 0) (r := 29) (t := (0, (-1000000), 1000000)) hx hb hI16 (h2 _ (tb_3 200 rfl rfl)) (zo_cA (ti := 0) (tys := (cA 0, .int)) hKn.1 rfl) rfl (fun _ => ⟨0, rfl, by decide, by decide⟩) (by decide) (by decide) (by decide) (by decide) (eX12_init (73, .newarray .int, 2) (List.mem_of_getElem? (i := 36) rfl)) (fun b17 ro17 H17 hI17 hr17 he17 hq17 hb17 hz17 => ?_)
  have hO17 := hO16.kept (hq17 b (Nat.lt_of_lt_of_le hI16.2.2.2.2.2.2.2 hI16.2.2.2.1))
  have fb1_17 := he17 _ _ fb1_15
  have fb3_17 := he17 _ _ fb3_15
  have fb5_17 := he17 _ _ fb5_15
  have fb7_17 := he17 _ _ fb7_15
  have fb9_17 := he17 _ _ fb9_15
  have fb11_17 := he17 _ _ fb11_15
  have fb13_17 := he17 _ _ fb13_15
  have fb15_17 := he17 _ _ hr15
  refine zo_putF (C := RX12) (T := TX12) (N := 41) (ci := 11) (k := 11) (ty := (.array .int)) hx hb hI17 hO17 h2 wiX12 tyX12 tyX12_ok nmX12 hown hin hKn.1 rfl (by decide) (tb_6 161 rfl rfl) rfl rfl (by decide +kernel) rfl rfl (eX12_init (75, .putfield 37, 3) (List.mem_of_getElem? (i := 37) rfl)) (fun H18 lo18 hI18 hO18 hs18 hq18 => ?_)
  refine lv_aload_n hx hb (eX12_init (78, .aload_n 0, 1) (List.mem_of_getElem? (i := 38) rfl)) rfl (lv_at hl 0 rfl) ?_
  refine lv_bipush (v := 120) hx hb (eX12_init (79, .bipush 120, 2) (List.mem_of_getElem? (i := 39) rfl)) (by decide) ?_
  refine zo_newa (atype := .byte) (N := 120) (ti := 2) (r := 30) (t := (0, (-128), 127)) hx hb hI18 (h2 _ (tb_1 139 rfl rfl)) (zo_cA (ti := 2) (tys := (cA 2, .byte)) hKn.1 rfl) rfl (fun _ => ⟨0, rfl, by decide, by decide⟩) (by decide) (by decide) (by decide) (by decide) (eX12_init (81, .newarray .byte, 2) (List.mem_of_getElem? (i := 40) rfl)) (fun b19 ro19 H19 hI19 hr19 he19 hq19 hb19 hz19 => ?_)
  have hO19 := hO18.kept (hq19 b (Nat.lt_of_lt_of_le hI18.2.2.2.2.2.2.2 hI18.2.2.2.1))
  have fb1_19 := he19 _ _ fb1_17
  have fb3_19 := he19 _ _ fb3_17
  have fb5_19 := he19 _ _ fb5_17
  have fb7_19 := he19 _ _ fb7_17
  have fb9_19 := he19 _ _ fb9_17
  have fb11_19 := he19 _ _ fb11_17
  have fb13_19 := he19 _ _ fb13_17
  have fb15_19 := he19 _ _ fb15_17
  have fb17_19 := he19 _ _ hr17
  refine zo_putF (C := RX12) (T := TX12) (N := 41) (ci := 11) (k := 12) (ty := (.array .byte)) hx hb hI19 hO19 h2 wiX12 tyX12 tyX12_ok nmX12 hown hin hKn.1 rfl (by decide) (tb_6 162 rfl rfl) rfl rfl (by decide +kernel) rfl rfl (eX12_init (83, .putfield 40, 3) (List.mem_of_getElem? (i := 41) rfl)) (fun H20 lo20 hI20 hO20 hs20 hq20 => ?_)
  refine lv_aload_n hx hb (eX12_init (86, .aload_n 0, 1) (List.mem_of_getElem? (i := 42) rfl)) rfl (lv_at hl 0 rfl) ?_
  refine lv_sipush (v := 160) hx hb (eX12_init (87, .sipush 160, 3) (List.mem_of_getElem? (i := 43) rfl)) (by decide) ?_
  refine zo_newa (atype := .byte) (N := 160) (ti := 2) (r := 31) (t := (0, (-128), 127)) hx hb hI20 (h2 _ (tb_1 139 rfl rfl)) (zo_cA (ti := 2) (tys := (cA 2, .byte)) hKn.1 rfl) rfl (fun _ => ⟨0, rfl, by decide, by decide⟩) (by decide) (by decide) (by decide) (by decide) (eX12_init (90, .newarray .byte, 2) (List.mem_of_getElem? (i := 44) rfl)) (fun b21 ro21 H21 hI21 hr21 he21 hq21 hb21 hz21 => ?_)
  have hO21 := hO20.kept (hq21 b (Nat.lt_of_lt_of_le hI20.2.2.2.2.2.2.2 hI20.2.2.2.1))
  have fb1_21 := he21 _ _ fb1_19
  have fb3_21 := he21 _ _ fb3_19
  have fb5_21 := he21 _ _ fb5_19
  have fb7_21 := he21 _ _ fb7_19
  have fb9_21 := he21 _ _ fb9_19
  have fb11_21 := he21 _ _ fb11_19
  have fb13_21 := he21 _ _ fb13_19
  have fb15_21 := he21 _ _ fb15_19
  have fb17_21 := he21 _ _ fb17_19
  have fb19_21 := he21 _ _ hr19
  refine zo_putF (C := RX12) (T := TX12) (N := 41) (ci := 11) (k := 14) (ty := (.array .byte)) hx hb hI21 hO21 h2 wiX12 tyX12 tyX12_ok nmX12 hown hin hKn.1 rfl (by decide) (tb_6 164 rfl rfl) rfl rfl (by decide +kernel) rfl rfl (eX12_init (92, .putfield 44, 3) (List.mem_of_getElem? (i := 45) rfl)) (fun H22 lo22 hI22 hO22 hs22 hq22 => ?_)
  refine lv_aload_n hx hb (eX12_init (95, .aload_n 0, 1) (List.mem_of_getElem? (i := 46) rfl)) rfl (lv_at hl 0 rfl) ?_
  refine lv_bipush (v := 64) hx hb (eX12_init (96, .bipush 64, 2) (List.mem_of_getElem? (i := 47) rfl)) (by decide) ?_
  refine zo_newa (atype := .int) (N := 64) (ti := 0) (r := 32) (t := (0, (-1000000), 1000000)) hx hb hI22 (h2 _ (tb_3 200 rfl rfl)) (zo_cA (ti := 0) (tys := (cA 0, .int)) hKn.1 rfl) rfl (fun _ => ⟨0, rfl, by decide, by decide⟩) (by decide) (by decide) (by decide) (by decide) (eX12_init (98, .newarray .int, 2) (List.mem_of_getElem? (i := 48) rfl)) (fun b23 ro23 H23 hI23 hr23 he23 hq23 hb23 hz23 => ?_)
  have hO23 := hO22.kept (hq23 b (Nat.lt_of_lt_of_le hI22.2.2.2.2.2.2.2 hI22.2.2.2.1))
  have fb1_23 := he23 _ _ fb1_21
  have fb3_23 := he23 _ _ fb3_21
  have fb5_23 := he23 _ _ fb5_21
  have fb7_23 := he23 _ _ fb7_21
  have fb9_23 := he23 _ _ fb9_21
  have fb11_23 := he23 _ _ fb11_21
  have fb13_23 := he23 _ _ fb13_21
  have fb15_23 := he23 _ _ fb15_21
  have fb17_23 := he23 _ _ fb17_21
  have fb19_23 := he23 _ _ fb19_21
  have fb21_23 := he23 _ _ hr21
  refine zo_putF (C := RX12) (T := TX12) (N := 41) (ci := 11) (k := 23) (ty := (.array .int)) hx hb hI23 hO23 h2 wiX12 tyX12 tyX12_ok nmX12 hown hin hKn.1 rfl (by decide) (tb_6 173 rfl rfl) rfl rfl (by decide +kernel) rfl rfl (eX12_init (100, .putfield 47, 3) (List.mem_of_getElem? (i := 49) rfl)) (fun H24 lo24 hI24 hO24 hs24 hq24 => ?_)
  refine lv_aload_n hx hb (eX12_init (103, .aload_n 0, 1) (List.mem_of_getElem? (i := 50) rfl)) rfl (lv_at hl 0 rfl) ?_
  refine lv_bipush (v := 64) hx hb (eX12_init (104, .bipush 64, 2) (List.mem_of_getElem? (i := 51) rfl)) (by decide) ?_
  refine zo_newa (atype := .long) (N := 64) (ti := 1) (r := 33) (t := (1, (-100000000000000), 100000000000000)) hx hb hI24 (h2 _ (tb_1 44 rfl rfl)) (zo_cA (ti := 1) (tys := (cA 1, .long)) hKn.1 rfl) rfl (fun _ => ⟨0, rfl, by decide, by decide⟩) (by decide) (by decide) (by decide) (by decide) (eX12_init (106, .newarray .long, 2) (List.mem_of_getElem? (i := 52) rfl)) (fun b25 ro25 H25 hI25 hr25 he25 hq25 hb25 hz25 => ?_)
  have hO25 := hO24.kept (hq25 b (Nat.lt_of_lt_of_le hI24.2.2.2.2.2.2.2 hI24.2.2.2.1))
  have fb1_25 := he25 _ _ fb1_23
  have fb3_25 := he25 _ _ fb3_23
  have fb5_25 := he25 _ _ fb5_23
  have fb7_25 := he25 _ _ fb7_23
  have fb9_25 := he25 _ _ fb9_23
  have fb11_25 := he25 _ _ fb11_23
  have fb13_25 := he25 _ _ fb13_23
  have fb15_25 := he25 _ _ fb15_23
  have fb17_25 := he25 _ _ fb17_23
  have fb19_25 := he25 _ _ fb19_23
  have fb21_25 := he25 _ _ fb21_23
  have fb23_25 := he25 _ _ hr23
  refine zo_putF (C := RX12) (T := TX12) (N := 41) (ci := 11) (k := 25) (ty := (.array .long)) hx hb hI25 hO25 h2 wiX12 tyX12 tyX12_ok nmX12 hown hin hKn.1 rfl (by decide) (tb_6 175 rfl rfl) rfl rfl (by decide +kernel) rfl rfl (eX12_init (108, .putfield 50, 3) (List.mem_of_getElem? (i := 53) rfl)) (fun H26 lo26 hI26 hO26 hs26 hq26 => ?_)
  refine lv_aload_n hx hb (eX12_init (111, .aload_n 0, 1) (List.mem_of_getElem? (i := 54) rfl)) rfl (lv_at hl 0 rfl) ?_
  refine lv_sipush (v := 128) hx hb (eX12_init (112, .sipush 128, 3) (List.mem_of_getElem? (i := 55) rfl)) (by decide) ?_
  refine zo_newa (atype := .long) (N := 128) (ti := 1) (r := 34) (t := (1, (-100000000000000), 100000000000000)) hx hb hI26 (h2 _ (tb_1 44 rfl rfl)) (zo_cA (ti := 1) (tys := (cA 1, .long)) hKn.1 rfl) rfl (fun _ => ⟨0, rfl, by decide, by decide⟩) (by decide) (by decide) (by decide) (by decide) (eX12_init (115, .newarray .long, 2) (List.mem_of_getElem? (i := 56) rfl)) (fun b27 ro27 H27 hI27 hr27 he27 hq27 hb27 hz27 => ?_)
  have hO27 := hO26.kept (hq27 b (Nat.lt_of_lt_of_le hI26.2.2.2.2.2.2.2 hI26.2.2.2.1))
  have fb1_27 := he27 _ _ fb1_25
  have fb3_27 := he27 _ _ fb3_25
  have fb5_27 := he27 _ _ fb5_25
  have fb7_27 := he27 _ _ fb7_25
  have fb9_27 := he27 _ _ fb9_25
  have fb11_27 := he27 _ _ fb11_25
  have fb13_27 := he27 _ _ fb13_25
  have fb15_27 := he27 _ _ fb15_25
  have fb17_27 := he27 _ _ fb17_25
  have fb19_27 := he27 _ _ fb19_25
  have fb21_27 := he27 _ _ fb21_25
  have fb23_27 := he27 _ _ fb23_25
  have fb25_27 := he27 _ _ hr25
  refine zo_putF (C := RX12) (T := TX12) (N := 41) (ci := 11) (k := 26) (ty := (.array .long)) hx hb hI27 hO27 h2 wiX12 tyX12 tyX12_ok nmX12 hown hin hKn.1 rfl (by decide) (tb_6 176 rfl rfl) rfl rfl (by decide +kernel) rfl rfl (eX12_init (117, .putfield 53, 3) (List.mem_of_getElem? (i := 57) rfl)) (fun H28 lo28 hI28 hO28 hs28 hq28 => ?_)
  refine lv_aload_n hx hb (eX12_init (120, .aload_n 0, 1) (List.mem_of_getElem? (i := 58) rfl)) rfl (lv_at hl 0 rfl) ?_
  refine lv_bipush (v := 10) hx hb (eX12_init (121, .bipush 10, 2) (List.mem_of_getElem? (i := 59) rfl)) (by decide) ?_
  refine zo_newa (atype := .int) (N := 10) (ti := 0) (r := 35) (t := (0, (-1000000), 1000000)) hx hb hI28 (h2 _ (tb_3 200 rfl rfl)) (zo_cA (ti := 0) (tys := (cA 0, .int)) hKn.1 rfl) rfl (fun _ => ⟨0, rfl, by decide, by decide⟩) (by decide) (by decide) (by decide) (by decide) (eX12_init (123, .newarray .int, 2) (List.mem_of_getElem? (i := 60) rfl)) (fun b29 ro29 H29 hI29 hr29 he29 hq29 hb29 hz29 => ?_)
  have hO29 := hO28.kept (hq29 b (Nat.lt_of_lt_of_le hI28.2.2.2.2.2.2.2 hI28.2.2.2.1))
  have fb1_29 := he29 _ _ fb1_27
  have fb3_29 := he29 _ _ fb3_27
  have fb5_29 := he29 _ _ fb5_27
  have fb7_29 := he29 _ _ fb7_27
  have fb9_29 := he29 _ _ fb9_27
  have fb11_29 := he29 _ _ fb11_27
  have fb13_29 := he29 _ _ fb13_27
  have fb15_29 := he29 _ _ fb15_27
  have fb17_29 := he29 _ _ fb17_27
  have fb19_29 := he29 _ _ fb19_27
  have fb21_29 := he29 _ _ fb21_27
  have fb23_29 := he29 _ _ fb23_27
  have fb25_29 := he29 _ _ fb25_27
  have fb27_29 := he29 _ _ hr27
  refine zo_putF (C := RX12) (T := TX12) (N := 41) (ci := 11) (k := 32) (ty := (.array .int)) hx hb hI29 hO29 h2 wiX12 tyX12 tyX12_ok nmX12 hown hin hKn.1 rfl (by decide) (tb_6 182 rfl rfl) rfl rfl (by decide +kernel) rfl rfl (eX12_init (125, .putfield 56, 3) (List.mem_of_getElem? (i := 61) rfl)) (fun H30 lo30 hI30 hO30 hs30 hq30 => ?_)
  refine lv_aload_n hx hb (eX12_init (128, .aload_n 0, 1) (List.mem_of_getElem? (i := 62) rfl)) rfl (lv_at hl 0 rfl) ?_
  refine lv_bipush (v := 64) hx hb (eX12_init (129, .bipush 64, 2) (List.mem_of_getElem? (i := 63) rfl)) (by decide) ?_
  refine zo_newa (atype := .long) (N := 64) (ti := 1) (r := 36) (t := (1, (-9223372036854775808), 9223372036854775807)) hx hb hI30 (h2 _ (tb_1 44 rfl rfl)) (zo_cA (ti := 1) (tys := (cA 1, .long)) hKn.1 rfl) rfl (fun _ => ⟨0, rfl, by decide, by decide⟩) (by decide) (by decide) (by decide) (by decide) (eX12_init (131, .newarray .long, 2) (List.mem_of_getElem? (i := 64) rfl)) (fun b31 ro31 H31 hI31 hr31 he31 hq31 hb31 hz31 => ?_)
  have hO31 := hO30.kept (hq31 b (Nat.lt_of_lt_of_le hI30.2.2.2.2.2.2.2 hI30.2.2.2.1))
  have fb1_31 := he31 _ _ fb1_29
  have fb3_31 := he31 _ _ fb3_29
  have fb5_31 := he31 _ _ fb5_29
  have fb7_31 := he31 _ _ fb7_29
  have fb9_31 := he31 _ _ fb9_29
  have fb11_31 := he31 _ _ fb11_29
  have fb13_31 := he31 _ _ fb13_29
  have fb15_31 := he31 _ _ fb15_29
  have fb17_31 := he31 _ _ fb17_29
  have fb19_31 := he31 _ _ fb19_29
  have fb21_31 := he31 _ _ fb21_29
  have fb23_31 := he31 _ _ fb23_29
  have fb25_31 := he31 _ _ fb25_29
  have fb27_31 := he31 _ _ fb27_29
  have fb29_31 := he31 _ _ hr29
  refine zo_putF (C := RX12) (T := TX12) (N := 41) (ci := 11) (k := 34) (ty := (.array .long)) hx hb hI31 hO31 h2 wiX12 tyX12 tyX12_ok nmX12 hown hin hKn.1 rfl (by decide) (tb_6 184 rfl rfl) rfl rfl (by decide +kernel) rfl rfl (eX12_init (133, .putfield 59, 3) (List.mem_of_getElem? (i := 65) rfl)) (fun H32 lo32 hI32 hO32 hs32 hq32 => ?_)
  refine lv_aload_n hx hb (eX12_init (136, .aload_n 0, 1) (List.mem_of_getElem? (i := 66) rfl)) rfl (lv_at hl 0 rfl) ?_
  refine lv_bipush (v := 16) hx hb (eX12_init (137, .bipush 16, 2) (List.mem_of_getElem? (i := 67) rfl)) (by decide) ?_
  refine zo_newa (atype := .long) (N := 16) (ti := 1) (r := 37) (t := (1, (-9223372036854775808), 9223372036854775807)) hx hb hI32 (h2 _ (tb_1 44 rfl rfl)) (zo_cA (ti := 1) (tys := (cA 1, .long)) hKn.1 rfl) rfl (fun _ => ⟨0, rfl, by decide, by decide⟩) (by decide) (by decide) (by decide) (by decide) (eX12_init (139, .newarray .long, 2) (List.mem_of_getElem? (i := 68) rfl)) (fun b33 ro33 H33 hI33 hr33 he33 hq33 hb33 hz33 => ?_)
  have hO33 := hO32.kept (hq33 b (Nat.lt_of_lt_of_le hI32.2.2.2.2.2.2.2 hI32.2.2.2.1))
  have fb1_33 := he33 _ _ fb1_31
  have fb3_33 := he33 _ _ fb3_31
  have fb5_33 := he33 _ _ fb5_31
  have fb7_33 := he33 _ _ fb7_31
  have fb9_33 := he33 _ _ fb9_31
  have fb11_33 := he33 _ _ fb11_31
  have fb13_33 := he33 _ _ fb13_31
  have fb15_33 := he33 _ _ fb15_31
  have fb17_33 := he33 _ _ fb17_31
  have fb19_33 := he33 _ _ fb19_31
  have fb21_33 := he33 _ _ fb21_31
  have fb23_33 := he33 _ _ fb23_31
  have fb25_33 := he33 _ _ fb25_31
  have fb27_33 := he33 _ _ fb27_31
  have fb29_33 := he33 _ _ fb29_31
  have fb31_33 := he33 _ _ hr31
  refine zo_putF (C := RX12) (T := TX12) (N := 41) (ci := 11) (k := 35) (ty := (.array .long)) hx hb hI33 hO33 h2 wiX12 tyX12 tyX12_ok nmX12 hown hin hKn.1 rfl (by decide) (tb_6 185 rfl rfl) rfl rfl (by decide +kernel) rfl rfl (eX12_init (141, .putfield 62, 3) (List.mem_of_getElem? (i := 69) rfl)) (fun H34 lo34 hI34 hO34 hs34 hq34 => ?_)
  refine lv_aload_n hx hb (eX12_init (144, .aload_n 0, 1) (List.mem_of_getElem? (i := 70) rfl)) rfl (lv_at hl 0 rfl) ?_
  refine lv_bipush (v := 39) hx hb (eX12_init (145, .bipush 39, 2) (List.mem_of_getElem? (i := 71) rfl)) (by decide) ?_
  refine zo_newa (atype := .long) (N := 39) (ti := 1) (r := 38) (t := (1, (-9223372036854775808), 9223372036854775807)) hx hb hI34 (h2 _ (tb_1 44 rfl rfl)) (zo_cA (ti := 1) (tys := (cA 1, .long)) hKn.1 rfl) rfl (fun _ => ⟨0, rfl, by decide, by decide⟩) (by decide) (by decide) (by decide) (by decide) (eX12_init (147, .newarray .long, 2) (List.mem_of_getElem? (i := 72) rfl)) (fun b35 ro35 H35 hI35 hr35 he35 hq35 hb35 hz35 => ?_)
  have hO35 := hO34.kept (hq35 b (Nat.lt_of_lt_of_le hI34.2.2.2.2.2.2.2 hI34.2.2.2.1))
  have fb1_35 := he35 _ _ fb1_33
  have fb3_35 := he35 _ _ fb3_33
  have fb5_35 := he35 _ _ fb5_33
  have fb7_35 := he35 _ _ fb7_33
  have fb9_35 := he35 _ _ fb9_33
  have fb11_35 := he35 _ _ fb11_33
  have fb13_35 := he35 _ _ fb13_33
  have fb15_35 := he35 _ _ fb15_33
  have fb17_35 := he35 _ _ fb17_33
  have fb19_35 := he35 _ _ fb19_33
  have fb21_35 := he35 _ _ fb21_33
  have fb23_35 := he35 _ _ fb23_33
  have fb25_35 := he35 _ _ fb25_33
  have fb27_35 := he35 _ _ fb27_33
  have fb29_35 := he35 _ _ fb29_33
  have fb31_35 := he35 _ _ fb31_33
  have fb33_35 := he35 _ _ hr33
  refine zo_putF (C := RX12) (T := TX12) (N := 41) (ci := 11) (k := 40) (ty := (.array .long)) hx hb hI35 hO35 h2 wiX12 tyX12 tyX12_ok nmX12 hown hin hKn.1 rfl (by decide) (tb_6 190 rfl rfl) rfl rfl (by decide +kernel) rfl rfl (eX12_init (149, .putfield 65, 3) (List.mem_of_getElem? (i := 73) rfl)) (fun H36 lo36 hI36 hO36 hs36 hq36 => ?_)
  refine lv_aload_n hx hb (eX12_init (152, .aload_n 0, 1) (List.mem_of_getElem? (i := 74) rfl)) rfl (lv_at hl 0 rfl) ?_
  refine lv_ldc2 (v := (-999999)) hx hb hown (h2 _ (tb_6 132 rfl rfl)) (eX12_init (153, .ldc2_w 68, 3) (List.mem_of_getElem? (i := 75) rfl)) ?_
  refine lv_iconst (v := 1) hx hb (eX12_init (156, .iconst 1, 1) (List.mem_of_getElem? (i := 76) rfl)) (by decide) ?_
  refine lv_iconst (v := 1) hx hb (eX12_init (157, .iconst 1, 1) (List.mem_of_getElem? (i := 77) rfl)) (by decide) ?_
  refine zo_pure (vs := [.long (-999999), .int 1, .int 1]) (rest := [.ref b]) hx hb hml hown hts0 hI36.1 (zKn.ext hI36.2.1 hKn) (mX12_dayOf__lo l D cA _ _ _) ⟨rfl, rfl⟩ ⟨by decide, by decide⟩ ⟨by decide, by decide⟩ (tb_6 135 rfl rfl) (tb_1 12 rfl rfl) (tb_6 133 rfl rfl) (tb_6 134 rfl rfl) (by decide +kernel) ⟨⟨⟨_, rfl, by decide, by decide⟩, ⟨_, rfl, by decide, by decide⟩, ⟨_, rfl, by decide, by decide⟩, trivial⟩, fun e he => (by cases he), fun f hf => (by cases hf)⟩ hl.1 (Nat.le_of_ble_eq_true rfl) (eX12_init (158, .invokestatic 70, 3) (List.mem_of_getElem? (i := 78) rfl)) (fun H37 lo37 x37 g1 hz37 hq37 hlo37 => ?_)
  obtain ⟨x9, rfl, wlo, rfl, wlo1, wlo2⟩ := zc_one g1
  have hI37 := hI36.all hz37 hq37 hlo37
  have hO37 := hO36.kept (hq37 b (Nat.lt_of_lt_of_le hI36.2.2.2.2.2.2.2 hI36.2.2.2.1))
  refine W.eq (g2 := F0 m 161 ls [.long wlo, .ref b]) rfl ?_
  refine zo_putN (C := RX12) (T := TX12) (N := 41) (ci := 11) (k := 16) (ty := .long) hx hb hI37 hO37 h2 wiX12 tyX12 tyX12_ok nmX12 hown hKn.1 rfl (by decide) (tb_6 166 rfl rfl) rfl (by decide +kernel) rfl rfl (eX12_init (161, .putfield 74, 3) (List.mem_of_getElem? (i := 79) rfl)) (fun H38 lo38 hI38 hO38 hs38 hq38 => ?_)
  refine lv_aload_n hx hb (eX12_init (164, .aload_n 0, 1) (List.mem_of_getElem? (i := 80) rfl)) rfl (lv_at hl 0 rfl) ?_
  refine lv_ldc2 (v := 999999) hx hb hown (h2 _ (tb_6 148 rfl rfl)) (eX12_init (165, .ldc2_w 78, 3) (List.mem_of_getElem? (i := 81) rfl)) ?_
  refine lv_bipush (v := 12) hx hb (eX12_init (168, .bipush 12, 2) (List.mem_of_getElem? (i := 82) rfl)) (by decide) ?_
  refine lv_bipush (v := 31) hx hb (eX12_init (170, .bipush 31, 2) (List.mem_of_getElem? (i := 83) rfl)) (by decide) ?_
  refine zo_pure (vs := [.long 999999, .int 12, .int 31]) (rest := [.ref b]) hx hb hml hown hts0 hI38.1 (zKn.ext hI38.2.1 hKn) (mX12_dayOf__hi l D cA _ _ _) ⟨rfl, rfl⟩ ⟨by decide, by decide⟩ ⟨by decide, by decide⟩ (tb_6 135 rfl rfl) (tb_1 12 rfl rfl) (tb_6 133 rfl rfl) (tb_6 134 rfl rfl) (by decide +kernel) ⟨⟨⟨_, rfl, by decide, by decide⟩, ⟨_, rfl, by decide, by decide⟩, ⟨_, rfl, by decide, by decide⟩, trivial⟩, fun e he => (by cases he), fun f hf => (by cases hf)⟩ hl.1 (Nat.le_of_ble_eq_true rfl) (eX12_init (172, .invokestatic 70, 3) (List.mem_of_getElem? (i := 84) rfl)) (fun H39 lo39 x39 g1 hz39 hq39 hlo39 => ?_)
  obtain ⟨x9, rfl, whi, rfl, whi1, whi2⟩ := zc_one g1
  have hI39 := hI38.all hz39 hq39 hlo39
  have hO39 := hO38.kept (hq39 b (Nat.lt_of_lt_of_le hI38.2.2.2.2.2.2.2 hI38.2.2.2.1))
  refine W.eq (g2 := F0 m 175 ls [.long whi, .ref b]) rfl ?_
  refine zo_putN (C := RX12) (T := TX12) (N := 41) (ci := 11) (k := 17) (ty := .long) hx hb hI39 hO39 h2 wiX12 tyX12 tyX12_ok nmX12 hown hKn.1 rfl (by decide) (tb_6 167 rfl rfl) rfl (by decide +kernel) rfl rfl (eX12_init (175, .putfield 80, 3) (List.mem_of_getElem? (i := 85) rfl)) (fun H40 lo40 hI40 hO40 hs40 hq40 => ?_)
  refine lv_iconst (v := 0) hx hb (eX12_init (178, .iconst 0, 1) (List.mem_of_getElem? (i := 86) rfl)) (by decide) ?_
  refine lv_istore_n hx hb (eX12_init (179, .istore_n 1, 1) (List.mem_of_getElem? (i := 87) rfl)) rfl hl (by decide) rfl (fun ls hl => ?_)
  have loop : ∀ (n : Nat) (k : Int32) (ls : Array Slot) (H : Heap) (locs : List Loc), k.toInt + n = 39 → 0 ≤ k.toInt → lv_has ls 2 [(1, .int k), (0, .ref b)] → zo_I D cA ro sz H0 s.heap b ro35 H locs → t_OB b (D.1 11) 41 (D.2 11) H (updV (updV (updV (updV (updV (updV (updV (updV (updV (updV (updV (updV (updV (updV (updV (updV (updV (updV (updV (updV (fun k => defaultValue (tyX12 k)) 2 (.ref b1)) 4 (.ref b3)) 5 (.ref b5)) 6 (.ref b7)) 7 (.ref b9)) 8 (.ref b11)) 9 (.ref b13)) 10 (.ref b15)) 11 (.ref b17)) 12 (.ref b19)) 14 (.ref b21)) 23 (.ref b23)) 25 (.ref b25)) 26 (.ref b27)) 32 (.ref b29)) 34 (.ref b31)) 35 (.ref b33)) 40 (.ref b35)) 16 (.long wlo)) 17 (.long whi)) → W p l e (headSpec (gW yX12_init cX12_init 2 none) { frames := 3, cells := 18, slots := 1785, locals := 80 }).room s m (Value.ref b :: []).toArray below meth c H locs 18 1785 (MQ below (zo_Qc D cA ro sz H0 11 b (fun _ H => zh_f D H b 11 1 = .int 0 ∧ zh_f D H b 11 3 = .int 0 ∧ zh_f D H b 11 13 = .int 0 ∧ zh_f D H b 11 15 = .int 0)) (Value.ref b :: []).toArray s 18 1785 (zy_fr sz)) (F0 m 180 ls []) := by
    intro n
    induction n with
    | zero =>
      intro k ls H locs hk hk0 hl hI hO
      refine lv_iload_n hx hb (eX12_init (180, .iload_n 1, 1) (List.mem_of_getElem? (i := 88) rfl)) rfl (lv_at hl 0 rfl) ?_
      refine ff_bipush hx hb (eX12_init (181, .bipush 39, 2) (List.mem_of_getElem? (i := 89) rfl)) (by decide) (by decide) (fun z9 e9 => ?_)
      refine ff_icmp_ge hx hb (eX12_init (183, .if_icmp .ge 18, 3) (List.mem_of_getElem? (i := 90) rfl)) (tgt := 201) rfl (fun _ => ?_) (fun g => by omega)
      refine zo_ret (ci := 11) (N := 41) (r := 11) (fs := fsX12) (E := fun _ H => zh_f D H b 11 1 = .int 0 ∧ zh_f D H b 11 3 = .int 0 ∧ zh_f D H b 11 13 = .int 0 ∧ zh_f D H b 11 15 = .int 0) ⟨zo_fO (k := 1) hO (by decide), zo_fO (k := 3) hO (by decide), zo_fO (k := 13) hO (by decide), zo_fO (k := 15) hO (by decide)⟩ hx hb hr B.notSynchronized hI hO rfl (fun k t hk => ?_) (eX12_init (201, .return_, 1) (List.mem_of_getElem? (i := 98) rfl))
      match k, hk with
      | 0, hk =>
        cases (show some ((0, 0, 2) : zt_T) = some t from hk)
        exact ⟨by decide, ⟨0, rfl, by decide, by decide⟩⟩
      | 1, hk =>
        cases (show some ((0, 0, 40) : zt_T) = some t from hk)
        exact ⟨by decide, ⟨0, rfl, by decide, by decide⟩⟩
      | 2, hk =>
        cases (show some ((46, 0, 0) : zt_T) = some t from hk)
        exact ⟨by decide, Or.inr ⟨b1, rfl, fb1_35⟩⟩
      | 3, hk =>
        cases (show some ((0, 0, 8) : zt_T) = some t from hk)
        exact ⟨by decide, ⟨0, rfl, by decide, by decide⟩⟩
      | 4, hk =>
        cases (show some ((48, 0, 0) : zt_T) = some t from hk)
        exact ⟨by decide, Or.inr ⟨b3, rfl, fb3_35⟩⟩
      | 5, hk =>
        cases (show some ((50, 0, 0) : zt_T) = some t from hk)
        exact ⟨by decide, Or.inr ⟨b5, rfl, fb5_35⟩⟩
      | 6, hk =>
        cases (show some ((52, 0, 0) : zt_T) = some t from hk)
        exact ⟨by decide, Or.inr ⟨b7, rfl, fb7_35⟩⟩
      | 7, hk =>
        cases (show some ((54, 0, 0) : zt_T) = some t from hk)
        exact ⟨by decide, Or.inr ⟨b9, rfl, fb9_35⟩⟩
      | 8, hk =>
        cases (show some ((56, 0, 0) : zt_T) = some t from hk)
        exact ⟨by decide, Or.inr ⟨b11, rfl, fb11_35⟩⟩
      | 9, hk =>
        cases (show some ((58, 0, 0) : zt_T) = some t from hk)
        exact ⟨by decide, Or.inr ⟨b13, rfl, fb13_35⟩⟩
      | 10, hk =>
        cases (show some ((60, 0, 0) : zt_T) = some t from hk)
        exact ⟨by decide, Or.inr ⟨b15, rfl, fb15_35⟩⟩
      | 11, hk =>
        cases (show some ((62, 0, 0) : zt_T) = some t from hk)
        exact ⟨by decide, Or.inr ⟨b17, rfl, fb17_35⟩⟩
      | 12, hk =>
        cases (show some ((64, 0, 0) : zt_T) = some t from hk)
        exact ⟨by decide, Or.inr ⟨b19, rfl, fb19_35⟩⟩
      | 13, hk =>
        cases (show some ((0, 0, 120) : zt_T) = some t from hk)
        exact ⟨by decide, ⟨0, rfl, by decide, by decide⟩⟩
      | 14, hk =>
        cases (show some ((66, 0, 0) : zt_T) = some t from hk)
        exact ⟨by decide, Or.inr ⟨b21, rfl, fb21_35⟩⟩
      | 15, hk =>
        cases (show some ((0, 0, 120) : zt_T) = some t from hk)
        exact ⟨by decide, ⟨0, rfl, by decide, by decide⟩⟩
      | 16, hk =>
        cases (show some ((1, (-365961662), (-365961662)) : zt_T) = some t from hk)
        exact ⟨by decide, ⟨wlo, rfl, wlo1, wlo2⟩⟩
      | 17, hk =>
        cases (show some ((1, 364522971, 364522971) : zt_T) = some t from hk)
        exact ⟨by decide, ⟨whi, rfl, whi1, whi2⟩⟩
      | 18, hk =>
        cases (show some ((1, (-9223372036854775808), 9223372036854775807) : zt_T) = some t from hk)
        exact ⟨by decide, ⟨0, rfl, by decide, by decide⟩⟩
      | 19, hk =>
        cases (show some ((0, (-2147483648), 2147483647) : zt_T) = some t from hk)
        exact ⟨by decide, ⟨0, rfl, by decide, by decide⟩⟩
      | 20, hk =>
        cases (show some ((0, (-2147483648), 2147483647) : zt_T) = some t from hk)
        exact ⟨by decide, ⟨0, rfl, by decide, by decide⟩⟩
      | 21, hk =>
        cases (show some ((1, (-9223372036854775808), 9223372036854775807) : zt_T) = some t from hk)
        exact ⟨by decide, ⟨0, rfl, by decide, by decide⟩⟩
      | 22, hk =>
        cases (show some ((0, (-2147483648), 2147483647) : zt_T) = some t from hk)
        exact ⟨by decide, ⟨0, rfl, by decide, by decide⟩⟩
      | 23, hk =>
        cases (show some ((68, 0, 0) : zt_T) = some t from hk)
        exact ⟨by decide, Or.inr ⟨b23, rfl, fb23_35⟩⟩
      | 24, hk =>
        cases (show some ((0, 0, 64) : zt_T) = some t from hk)
        exact ⟨by decide, ⟨0, rfl, by decide, by decide⟩⟩
      | 25, hk =>
        cases (show some ((70, 0, 0) : zt_T) = some t from hk)
        exact ⟨by decide, Or.inr ⟨b25, rfl, fb25_35⟩⟩
      | 26, hk =>
        cases (show some ((72, 0, 0) : zt_T) = some t from hk)
        exact ⟨by decide, Or.inr ⟨b27, rfl, fb27_35⟩⟩
      | 27, hk =>
        cases (show some ((0, 0, 128) : zt_T) = some t from hk)
        exact ⟨by decide, ⟨0, rfl, by decide, by decide⟩⟩
      | 28, hk =>
        cases (show some ((0, 0, 7) : zt_T) = some t from hk)
        exact ⟨by decide, ⟨0, rfl, by decide, by decide⟩⟩
      | 29, hk =>
        cases (show some ((0, 0, 120) : zt_T) = some t from hk)
        exact ⟨by decide, ⟨0, rfl, by decide, by decide⟩⟩
      | 30, hk =>
        cases (show some ((0, (-1), 120) : zt_T) = some t from hk)
        exact ⟨by decide, ⟨0, rfl, by decide, by decide⟩⟩
      | 31, hk =>
        cases (show some ((0, (-2147483648), 2147483647) : zt_T) = some t from hk)
        exact ⟨by decide, ⟨0, rfl, by decide, by decide⟩⟩
      | 32, hk =>
        cases (show some ((74, 0, 0) : zt_T) = some t from hk)
        exact ⟨by decide, Or.inr ⟨b29, rfl, fb29_35⟩⟩
      | 33, hk =>
        cases (show some ((0, (-2147483648), 2147483647) : zt_T) = some t from hk)
        exact ⟨by decide, ⟨0, rfl, by decide, by decide⟩⟩
      | 34, hk =>
        cases (show some ((76, 0, 0) : zt_T) = some t from hk)
        exact ⟨by decide, Or.inr ⟨b31, rfl, fb31_35⟩⟩
      | 35, hk =>
        cases (show some ((78, 0, 0) : zt_T) = some t from hk)
        exact ⟨by decide, Or.inr ⟨b33, rfl, fb33_35⟩⟩
      | 36, hk =>
        cases (show some ((0, 0, 3) : zt_T) = some t from hk)
        exact ⟨by decide, ⟨0, rfl, by decide, by decide⟩⟩
      | 37, hk =>
        cases (show some ((0, 0, 1) : zt_T) = some t from hk)
        exact ⟨by decide, ⟨0, rfl, by decide, by decide⟩⟩
      | 38, hk =>
        cases (show some ((1, (-9223372036854775808), 9223372036854775807) : zt_T) = some t from hk)
        exact ⟨by decide, ⟨0, rfl, by decide, by decide⟩⟩
      | 39, hk =>
        cases (show some ((0, 0, 1) : zt_T) = some t from hk)
        exact ⟨by decide, ⟨0, rfl, by decide, by decide⟩⟩
      | 40, hk =>
        cases (show some ((80, 0, 0) : zt_T) = some t from hk)
        exact ⟨by decide, Or.inr ⟨b35, rfl, hr35⟩⟩
      | k + 41, hk => cases (show (none : Option zt_T) = some t from hk)
    | succ n ih =>
      intro k ls H locs hk hk0 hl hI hO
      refine lv_iload_n hx hb (eX12_init (180, .iload_n 1, 1) (List.mem_of_getElem? (i := 88) rfl)) rfl (lv_at hl 0 rfl) ?_
      refine ff_bipush hx hb (eX12_init (181, .bipush 39, 2) (List.mem_of_getElem? (i := 89) rfl)) (by decide) (by decide) (fun z9 e9 => ?_)
      refine ff_icmp_ge hx hb (eX12_init (183, .if_icmp .ge 18, 3) (List.mem_of_getElem? (i := 90) rfl)) (tgt := 201) rfl (fun g => by omega) (fun _ => ?_)
      refine lv_aload_n hx hb (eX12_init (186, .aload_n 0, 1) (List.mem_of_getElem? (i := 91) rfl)) rfl (lv_at hl 1 rfl) ?_
      refine zo_get (C := RX12) (T := TX12) (N := 41) (ci := 11) (k := 40) hx hb hO h2 wiX12 hown hKn.1 rfl (by decide) (tb_6 190 rfl rfl) (eX12_init (187, .getfield 65, 3) (List.mem_of_getElem? (i := 92) rfl)) ?_
      refine W.eq (g2 := F0 m 190 ls [.ref b35]) rfl ?_
      refine lv_iload_n hx hb (eX12_init (190, .iload_n 1, 1) (List.mem_of_getElem? (i := 93) rfl)) rfl (lv_at hl 0 rfl) ?_
      refine lv_ldc2 (v := (-9223372036854775808)) hx hb hown (h2 _ (tb_6 149 rfl rfl)) (eX12_init (191, .ldc2_w 83, 3) (List.mem_of_getElem? (i := 94) rfl)) ?_
      refine zo_last hx hb hI hKn.1 hr35 (by rw [hb35]; exact hI34.2.2.2.1) (show RTg[38]? = some (1, 1, 39, [(1, (-9223372036854775808), 9223372036854775807)]) from rfl) ⟨hk0, by omega⟩ ⟨by decide, by decide⟩ (eX12_init (194, .lastore, 1) (List.mem_of_getElem? (i := 95) rfl)) (fun H9 lo9 hI9 hq9 => ?_)
      refine lv_iinc hx hb (eX12_init (195, .iinc 1 1, 3) (List.mem_of_getElem? (i := 96) rfl)) hl (k := 0) rfl (v := k + 1) rfl (by decide) rfl (fun ls9 hl9 => ?_)
      refine lv_goto hx hb (eX12_init (198, .goto (-18), 3) (List.mem_of_getElem? (i := 97) rfl)) (tgt := 180) rfl ?_
      have ek : (k + 1).toInt = k.toInt + 1 := by rw [zn_add (by rw [show (1 : Int32).toInt = 1 by decide]; omega) (by rw [show (1 : Int32).toInt = 1 by decide]; omega)]; rfl
      exact ih (k + 1) ls9 H9 lo9 (by rw [ek]; omega) (by rw [ek]; omega) hl9 hI9 (hO.kept (hq9 b (by have g1 := hI.2.2.2.2.2.2.2; have g2 := hI34.2.2.2.1; omega)))
  exact loop 39 0 ls _ _ (by decide) (by decide) hl hI40 hO40
