def tL_law_0 : List (Nat × Instr × Nat) := [(156, .aload_n 1, 1), (157, .aload_n 0, 1), (158, .iload 4, 2), (160, .iconst 1, 1), (161, .iadd, 1), (162, .iaload, 1), (163, .aload_n 0, 1), (164, .iload 4, 2), (166, .iconst 2, 1), (167, .iadd, 1), (168, .iaload, 1), (169, .aload_n 0, 1), (170, .iload 4, 2), (172, .iconst 3, 1), (173, .iadd, 1), (174, .iaload, 1), (175, .aload_n 3, 1), (176, .invokestatic 102, 3), (179, .istore 5, 2), (181, .aload_n 2, 1), (182, .aload_n 0, 1), (183, .iload 4, 2), (185, .iconst 1, 1), (186, .iadd, 1), (187, .iaload, 1), (188, .aload_n 0, 1), (189, .iload 4, 2), (191, .iconst 2, 1), (192, .iadd, 1), (193, .iaload, 1), (194, .aload_n 0, 1), (195, .iload 4, 2), (197, .iconst 3, 1), (198, .iadd, 1), (199, .iaload, 1), (200, .invokevirtual 107, 3), (203, .lstore 6, 2), (205, .goto 1590, 3)]
set_option maxRecDepth 100000 in
theorem eL_law_0 : ∀ x ∈ tL_law_0, decode cL_law x.1 = .ok x.2 := by decide +kernel
set_option maxRecDepth 100000 in
set_option maxHeartbeats 4000000 in
theorem lw_case_0 {p : Program} {l : Launch} {e : Env} {s : State} {m : MethodId} {below : List Frame} {meth : Method} {c : Code} {b L : Nat} {xs : Nat → Int32} {D : va_G} {cA : Nat → ClassId} {ro0 ro : Nat → Option Nat} {H : Heap} {locs : List Loc} {cells slots : Nat} {Q : State → Prop} {ls : Array Slot} {i x mm o : Nat} {iv : Int32} (C : lw_C p l s m meth c b L xs D cA ro0) (hi : i + 8 ≤ L) (hiv : iv.toInt = (i : Int)) (I : lw_I D cA ro0 s x mm o ro H locs) (hl : lv_has ls 8 [(4, .int iv), (3, .ref o), (2, .ref mm), (1, .ref x), (0, .ref b)]) (hc : cells + 6 ≤ 601024) (hs : slots + 147 ≤ 7293034) (K : ∀ (ro9 : Nat → Option Nat) (H9 : Heap) (lo9 : List Loc) (ls9 : Array Slot), lw_I D cA ro0 s x mm o ro9 H9 lo9 → lv_has ls9 8 [(4, .int iv), (3, .ref o), (2, .ref mm), (1, .ref x), (0, .ref b)] → W p l e room_1 s m #[Value.ref b] below meth c H9 lo9 (cells + 6) (slots + 147) Q (F0 m 1795 ls9 [])) : W p l e room_1 s m #[Value.ref b] below meth c H locs cells slots Q (F0 m 156 ls []) := by
  have hL := C.hL
  have hH0 := I.hh.2.1 b C.hbl
  have hts0 : ∀ w ∈ Cond.initialized "MomentTextsLaw" :: gT, w.before #[Value.ref b] s = true := fun w hw => (List.mem_cons.mp hw).elim (fun g => by rw [g]; exact C.h2 _ (tb_1 0 rfl rfl)) (C.h2 w)
  generalize hy1 : xs (i + 1) = y1
  generalize hy2 : xs (i + 2) = y2
  generalize hy3 : xs (i + 3) = y3
  generalize hy4 : xs (i + 4) = y4
  generalize hy5 : xs (i + 5) = y5
  generalize hy6 : xs (i + 6) = y6
  generalize hy7 : xs (i + 7) = y7
  refine lv_aload_n C.hx C.hb (eL_law_0 (156, .aload_n 1, 1) (List.mem_of_getElem? (i := 0) rfl)) rfl (lv_at hl 3 rfl) ?_
  refine lw_rd (k := 1) C hi hiv hH0 (lv_at hl 0 rfl) (lv_at hl 4 rfl) (by decide) rfl (eL_law_0 (157, .aload_n 0, 1) (List.mem_of_getElem? (i := 1) rfl)) (eL_law_0 (158, .iload 4, 2) (List.mem_of_getElem? (i := 2) rfl)) (eL_law_0 (160, .iconst 1, 1) (List.mem_of_getElem? (i := 3) rfl)) (eL_law_0 (161, .iadd, 1) (List.mem_of_getElem? (i := 4) rfl)) (eL_law_0 (162, .iaload, 1) (List.mem_of_getElem? (i := 5) rfl)) hy1 ?_
  refine lw_rd (k := 2) C hi hiv hH0 (lv_at hl 0 rfl) (lv_at hl 4 rfl) (by decide) rfl (eL_law_0 (163, .aload_n 0, 1) (List.mem_of_getElem? (i := 6) rfl)) (eL_law_0 (164, .iload 4, 2) (List.mem_of_getElem? (i := 7) rfl)) (eL_law_0 (166, .iconst 2, 1) (List.mem_of_getElem? (i := 8) rfl)) (eL_law_0 (167, .iadd, 1) (List.mem_of_getElem? (i := 9) rfl)) (eL_law_0 (168, .iaload, 1) (List.mem_of_getElem? (i := 10) rfl)) hy2 ?_
  refine lw_rd (k := 3) C hi hiv hH0 (lv_at hl 0 rfl) (lv_at hl 4 rfl) (by decide) rfl (eL_law_0 (169, .aload_n 0, 1) (List.mem_of_getElem? (i := 11) rfl)) (eL_law_0 (170, .iload 4, 2) (List.mem_of_getElem? (i := 12) rfl)) (eL_law_0 (172, .iconst 3, 1) (List.mem_of_getElem? (i := 13) rfl)) (eL_law_0 (173, .iadd, 1) (List.mem_of_getElem? (i := 14) rfl)) (eL_law_0 (174, .iaload, 1) (List.mem_of_getElem? (i := 15) rfl)) hy3 ?_
  refine lv_aload_n C.hx C.hb (eL_law_0 (175, .aload_n 3, 1) (List.mem_of_getElem? (i := 16) rfl)) rfl (lv_at hl 1 rfl) ?_
  refine zw_row (As := [.ref x, .int y1, .int y2, .int y3, .ref o]) (st := []) (Ts := gT) C.hx C.hb C.hml C.hown C.h2 (fun _ h => h) (wL_day l C.hst D cA ro s.heap.size s.heap x y1 y2 y3 o I.hx10 I.ho42) ⟨rfl, rfl⟩ ⟨by decide, by decide⟩ ⟨by show cells + 1 ≤ 601024; omega, by show slots + 6 ≤ 7293034; omega⟩ (tb_2 102 rfl rfl) (tb_1 0 rfl rfl) (tb_2 100 rfl rfl) (tb_2 101 rfl rfl) (show yL_day.cls ≠ "java/lang/invoke/MethodHandle" ∧ yL_day.cls ≠ "java/lang/invoke/VarHandle" ∧ (parseMethodDescriptor yL_day.desc).map (fun d => d.parameters.length) = some 5 by decide +kernel) zw_blind (fun U hU hW => ⟨rfl, by rw [hU]; exact I.hh.l0, (C.hKa.ext I.he).warm hW⟩) I.hh.2.2.1 hl.1 (Nat.le_of_ble_eq_true rfl) (eL_law_0 (176, .invokestatic 102, 3) (List.mem_of_getElem? (i := 17) rfl)) (fun r1 s1 t1 lo1 g1 f1 l1 => ?_)
  obtain ⟨k1, ro1, q1, he1, z1, kp1⟩ := f1
  cases q1
  rw [g1] at kp1
  have hh1 : zh_ok D cA RTg ro1 s.heap.size s.heap t1.heap lo1 := ⟨z1.1, z1.2.1, l1, z1.2.2.2⟩
  have j1 := (I.hj.kept I.hx10 I.hm11 kp1 (by decide) (by decide)).ext he1
  have kk1 := (I.hk.kept I.hx10 I.hm11 kp1 (by decide) (by decide)).ext he1
  have hx10_1 := he1 _ _ I.hx10
  have hm11_1 := he1 _ _ I.hm11
  have ho42_1 := he1 _ _ I.ho42
  have he_1 := fun q r g => he1 q r (I.he q r g)
  have hH1 := hh1.2.1 b C.hbl
  refine W.eq (g2 := F0 m 179 ls [.int k1]) rfl ?_
  refine lv_istore C.hx C.hb (eL_law_0 (179, .istore 5, 2) (List.mem_of_getElem? (i := 18) rfl)) hl (by decide) rfl (fun ls2 (hl2 : lv_has ls2 8 [(5, .int k1), (4, .int iv), (3, .ref o), (2, .ref mm), (1, .ref x), (0, .ref b)]) => ?_)
  refine lv_aload_n C.hx C.hb (eL_law_0 (181, .aload_n 2, 1) (List.mem_of_getElem? (i := 19) rfl)) rfl (lv_at hl2 3 rfl) ?_
  refine lw_rd (k := 1) C hi hiv hH1 (lv_at hl2 1 rfl) (lv_at hl2 5 rfl) (by decide) rfl (eL_law_0 (182, .aload_n 0, 1) (List.mem_of_getElem? (i := 20) rfl)) (eL_law_0 (183, .iload 4, 2) (List.mem_of_getElem? (i := 21) rfl)) (eL_law_0 (185, .iconst 1, 1) (List.mem_of_getElem? (i := 22) rfl)) (eL_law_0 (186, .iadd, 1) (List.mem_of_getElem? (i := 23) rfl)) (eL_law_0 (187, .iaload, 1) (List.mem_of_getElem? (i := 24) rfl)) hy1 ?_
  refine lw_rd (k := 2) C hi hiv hH1 (lv_at hl2 1 rfl) (lv_at hl2 5 rfl) (by decide) rfl (eL_law_0 (188, .aload_n 0, 1) (List.mem_of_getElem? (i := 25) rfl)) (eL_law_0 (189, .iload 4, 2) (List.mem_of_getElem? (i := 26) rfl)) (eL_law_0 (191, .iconst 2, 1) (List.mem_of_getElem? (i := 27) rfl)) (eL_law_0 (192, .iadd, 1) (List.mem_of_getElem? (i := 28) rfl)) (eL_law_0 (193, .iaload, 1) (List.mem_of_getElem? (i := 29) rfl)) hy2 ?_
  refine lw_rd (k := 3) C hi hiv hH1 (lv_at hl2 1 rfl) (lv_at hl2 5 rfl) (by decide) rfl (eL_law_0 (194, .aload_n 0, 1) (List.mem_of_getElem? (i := 30) rfl)) (eL_law_0 (195, .iload 4, 2) (List.mem_of_getElem? (i := 31) rfl)) (eL_law_0 (197, .iconst 3, 1) (List.mem_of_getElem? (i := 32) rfl)) (eL_law_0 (198, .iadd, 1) (List.mem_of_getElem? (i := 33) rfl)) (eL_law_0 (199, .iaload, 1) (List.mem_of_getElem? (i := 34) rfl)) hy3 ?_
  refine zr_V (idx := 107) (r := 11) (ci := 11) (n0 := 0) (fs := fsX12) (lo := 0) (hi0 := 0) (ts := [(0, (-2147483648), 2147483647), (0, (-2147483648), 2147483647), (0, (-2147483648), 2147483647)]) C.hx C.hb C.hml C.hown hts0 (C.hKa.ext he_1).1.1 zKb (mX12_day l D cA ro1 s.heap.size s.heap) ⟨rfl, rfl⟩ ⟨by decide, by decide⟩ ⟨by show (cells + 1) ≤ 601024; omega, by show (slots + 6) ≤ 7293034; omega⟩ (tb_7 41 rfl rfl) (tb_1 12 rfl rfl) (tb_7 38 rfl rfl) (tb_7 39 rfl rfl) (tb_7 40 rfl rfl) (by decide +kernel) rfl rfl (zCX12 C.hKa.1.1.1) rfl 200 107 (.invokevirtual 107) (Or.inr (Or.inl ⟨rfl, rfl⟩)) (eL_law_0 (200, .invokevirtual 107, 3) (List.mem_of_getElem? (i := 35) rfl)) _ _ _ [] [.ref mm, .int y1, .int y2, .int y3] hl2.1 (Nat.le_of_ble_eq_true rfl) hh1 ⟨⟨Or.inr ⟨_, rfl, hm11_1⟩, tz_i (zn_i32 _).1 (zn_i32 _).2, tz_i (zn_i32 _).1 (zn_i32 _).2, tz_i (zn_i32 _).1 (zn_i32 _).2, trivial⟩, fun e he => (by cases he), fun f hf => (by cases hf)⟩ (fun H3 lo3 r3 hh3 hk3 hal3 => ?_)
  obtain ⟨w3, rfl, v3, rfl, -, -⟩ := zc_one (t := (1, (-9223372036854775808), 9223372036854775807)) (L := []) hal3
  have hH3 := hh3.2.1 b C.hbl
  have j3 := j1.kept hx10_1 hm11_1 hk3 (by decide) (by decide)
  have kk3 := (kk1.kept hx10_1 hm11_1 hk3 (by decide) (by decide))
  refine W.eq (g2 := F0 m 203 ls2 [.long v3]) rfl ?_
  refine lv_lstore C.hx C.hb (eL_law_0 (203, .lstore 6, 2) (List.mem_of_getElem? (i := 36) rfl)) hl2 (by decide) rfl (fun ls4 (hl4 : lv_has ls4 8 [(6, .long v3), (5, .int k1), (4, .int iv), (3, .ref o), (2, .ref mm), (1, .ref x), (0, .ref b)]) => ?_)
  refine lv_goto C.hx C.hb (eL_law_0 (205, .goto 1590, 3) (List.mem_of_getElem? (i := 37) rfl)) (tgt := 1795) rfl ?_
  exact W.widen (k := cells + 6) (n := slots + 147) (by omega) (by omega) (K ro1 _ _ _ ⟨hh3, he_1, hx10_1, hm11_1, ho42_1, j3, kk3⟩ (lv_sub hl4 [2, 3, 4, 5, 6] rfl))
def tL_law_1 : List (Nat × Instr × Nat) := [(208, .aload_n 1, 1), (209, .aload_n 0, 1), (210, .iload 4, 2), (212, .iconst 1, 1), (213, .iadd, 1), (214, .iaload, 1), (215, .i2l, 1), (216, .bipush 32, 2), (218, .lshl, 1), (219, .aload_n 0, 1), (220, .iload 4, 2), (222, .iconst 2, 1), (223, .iadd, 1), (224, .iaload, 1), (225, .i2l, 1), (226, .ldc2_w 108, 3), (229, .land, 1), (230, .lor, 1), (231, .aload_n 0, 1), (232, .iload 4, 2), (234, .iconst 3, 1), (235, .iadd, 1), (236, .iaload, 1), (237, .aload_n 3, 1), (238, .invokestatic 110, 3), (241, .istore 5, 2), (243, .aload_n 2, 1), (244, .aload_n 0, 1), (245, .iload 4, 2), (247, .iconst 1, 1), (248, .iadd, 1), (249, .iaload, 1), (250, .i2l, 1), (251, .bipush 32, 2), (253, .lshl, 1), (254, .aload_n 0, 1), (255, .iload 4, 2), (257, .iconst 2, 1), (258, .iadd, 1), (259, .iaload, 1), (260, .i2l, 1), (261, .ldc2_w 108, 3), (264, .land, 1), (265, .lor, 1), (266, .aload_n 0, 1), (267, .iload 4, 2), (269, .iconst 3, 1), (270, .iadd, 1), (271, .iaload, 1), (272, .invokevirtual 113, 3), (275, .istore 6, 2), (277, .goto 1518, 3)]
set_option maxRecDepth 100000 in
theorem eL_law_1 : ∀ x ∈ tL_law_1, decode cL_law x.1 = .ok x.2 := by decide +kernel
set_option maxRecDepth 100000 in
set_option maxHeartbeats 4000000 in
theorem lw_case_1 {p : Program} {l : Launch} {e : Env} {s : State} {m : MethodId} {below : List Frame} {meth : Method} {c : Code} {b L : Nat} {xs : Nat → Int32} {D : va_G} {cA : Nat → ClassId} {ro0 ro : Nat → Option Nat} {H : Heap} {locs : List Loc} {cells slots : Nat} {Q : State → Prop} {ls : Array Slot} {i x mm o : Nat} {iv : Int32} (C : lw_C p l s m meth c b L xs D cA ro0) (hi : i + 8 ≤ L) (hiv : iv.toInt = (i : Int)) (I : lw_I D cA ro0 s x mm o ro H locs) (hl : lv_has ls 8 [(4, .int iv), (3, .ref o), (2, .ref mm), (1, .ref x), (0, .ref b)]) (hc : cells + 6 ≤ 601024) (hs : slots + 147 ≤ 7293034) (K : ∀ (ro9 : Nat → Option Nat) (H9 : Heap) (lo9 : List Loc) (ls9 : Array Slot), lw_I D cA ro0 s x mm o ro9 H9 lo9 → lv_has ls9 8 [(4, .int iv), (3, .ref o), (2, .ref mm), (1, .ref x), (0, .ref b)] → W p l e room_1 s m #[Value.ref b] below meth c H9 lo9 (cells + 6) (slots + 147) Q (F0 m 1795 ls9 [])) : W p l e room_1 s m #[Value.ref b] below meth c H locs cells slots Q (F0 m 208 ls []) := by
  have hL := C.hL
  have hH0 := I.hh.2.1 b C.hbl
  have hts0 : ∀ w ∈ Cond.initialized "MomentTextsLaw" :: gT, w.before #[Value.ref b] s = true := fun w hw => (List.mem_cons.mp hw).elim (fun g => by rw [g]; exact C.h2 _ (tb_1 0 rfl rfl)) (C.h2 w)
  generalize hy1 : xs (i + 1) = y1
  generalize hy2 : xs (i + 2) = y2
  generalize hy3 : xs (i + 3) = y3
  generalize hy4 : xs (i + 4) = y4
  generalize hy5 : xs (i + 5) = y5
  generalize hy6 : xs (i + 6) = y6
  generalize hy7 : xs (i + 7) = y7
  refine lv_aload_n C.hx C.hb (eL_law_1 (208, .aload_n 1, 1) (List.mem_of_getElem? (i := 0) rfl)) rfl (lv_at hl 3 rfl) ?_
  refine lw_rd (k := 1) C hi hiv hH0 (lv_at hl 0 rfl) (lv_at hl 4 rfl) (by decide) rfl (eL_law_1 (209, .aload_n 0, 1) (List.mem_of_getElem? (i := 1) rfl)) (eL_law_1 (210, .iload 4, 2) (List.mem_of_getElem? (i := 2) rfl)) (eL_law_1 (212, .iconst 1, 1) (List.mem_of_getElem? (i := 3) rfl)) (eL_law_1 (213, .iadd, 1) (List.mem_of_getElem? (i := 4) rfl)) (eL_law_1 (214, .iaload, 1) (List.mem_of_getElem? (i := 5) rfl)) hy1 ?_
  refine lv_i2l C.hx C.hb (eL_law_1 (215, .i2l, 1) (List.mem_of_getElem? (i := 6) rfl)) rfl ?_
  refine lv_bipush C.hx C.hb (eL_law_1 (216, .bipush 32, 2) (List.mem_of_getElem? (i := 7) rfl)) rfl ?_
  refine lv_lshl C.hx C.hb (eL_law_1 (218, .lshl, 1) (List.mem_of_getElem? (i := 8) rfl)) rfl ?_
  refine lw_rd (k := 2) C hi hiv hH0 (lv_at hl 0 rfl) (lv_at hl 4 rfl) (by decide) rfl (eL_law_1 (219, .aload_n 0, 1) (List.mem_of_getElem? (i := 9) rfl)) (eL_law_1 (220, .iload 4, 2) (List.mem_of_getElem? (i := 10) rfl)) (eL_law_1 (222, .iconst 2, 1) (List.mem_of_getElem? (i := 11) rfl)) (eL_law_1 (223, .iadd, 1) (List.mem_of_getElem? (i := 12) rfl)) (eL_law_1 (224, .iaload, 1) (List.mem_of_getElem? (i := 13) rfl)) hy2 ?_
  refine lv_i2l C.hx C.hb (eL_law_1 (225, .i2l, 1) (List.mem_of_getElem? (i := 14) rfl)) rfl ?_
  refine lv_ldc2 C.hx C.hb C.hown (C.h2 _ (tb_8 200 rfl rfl)) (eL_law_1 (226, .ldc2_w 108, 3) (List.mem_of_getElem? (i := 15) rfl)) ?_
  refine lv_land C.hx C.hb (eL_law_1 (229, .land, 1) (List.mem_of_getElem? (i := 16) rfl)) ?_
  refine lv_lor C.hx C.hb (eL_law_1 (230, .lor, 1) (List.mem_of_getElem? (i := 17) rfl)) ?_
  refine W.eq (g2 := F0 m 231 ls [.long (lgI y1 y2), .ref x]) rfl ?_
  refine lw_rd (k := 3) C hi hiv hH0 (lv_at hl 0 rfl) (lv_at hl 4 rfl) (by decide) rfl (eL_law_1 (231, .aload_n 0, 1) (List.mem_of_getElem? (i := 18) rfl)) (eL_law_1 (232, .iload 4, 2) (List.mem_of_getElem? (i := 19) rfl)) (eL_law_1 (234, .iconst 3, 1) (List.mem_of_getElem? (i := 20) rfl)) (eL_law_1 (235, .iadd, 1) (List.mem_of_getElem? (i := 21) rfl)) (eL_law_1 (236, .iaload, 1) (List.mem_of_getElem? (i := 22) rfl)) hy3 ?_
  refine lv_aload_n C.hx C.hb (eL_law_1 (237, .aload_n 3, 1) (List.mem_of_getElem? (i := 23) rfl)) rfl (lv_at hl 1 rfl) ?_
  refine zw_row (As := [.ref x, .long (lgI y1 y2), .int y3, .ref o]) (st := []) (Ts := gT) C.hx C.hb C.hml C.hown C.h2 (fun _ h => h) (wL_date l C.hst D cA ro s.heap.size s.heap x (lgI y1 y2) y3 o I.hx10 I.ho42) ⟨rfl, rfl⟩ ⟨by decide, by decide⟩ ⟨by show cells + 1 ≤ 601024; omega, by show slots + 6 ≤ 7293034; omega⟩ (tb_2 205 rfl rfl) (tb_1 0 rfl rfl) (tb_2 203 rfl rfl) (tb_2 204 rfl rfl) (show yL_date.cls ≠ "java/lang/invoke/MethodHandle" ∧ yL_date.cls ≠ "java/lang/invoke/VarHandle" ∧ (parseMethodDescriptor yL_date.desc).map (fun d => d.parameters.length) = some 4 by decide +kernel) zw_blind (fun U hU hW => ⟨rfl, by rw [hU]; exact I.hh.l0, (C.hKa.ext I.he).warm hW⟩) I.hh.2.2.1 hl.1 (Nat.le_of_ble_eq_true rfl) (eL_law_1 (238, .invokestatic 110, 3) (List.mem_of_getElem? (i := 24) rfl)) (fun r1 s1 t1 lo1 g1 f1 l1 => ?_)
  obtain ⟨k1, ro1, q1, he1, z1, kp1⟩ := f1
  cases q1
  rw [g1] at kp1
  have hh1 : zh_ok D cA RTg ro1 s.heap.size s.heap t1.heap lo1 := ⟨z1.1, z1.2.1, l1, z1.2.2.2⟩
  have j1 := (I.hj.kept I.hx10 I.hm11 kp1 (by decide) (by decide)).ext he1
  have kk1 := (I.hk.kept I.hx10 I.hm11 kp1 (by decide) (by decide)).ext he1
  have hx10_1 := he1 _ _ I.hx10
  have hm11_1 := he1 _ _ I.hm11
  have ho42_1 := he1 _ _ I.ho42
  have he_1 := fun q r g => he1 q r (I.he q r g)
  have hH1 := hh1.2.1 b C.hbl
  refine W.eq (g2 := F0 m 241 ls [.int k1]) rfl ?_
  refine lv_istore C.hx C.hb (eL_law_1 (241, .istore 5, 2) (List.mem_of_getElem? (i := 25) rfl)) hl (by decide) rfl (fun ls2 (hl2 : lv_has ls2 8 [(5, .int k1), (4, .int iv), (3, .ref o), (2, .ref mm), (1, .ref x), (0, .ref b)]) => ?_)
  refine lv_aload_n C.hx C.hb (eL_law_1 (243, .aload_n 2, 1) (List.mem_of_getElem? (i := 26) rfl)) rfl (lv_at hl2 3 rfl) ?_
  refine lw_rd (k := 1) C hi hiv hH1 (lv_at hl2 1 rfl) (lv_at hl2 5 rfl) (by decide) rfl (eL_law_1 (244, .aload_n 0, 1) (List.mem_of_getElem? (i := 27) rfl)) (eL_law_1 (245, .iload 4, 2) (List.mem_of_getElem? (i := 28) rfl)) (eL_law_1 (247, .iconst 1, 1) (List.mem_of_getElem? (i := 29) rfl)) (eL_law_1 (248, .iadd, 1) (List.mem_of_getElem? (i := 30) rfl)) (eL_law_1 (249, .iaload, 1) (List.mem_of_getElem? (i := 31) rfl)) hy1 ?_
  refine lv_i2l C.hx C.hb (eL_law_1 (250, .i2l, 1) (List.mem_of_getElem? (i := 32) rfl)) rfl ?_
  refine lv_bipush C.hx C.hb (eL_law_1 (251, .bipush 32, 2) (List.mem_of_getElem? (i := 33) rfl)) rfl ?_
  refine lv_lshl C.hx C.hb (eL_law_1 (253, .lshl, 1) (List.mem_of_getElem? (i := 34) rfl)) rfl ?_
  refine lw_rd (k := 2) C hi hiv hH1 (lv_at hl2 1 rfl) (lv_at hl2 5 rfl) (by decide) rfl (eL_law_1 (254, .aload_n 0, 1) (List.mem_of_getElem? (i := 35) rfl)) (eL_law_1 (255, .iload 4, 2) (List.mem_of_getElem? (i := 36) rfl)) (eL_law_1 (257, .iconst 2, 1) (List.mem_of_getElem? (i := 37) rfl)) (eL_law_1 (258, .iadd, 1) (List.mem_of_getElem? (i := 38) rfl)) (eL_law_1 (259, .iaload, 1) (List.mem_of_getElem? (i := 39) rfl)) hy2 ?_
  refine lv_i2l C.hx C.hb (eL_law_1 (260, .i2l, 1) (List.mem_of_getElem? (i := 40) rfl)) rfl ?_
  refine lv_ldc2 C.hx C.hb C.hown (C.h2 _ (tb_8 200 rfl rfl)) (eL_law_1 (261, .ldc2_w 108, 3) (List.mem_of_getElem? (i := 41) rfl)) ?_
  refine lv_land C.hx C.hb (eL_law_1 (264, .land, 1) (List.mem_of_getElem? (i := 42) rfl)) ?_
  refine lv_lor C.hx C.hb (eL_law_1 (265, .lor, 1) (List.mem_of_getElem? (i := 43) rfl)) ?_
  refine W.eq (g2 := F0 m 266 ls2 [.long (lgI y1 y2), .ref mm]) rfl ?_
  refine lw_rd (k := 3) C hi hiv hH1 (lv_at hl2 1 rfl) (lv_at hl2 5 rfl) (by decide) rfl (eL_law_1 (266, .aload_n 0, 1) (List.mem_of_getElem? (i := 44) rfl)) (eL_law_1 (267, .iload 4, 2) (List.mem_of_getElem? (i := 45) rfl)) (eL_law_1 (269, .iconst 3, 1) (List.mem_of_getElem? (i := 46) rfl)) (eL_law_1 (270, .iadd, 1) (List.mem_of_getElem? (i := 47) rfl)) (eL_law_1 (271, .iaload, 1) (List.mem_of_getElem? (i := 48) rfl)) hy3 ?_
  refine zr_V (idx := 113) (r := 11) (ci := 11) (n0 := 0) (fs := fsX12) (lo := 0) (hi0 := 0) (ts := [(1, (-9223372036854775808), 9223372036854775807), (0, (-2147483648), 2147483647)]) C.hx C.hb C.hml C.hown hts0 (C.hKa.ext he_1).1.1 zKb (mX12_date l D cA ro1 s.heap.size s.heap) ⟨rfl, rfl⟩ ⟨by decide, by decide⟩ ⟨by show (cells + 1) ≤ 601024; omega, by show (slots + 6) ≤ 7293034; omega⟩ (tb_7 58 rfl rfl) (tb_1 12 rfl rfl) (tb_7 55 rfl rfl) (tb_7 56 rfl rfl) (tb_7 57 rfl rfl) (by decide +kernel) rfl rfl (zCX12 C.hKa.1.1.1) rfl 272 113 (.invokevirtual 113) (Or.inr (Or.inl ⟨rfl, rfl⟩)) (eL_law_1 (272, .invokevirtual 113, 3) (List.mem_of_getElem? (i := 49) rfl)) _ _ _ [] [.ref mm, .long (lgI y1 y2), .int y3] hl2.1 (Nat.le_of_ble_eq_true rfl) hh1 ⟨⟨Or.inr ⟨_, rfl, hm11_1⟩, tz_l (zn_i64 _).1 (zn_i64 _).2, tz_i (zn_i32 _).1 (zn_i32 _).2, trivial⟩, fun e he => (by cases he), fun f hf => (by cases hf)⟩ (fun H3 lo3 r3 hh3 hk3 hal3 => ?_)
  obtain ⟨w3, rfl, v3, rfl, -, -⟩ := zc_one (t := (0, (-2147483648), 2147483647)) (L := []) hal3
  have hH3 := hh3.2.1 b C.hbl
  have j3 := j1.kept hx10_1 hm11_1 hk3 (by decide) (by decide)
  have kk3 := (kk1.kept hx10_1 hm11_1 hk3 (by decide) (by decide))
  refine W.eq (g2 := F0 m 275 ls2 [.int v3]) rfl ?_
  refine lv_istore C.hx C.hb (eL_law_1 (275, .istore 6, 2) (List.mem_of_getElem? (i := 50) rfl)) hl2 (by decide) rfl (fun ls4 (hl4 : lv_has ls4 8 [(6, .int v3), (5, .int k1), (4, .int iv), (3, .ref o), (2, .ref mm), (1, .ref x), (0, .ref b)]) => ?_)
  refine lv_goto C.hx C.hb (eL_law_1 (277, .goto 1518, 3) (List.mem_of_getElem? (i := 51) rfl)) (tgt := 1795) rfl ?_
  exact W.widen (k := cells + 6) (n := slots + 147) (by omega) (by omega) (K ro1 _ _ _ ⟨hh3, he_1, hx10_1, hm11_1, ho42_1, j3, kk3⟩ (lv_sub hl4 [2, 3, 4, 5, 6] rfl))
def tL_law_2 : List (Nat × Instr × Nat) := [(280, .aload_n 1, 1), (281, .aload_n 0, 1), (282, .iload 4, 2), (284, .iconst 1, 1), (285, .iadd, 1), (286, .iaload, 1), (287, .aload_n 0, 1), (288, .iload 4, 2), (290, .iconst 2, 1), (291, .iadd, 1), (292, .iaload, 1), (293, .aload_n 0, 1), (294, .iload 4, 2), (296, .iconst 3, 1), (297, .iadd, 1), (298, .iaload, 1), (299, .aload_n 3, 1), (300, .invokestatic 114, 3), (303, .istore 5, 2), (305, .aload_n 2, 1), (306, .aload_n 0, 1), (307, .iload 4, 2), (309, .iconst 1, 1), (310, .iadd, 1), (311, .iaload, 1), (312, .aload_n 0, 1), (313, .iload 4, 2), (315, .iconst 2, 1), (316, .iadd, 1), (317, .iaload, 1), (318, .aload_n 0, 1), (319, .iload 4, 2), (321, .iconst 3, 1), (322, .iadd, 1), (323, .iaload, 1), (324, .invokevirtual 116, 3), (327, .lstore 6, 2), (329, .goto 1466, 3)]
set_option maxRecDepth 100000 in
theorem eL_law_2 : ∀ x ∈ tL_law_2, decode cL_law x.1 = .ok x.2 := by decide +kernel
set_option maxRecDepth 100000 in
set_option maxHeartbeats 4000000 in
theorem lw_case_2 {p : Program} {l : Launch} {e : Env} {s : State} {m : MethodId} {below : List Frame} {meth : Method} {c : Code} {b L : Nat} {xs : Nat → Int32} {D : va_G} {cA : Nat → ClassId} {ro0 ro : Nat → Option Nat} {H : Heap} {locs : List Loc} {cells slots : Nat} {Q : State → Prop} {ls : Array Slot} {i x mm o : Nat} {iv : Int32} (C : lw_C p l s m meth c b L xs D cA ro0) (hi : i + 8 ≤ L) (hiv : iv.toInt = (i : Int)) (I : lw_I D cA ro0 s x mm o ro H locs) (hl : lv_has ls 8 [(4, .int iv), (3, .ref o), (2, .ref mm), (1, .ref x), (0, .ref b)]) (hc : cells + 6 ≤ 601024) (hs : slots + 147 ≤ 7293034) (K : ∀ (ro9 : Nat → Option Nat) (H9 : Heap) (lo9 : List Loc) (ls9 : Array Slot), lw_I D cA ro0 s x mm o ro9 H9 lo9 → lv_has ls9 8 [(4, .int iv), (3, .ref o), (2, .ref mm), (1, .ref x), (0, .ref b)] → W p l e room_1 s m #[Value.ref b] below meth c H9 lo9 (cells + 6) (slots + 147) Q (F0 m 1795 ls9 [])) : W p l e room_1 s m #[Value.ref b] below meth c H locs cells slots Q (F0 m 280 ls []) := by
  have hL := C.hL
  have hH0 := I.hh.2.1 b C.hbl
  have hts0 : ∀ w ∈ Cond.initialized "MomentTextsLaw" :: gT, w.before #[Value.ref b] s = true := fun w hw => (List.mem_cons.mp hw).elim (fun g => by rw [g]; exact C.h2 _ (tb_1 0 rfl rfl)) (C.h2 w)
  generalize hy1 : xs (i + 1) = y1
  generalize hy2 : xs (i + 2) = y2
  generalize hy3 : xs (i + 3) = y3
  generalize hy4 : xs (i + 4) = y4
  generalize hy5 : xs (i + 5) = y5
  generalize hy6 : xs (i + 6) = y6
  generalize hy7 : xs (i + 7) = y7
  refine lv_aload_n C.hx C.hb (eL_law_2 (280, .aload_n 1, 1) (List.mem_of_getElem? (i := 0) rfl)) rfl (lv_at hl 3 rfl) ?_
  refine lw_rd (k := 1) C hi hiv hH0 (lv_at hl 0 rfl) (lv_at hl 4 rfl) (by decide) rfl (eL_law_2 (281, .aload_n 0, 1) (List.mem_of_getElem? (i := 1) rfl)) (eL_law_2 (282, .iload 4, 2) (List.mem_of_getElem? (i := 2) rfl)) (eL_law_2 (284, .iconst 1, 1) (List.mem_of_getElem? (i := 3) rfl)) (eL_law_2 (285, .iadd, 1) (List.mem_of_getElem? (i := 4) rfl)) (eL_law_2 (286, .iaload, 1) (List.mem_of_getElem? (i := 5) rfl)) hy1 ?_
  refine lw_rd (k := 2) C hi hiv hH0 (lv_at hl 0 rfl) (lv_at hl 4 rfl) (by decide) rfl (eL_law_2 (287, .aload_n 0, 1) (List.mem_of_getElem? (i := 6) rfl)) (eL_law_2 (288, .iload 4, 2) (List.mem_of_getElem? (i := 7) rfl)) (eL_law_2 (290, .iconst 2, 1) (List.mem_of_getElem? (i := 8) rfl)) (eL_law_2 (291, .iadd, 1) (List.mem_of_getElem? (i := 9) rfl)) (eL_law_2 (292, .iaload, 1) (List.mem_of_getElem? (i := 10) rfl)) hy2 ?_
  refine lw_rd (k := 3) C hi hiv hH0 (lv_at hl 0 rfl) (lv_at hl 4 rfl) (by decide) rfl (eL_law_2 (293, .aload_n 0, 1) (List.mem_of_getElem? (i := 11) rfl)) (eL_law_2 (294, .iload 4, 2) (List.mem_of_getElem? (i := 12) rfl)) (eL_law_2 (296, .iconst 3, 1) (List.mem_of_getElem? (i := 13) rfl)) (eL_law_2 (297, .iadd, 1) (List.mem_of_getElem? (i := 14) rfl)) (eL_law_2 (298, .iaload, 1) (List.mem_of_getElem? (i := 15) rfl)) hy3 ?_
  refine lv_aload_n C.hx C.hb (eL_law_2 (299, .aload_n 3, 1) (List.mem_of_getElem? (i := 16) rfl)) rfl (lv_at hl 1 rfl) ?_
  refine zw_row (As := [.ref x, .int y1, .int y2, .int y3, .ref o]) (st := []) (Ts := gT) C.hx C.hb C.hml C.hown C.h2 (fun _ h => h) (wL_weekDay l C.hst D cA ro s.heap.size s.heap x y1 y2 y3 o I.hx10 I.ho42) ⟨rfl, rfl⟩ ⟨by decide, by decide⟩ ⟨by show cells + 1 ≤ 601024; omega, by show slots + 6 ≤ 7293034; omega⟩ (tb_3 12 rfl rfl) (tb_1 0 rfl rfl) (tb_3 10 rfl rfl) (tb_3 11 rfl rfl) (show yL_weekDay.cls ≠ "java/lang/invoke/MethodHandle" ∧ yL_weekDay.cls ≠ "java/lang/invoke/VarHandle" ∧ (parseMethodDescriptor yL_weekDay.desc).map (fun d => d.parameters.length) = some 5 by decide +kernel) zw_blind (fun U hU hW => ⟨rfl, by rw [hU]; exact I.hh.l0, (C.hKa.ext I.he).warm hW⟩) I.hh.2.2.1 hl.1 (Nat.le_of_ble_eq_true rfl) (eL_law_2 (300, .invokestatic 114, 3) (List.mem_of_getElem? (i := 17) rfl)) (fun r1 s1 t1 lo1 g1 f1 l1 => ?_)
  obtain ⟨k1, ro1, q1, he1, z1, kp1⟩ := f1
  cases q1
  rw [g1] at kp1
  have hh1 : zh_ok D cA RTg ro1 s.heap.size s.heap t1.heap lo1 := ⟨z1.1, z1.2.1, l1, z1.2.2.2⟩
  have j1 := (I.hj.kept I.hx10 I.hm11 kp1 (by decide) (by decide)).ext he1
  have kk1 := (I.hk.kept I.hx10 I.hm11 kp1 (by decide) (by decide)).ext he1
  have hx10_1 := he1 _ _ I.hx10
  have hm11_1 := he1 _ _ I.hm11
  have ho42_1 := he1 _ _ I.ho42
  have he_1 := fun q r g => he1 q r (I.he q r g)
  have hH1 := hh1.2.1 b C.hbl
  refine W.eq (g2 := F0 m 303 ls [.int k1]) rfl ?_
  refine lv_istore C.hx C.hb (eL_law_2 (303, .istore 5, 2) (List.mem_of_getElem? (i := 18) rfl)) hl (by decide) rfl (fun ls2 (hl2 : lv_has ls2 8 [(5, .int k1), (4, .int iv), (3, .ref o), (2, .ref mm), (1, .ref x), (0, .ref b)]) => ?_)
  refine lv_aload_n C.hx C.hb (eL_law_2 (305, .aload_n 2, 1) (List.mem_of_getElem? (i := 19) rfl)) rfl (lv_at hl2 3 rfl) ?_
  refine lw_rd (k := 1) C hi hiv hH1 (lv_at hl2 1 rfl) (lv_at hl2 5 rfl) (by decide) rfl (eL_law_2 (306, .aload_n 0, 1) (List.mem_of_getElem? (i := 20) rfl)) (eL_law_2 (307, .iload 4, 2) (List.mem_of_getElem? (i := 21) rfl)) (eL_law_2 (309, .iconst 1, 1) (List.mem_of_getElem? (i := 22) rfl)) (eL_law_2 (310, .iadd, 1) (List.mem_of_getElem? (i := 23) rfl)) (eL_law_2 (311, .iaload, 1) (List.mem_of_getElem? (i := 24) rfl)) hy1 ?_
  refine lw_rd (k := 2) C hi hiv hH1 (lv_at hl2 1 rfl) (lv_at hl2 5 rfl) (by decide) rfl (eL_law_2 (312, .aload_n 0, 1) (List.mem_of_getElem? (i := 25) rfl)) (eL_law_2 (313, .iload 4, 2) (List.mem_of_getElem? (i := 26) rfl)) (eL_law_2 (315, .iconst 2, 1) (List.mem_of_getElem? (i := 27) rfl)) (eL_law_2 (316, .iadd, 1) (List.mem_of_getElem? (i := 28) rfl)) (eL_law_2 (317, .iaload, 1) (List.mem_of_getElem? (i := 29) rfl)) hy2 ?_
  refine lw_rd (k := 3) C hi hiv hH1 (lv_at hl2 1 rfl) (lv_at hl2 5 rfl) (by decide) rfl (eL_law_2 (318, .aload_n 0, 1) (List.mem_of_getElem? (i := 30) rfl)) (eL_law_2 (319, .iload 4, 2) (List.mem_of_getElem? (i := 31) rfl)) (eL_law_2 (321, .iconst 3, 1) (List.mem_of_getElem? (i := 32) rfl)) (eL_law_2 (322, .iadd, 1) (List.mem_of_getElem? (i := 33) rfl)) (eL_law_2 (323, .iaload, 1) (List.mem_of_getElem? (i := 34) rfl)) hy3 ?_
  refine zr_V (idx := 116) (r := 11) (ci := 11) (n0 := 0) (fs := fsX12) (lo := 0) (hi0 := 0) (ts := [(0, (-2147483648), 2147483647), (0, (-2147483648), 2147483647), (0, (-2147483648), 2147483647)]) C.hx C.hb C.hml C.hown hts0 (C.hKa.ext he_1).1.1 zKb (mX12_weekDay l D cA ro1 s.heap.size s.heap) ⟨rfl, rfl⟩ ⟨by decide, by decide⟩ ⟨by show (cells + 1) ≤ 601024; omega, by show (slots + 6) ≤ 7293034; omega⟩ (tb_7 89 rfl rfl) (tb_1 12 rfl rfl) (tb_7 86 rfl rfl) (tb_7 87 rfl rfl) (tb_7 88 rfl rfl) (by decide +kernel) rfl rfl (zCX12 C.hKa.1.1.1) rfl 324 116 (.invokevirtual 116) (Or.inr (Or.inl ⟨rfl, rfl⟩)) (eL_law_2 (324, .invokevirtual 116, 3) (List.mem_of_getElem? (i := 35) rfl)) _ _ _ [] [.ref mm, .int y1, .int y2, .int y3] hl2.1 (Nat.le_of_ble_eq_true rfl) hh1 ⟨⟨Or.inr ⟨_, rfl, hm11_1⟩, tz_i (zn_i32 _).1 (zn_i32 _).2, tz_i (zn_i32 _).1 (zn_i32 _).2, tz_i (zn_i32 _).1 (zn_i32 _).2, trivial⟩, fun e he => (by cases he), fun f hf => (by cases hf)⟩ (fun H3 lo3 r3 hh3 hk3 hal3 => ?_)
  obtain ⟨w3, rfl, v3, rfl, -, -⟩ := zc_one (t := (1, (-9223372036854775808), 9223372036854775807)) (L := []) hal3
  have hH3 := hh3.2.1 b C.hbl
  have j3 := j1.kept hx10_1 hm11_1 hk3 (by decide) (by decide)
  have kk3 := (kk1.kept hx10_1 hm11_1 hk3 (by decide) (by decide))
  refine W.eq (g2 := F0 m 327 ls2 [.long v3]) rfl ?_
  refine lv_lstore C.hx C.hb (eL_law_2 (327, .lstore 6, 2) (List.mem_of_getElem? (i := 36) rfl)) hl2 (by decide) rfl (fun ls4 (hl4 : lv_has ls4 8 [(6, .long v3), (5, .int k1), (4, .int iv), (3, .ref o), (2, .ref mm), (1, .ref x), (0, .ref b)]) => ?_)
  refine lv_goto C.hx C.hb (eL_law_2 (329, .goto 1466, 3) (List.mem_of_getElem? (i := 37) rfl)) (tgt := 1795) rfl ?_
  exact W.widen (k := cells + 6) (n := slots + 147) (by omega) (by omega) (K ro1 _ _ _ ⟨hh3, he_1, hx10_1, hm11_1, ho42_1, j3, kk3⟩ (lv_sub hl4 [2, 3, 4, 5, 6] rfl))
def tL_law_3 : List (Nat × Instr × Nat) := [(332, .aload_n 1, 1), (333, .aload_n 0, 1), (334, .iload 4, 2), (336, .iconst 1, 1), (337, .iadd, 1), (338, .iaload, 1), (339, .i2l, 1), (340, .bipush 32, 2), (342, .lshl, 1), (343, .aload_n 0, 1), (344, .iload 4, 2), (346, .iconst 2, 1), (347, .iadd, 1), (348, .iaload, 1), (349, .i2l, 1), (350, .ldc2_w 108, 3), (353, .land, 1), (354, .lor, 1), (355, .aload_n 0, 1), (356, .iload 4, 2), (358, .iconst 3, 1), (359, .iadd, 1), (360, .iaload, 1), (361, .aload_n 3, 1), (362, .invokestatic 117, 3), (365, .istore 5, 2), (367, .aload_n 2, 1), (368, .aload_n 0, 1), (369, .iload 4, 2), (371, .iconst 1, 1), (372, .iadd, 1), (373, .iaload, 1), (374, .i2l, 1), (375, .bipush 32, 2), (377, .lshl, 1), (378, .aload_n 0, 1), (379, .iload 4, 2), (381, .iconst 2, 1), (382, .iadd, 1), (383, .iaload, 1), (384, .i2l, 1), (385, .ldc2_w 108, 3), (388, .land, 1), (389, .lor, 1), (390, .aload_n 0, 1), (391, .iload 4, 2), (393, .iconst 3, 1), (394, .iadd, 1), (395, .iaload, 1), (396, .invokevirtual 119, 3), (399, .lstore 6, 2), (401, .goto 1394, 3)]
set_option maxRecDepth 100000 in
theorem eL_law_3 : ∀ x ∈ tL_law_3, decode cL_law x.1 = .ok x.2 := by decide +kernel
set_option maxRecDepth 100000 in
set_option maxHeartbeats 4000000 in
theorem lw_case_3 {p : Program} {l : Launch} {e : Env} {s : State} {m : MethodId} {below : List Frame} {meth : Method} {c : Code} {b L : Nat} {xs : Nat → Int32} {D : va_G} {cA : Nat → ClassId} {ro0 ro : Nat → Option Nat} {H : Heap} {locs : List Loc} {cells slots : Nat} {Q : State → Prop} {ls : Array Slot} {i x mm o : Nat} {iv : Int32} (C : lw_C p l s m meth c b L xs D cA ro0) (hi : i + 8 ≤ L) (hiv : iv.toInt = (i : Int)) (I : lw_I D cA ro0 s x mm o ro H locs) (hl : lv_has ls 8 [(4, .int iv), (3, .ref o), (2, .ref mm), (1, .ref x), (0, .ref b)]) (hc : cells + 6 ≤ 601024) (hs : slots + 147 ≤ 7293034) (K : ∀ (ro9 : Nat → Option Nat) (H9 : Heap) (lo9 : List Loc) (ls9 : Array Slot), lw_I D cA ro0 s x mm o ro9 H9 lo9 → lv_has ls9 8 [(4, .int iv), (3, .ref o), (2, .ref mm), (1, .ref x), (0, .ref b)] → W p l e room_1 s m #[Value.ref b] below meth c H9 lo9 (cells + 6) (slots + 147) Q (F0 m 1795 ls9 [])) : W p l e room_1 s m #[Value.ref b] below meth c H locs cells slots Q (F0 m 332 ls []) := by
  have hL := C.hL
  have hH0 := I.hh.2.1 b C.hbl
  have hts0 : ∀ w ∈ Cond.initialized "MomentTextsLaw" :: gT, w.before #[Value.ref b] s = true := fun w hw => (List.mem_cons.mp hw).elim (fun g => by rw [g]; exact C.h2 _ (tb_1 0 rfl rfl)) (C.h2 w)
  generalize hy1 : xs (i + 1) = y1
  generalize hy2 : xs (i + 2) = y2
  generalize hy3 : xs (i + 3) = y3
  generalize hy4 : xs (i + 4) = y4
  generalize hy5 : xs (i + 5) = y5
  generalize hy6 : xs (i + 6) = y6
  generalize hy7 : xs (i + 7) = y7
  refine lv_aload_n C.hx C.hb (eL_law_3 (332, .aload_n 1, 1) (List.mem_of_getElem? (i := 0) rfl)) rfl (lv_at hl 3 rfl) ?_
  refine lw_rd (k := 1) C hi hiv hH0 (lv_at hl 0 rfl) (lv_at hl 4 rfl) (by decide) rfl (eL_law_3 (333, .aload_n 0, 1) (List.mem_of_getElem? (i := 1) rfl)) (eL_law_3 (334, .iload 4, 2) (List.mem_of_getElem? (i := 2) rfl)) (eL_law_3 (336, .iconst 1, 1) (List.mem_of_getElem? (i := 3) rfl)) (eL_law_3 (337, .iadd, 1) (List.mem_of_getElem? (i := 4) rfl)) (eL_law_3 (338, .iaload, 1) (List.mem_of_getElem? (i := 5) rfl)) hy1 ?_
  refine lv_i2l C.hx C.hb (eL_law_3 (339, .i2l, 1) (List.mem_of_getElem? (i := 6) rfl)) rfl ?_
  refine lv_bipush C.hx C.hb (eL_law_3 (340, .bipush 32, 2) (List.mem_of_getElem? (i := 7) rfl)) rfl ?_
  refine lv_lshl C.hx C.hb (eL_law_3 (342, .lshl, 1) (List.mem_of_getElem? (i := 8) rfl)) rfl ?_
  refine lw_rd (k := 2) C hi hiv hH0 (lv_at hl 0 rfl) (lv_at hl 4 rfl) (by decide) rfl (eL_law_3 (343, .aload_n 0, 1) (List.mem_of_getElem? (i := 9) rfl)) (eL_law_3 (344, .iload 4, 2) (List.mem_of_getElem? (i := 10) rfl)) (eL_law_3 (346, .iconst 2, 1) (List.mem_of_getElem? (i := 11) rfl)) (eL_law_3 (347, .iadd, 1) (List.mem_of_getElem? (i := 12) rfl)) (eL_law_3 (348, .iaload, 1) (List.mem_of_getElem? (i := 13) rfl)) hy2 ?_
  refine lv_i2l C.hx C.hb (eL_law_3 (349, .i2l, 1) (List.mem_of_getElem? (i := 14) rfl)) rfl ?_
  refine lv_ldc2 C.hx C.hb C.hown (C.h2 _ (tb_8 200 rfl rfl)) (eL_law_3 (350, .ldc2_w 108, 3) (List.mem_of_getElem? (i := 15) rfl)) ?_
  refine lv_land C.hx C.hb (eL_law_3 (353, .land, 1) (List.mem_of_getElem? (i := 16) rfl)) ?_
  refine lv_lor C.hx C.hb (eL_law_3 (354, .lor, 1) (List.mem_of_getElem? (i := 17) rfl)) ?_
  refine W.eq (g2 := F0 m 355 ls [.long (lgI y1 y2), .ref x]) rfl ?_
  refine lw_rd (k := 3) C hi hiv hH0 (lv_at hl 0 rfl) (lv_at hl 4 rfl) (by decide) rfl (eL_law_3 (355, .aload_n 0, 1) (List.mem_of_getElem? (i := 18) rfl)) (eL_law_3 (356, .iload 4, 2) (List.mem_of_getElem? (i := 19) rfl)) (eL_law_3 (358, .iconst 3, 1) (List.mem_of_getElem? (i := 20) rfl)) (eL_law_3 (359, .iadd, 1) (List.mem_of_getElem? (i := 21) rfl)) (eL_law_3 (360, .iaload, 1) (List.mem_of_getElem? (i := 22) rfl)) hy3 ?_
  refine lv_aload_n C.hx C.hb (eL_law_3 (361, .aload_n 3, 1) (List.mem_of_getElem? (i := 23) rfl)) rfl (lv_at hl 1 rfl) ?_
  refine zw_row (As := [.ref x, .long (lgI y1 y2), .int y3, .ref o]) (st := []) (Ts := gT) C.hx C.hb C.hml C.hown C.h2 (fun _ h => h) (wL_months l C.hst D cA ro s.heap.size s.heap x (lgI y1 y2) y3 o I.hx10 I.ho42) ⟨rfl, rfl⟩ ⟨by decide, by decide⟩ ⟨by show cells + 1 ≤ 601024; omega, by show slots + 6 ≤ 7293034; omega⟩ (tb_3 23 rfl rfl) (tb_1 0 rfl rfl) (tb_3 21 rfl rfl) (tb_3 22 rfl rfl) (show yL_months.cls ≠ "java/lang/invoke/MethodHandle" ∧ yL_months.cls ≠ "java/lang/invoke/VarHandle" ∧ (parseMethodDescriptor yL_months.desc).map (fun d => d.parameters.length) = some 4 by decide +kernel) zw_blind (fun U hU hW => ⟨rfl, by rw [hU]; exact I.hh.l0, (C.hKa.ext I.he).warm hW⟩) I.hh.2.2.1 hl.1 (Nat.le_of_ble_eq_true rfl) (eL_law_3 (362, .invokestatic 117, 3) (List.mem_of_getElem? (i := 24) rfl)) (fun r1 s1 t1 lo1 g1 f1 l1 => ?_)
  obtain ⟨k1, ro1, q1, he1, z1, kp1⟩ := f1
  cases q1
  rw [g1] at kp1
  have hh1 : zh_ok D cA RTg ro1 s.heap.size s.heap t1.heap lo1 := ⟨z1.1, z1.2.1, l1, z1.2.2.2⟩
  have j1 := (I.hj.kept I.hx10 I.hm11 kp1 (by decide) (by decide)).ext he1
  have kk1 := (I.hk.kept I.hx10 I.hm11 kp1 (by decide) (by decide)).ext he1
  have hx10_1 := he1 _ _ I.hx10
  have hm11_1 := he1 _ _ I.hm11
  have ho42_1 := he1 _ _ I.ho42
  have he_1 := fun q r g => he1 q r (I.he q r g)
  have hH1 := hh1.2.1 b C.hbl
  refine W.eq (g2 := F0 m 365 ls [.int k1]) rfl ?_
  refine lv_istore C.hx C.hb (eL_law_3 (365, .istore 5, 2) (List.mem_of_getElem? (i := 25) rfl)) hl (by decide) rfl (fun ls2 (hl2 : lv_has ls2 8 [(5, .int k1), (4, .int iv), (3, .ref o), (2, .ref mm), (1, .ref x), (0, .ref b)]) => ?_)
  refine lv_aload_n C.hx C.hb (eL_law_3 (367, .aload_n 2, 1) (List.mem_of_getElem? (i := 26) rfl)) rfl (lv_at hl2 3 rfl) ?_
  refine lw_rd (k := 1) C hi hiv hH1 (lv_at hl2 1 rfl) (lv_at hl2 5 rfl) (by decide) rfl (eL_law_3 (368, .aload_n 0, 1) (List.mem_of_getElem? (i := 27) rfl)) (eL_law_3 (369, .iload 4, 2) (List.mem_of_getElem? (i := 28) rfl)) (eL_law_3 (371, .iconst 1, 1) (List.mem_of_getElem? (i := 29) rfl)) (eL_law_3 (372, .iadd, 1) (List.mem_of_getElem? (i := 30) rfl)) (eL_law_3 (373, .iaload, 1) (List.mem_of_getElem? (i := 31) rfl)) hy1 ?_
  refine lv_i2l C.hx C.hb (eL_law_3 (374, .i2l, 1) (List.mem_of_getElem? (i := 32) rfl)) rfl ?_
  refine lv_bipush C.hx C.hb (eL_law_3 (375, .bipush 32, 2) (List.mem_of_getElem? (i := 33) rfl)) rfl ?_
  refine lv_lshl C.hx C.hb (eL_law_3 (377, .lshl, 1) (List.mem_of_getElem? (i := 34) rfl)) rfl ?_
  refine lw_rd (k := 2) C hi hiv hH1 (lv_at hl2 1 rfl) (lv_at hl2 5 rfl) (by decide) rfl (eL_law_3 (378, .aload_n 0, 1) (List.mem_of_getElem? (i := 35) rfl)) (eL_law_3 (379, .iload 4, 2) (List.mem_of_getElem? (i := 36) rfl)) (eL_law_3 (381, .iconst 2, 1) (List.mem_of_getElem? (i := 37) rfl)) (eL_law_3 (382, .iadd, 1) (List.mem_of_getElem? (i := 38) rfl)) (eL_law_3 (383, .iaload, 1) (List.mem_of_getElem? (i := 39) rfl)) hy2 ?_
  refine lv_i2l C.hx C.hb (eL_law_3 (384, .i2l, 1) (List.mem_of_getElem? (i := 40) rfl)) rfl ?_
  refine lv_ldc2 C.hx C.hb C.hown (C.h2 _ (tb_8 200 rfl rfl)) (eL_law_3 (385, .ldc2_w 108, 3) (List.mem_of_getElem? (i := 41) rfl)) ?_
  refine lv_land C.hx C.hb (eL_law_3 (388, .land, 1) (List.mem_of_getElem? (i := 42) rfl)) ?_
  refine lv_lor C.hx C.hb (eL_law_3 (389, .lor, 1) (List.mem_of_getElem? (i := 43) rfl)) ?_
  refine W.eq (g2 := F0 m 390 ls2 [.long (lgI y1 y2), .ref mm]) rfl ?_
  refine lw_rd (k := 3) C hi hiv hH1 (lv_at hl2 1 rfl) (lv_at hl2 5 rfl) (by decide) rfl (eL_law_3 (390, .aload_n 0, 1) (List.mem_of_getElem? (i := 44) rfl)) (eL_law_3 (391, .iload 4, 2) (List.mem_of_getElem? (i := 45) rfl)) (eL_law_3 (393, .iconst 3, 1) (List.mem_of_getElem? (i := 46) rfl)) (eL_law_3 (394, .iadd, 1) (List.mem_of_getElem? (i := 47) rfl)) (eL_law_3 (395, .iaload, 1) (List.mem_of_getElem? (i := 48) rfl)) hy3 ?_
  refine zr_V (idx := 119) (r := 11) (ci := 11) (n0 := 0) (fs := fsX12) (lo := 0) (hi0 := 0) (ts := [(1, (-9223372036854775808), 9223372036854775807), (0, (-2147483648), 2147483647)]) C.hx C.hb C.hml C.hown hts0 (C.hKa.ext he_1).1.1 zKb (mX12_months l D cA ro1 s.heap.size s.heap) ⟨rfl, rfl⟩ ⟨by decide, by decide⟩ ⟨by show (cells + 1) ≤ 601024; omega, by show (slots + 6) ≤ 7293034; omega⟩ (tb_7 93 rfl rfl) (tb_1 12 rfl rfl) (tb_7 90 rfl rfl) (tb_7 91 rfl rfl) (tb_7 92 rfl rfl) (by decide +kernel) rfl rfl (zCX12 C.hKa.1.1.1) rfl 396 119 (.invokevirtual 119) (Or.inr (Or.inl ⟨rfl, rfl⟩)) (eL_law_3 (396, .invokevirtual 119, 3) (List.mem_of_getElem? (i := 49) rfl)) _ _ _ [] [.ref mm, .long (lgI y1 y2), .int y3] hl2.1 (Nat.le_of_ble_eq_true rfl) hh1 ⟨⟨Or.inr ⟨_, rfl, hm11_1⟩, tz_l (zn_i64 _).1 (zn_i64 _).2, tz_i (zn_i32 _).1 (zn_i32 _).2, trivial⟩, fun e he => (by cases he), fun f hf => (by cases hf)⟩ (fun H3 lo3 r3 hh3 hk3 hal3 => ?_)
  obtain ⟨w3, rfl, v3, rfl, -, -⟩ := zc_one (t := (1, (-9223372036854775808), 9223372036854775807)) (L := []) hal3
  have hH3 := hh3.2.1 b C.hbl
  have j3 := j1.kept hx10_1 hm11_1 hk3 (by decide) (by decide)
  have kk3 := (kk1.kept hx10_1 hm11_1 hk3 (by decide) (by decide))
  refine W.eq (g2 := F0 m 399 ls2 [.long v3]) rfl ?_
  refine lv_lstore C.hx C.hb (eL_law_3 (399, .lstore 6, 2) (List.mem_of_getElem? (i := 50) rfl)) hl2 (by decide) rfl (fun ls4 (hl4 : lv_has ls4 8 [(6, .long v3), (5, .int k1), (4, .int iv), (3, .ref o), (2, .ref mm), (1, .ref x), (0, .ref b)]) => ?_)
  refine lv_goto C.hx C.hb (eL_law_3 (401, .goto 1394, 3) (List.mem_of_getElem? (i := 51) rfl)) (tgt := 1795) rfl ?_
  exact W.widen (k := cells + 6) (n := slots + 147) (by omega) (by omega) (K ro1 _ _ _ ⟨hh3, he_1, hx10_1, hm11_1, ho42_1, j3, kk3⟩ (lv_sub hl4 [2, 3, 4, 5, 6] rfl))
def tL_law_4 : List (Nat × Instr × Nat) := [(404, .aload_n 1, 1), (405, .aload_n 0, 1), (406, .iload 4, 2), (408, .iconst 1, 1), (409, .iadd, 1), (410, .iaload, 1), (411, .aload_n 3, 1), (412, .invokestatic 120, 3), (415, .istore 5, 2), (417, .aload_n 2, 1), (418, .aload_n 0, 1), (419, .iload 4, 2), (421, .iconst 1, 1), (422, .iadd, 1), (423, .iaload, 1), (424, .invokevirtual 123, 3), (427, .lstore 6, 2), (429, .goto 1366, 3)]
set_option maxRecDepth 100000 in
theorem eL_law_4 : ∀ x ∈ tL_law_4, decode cL_law x.1 = .ok x.2 := by decide +kernel
set_option maxRecDepth 100000 in
set_option maxHeartbeats 4000000 in
theorem lw_case_4 {p : Program} {l : Launch} {e : Env} {s : State} {m : MethodId} {below : List Frame} {meth : Method} {c : Code} {b L : Nat} {xs : Nat → Int32} {D : va_G} {cA : Nat → ClassId} {ro0 ro : Nat → Option Nat} {H : Heap} {locs : List Loc} {cells slots : Nat} {Q : State → Prop} {ls : Array Slot} {i x mm o : Nat} {iv : Int32} (C : lw_C p l s m meth c b L xs D cA ro0) (hi : i + 8 ≤ L) (hiv : iv.toInt = (i : Int)) (I : lw_I D cA ro0 s x mm o ro H locs) (hl : lv_has ls 8 [(4, .int iv), (3, .ref o), (2, .ref mm), (1, .ref x), (0, .ref b)]) (hc : cells + 6 ≤ 601024) (hs : slots + 147 ≤ 7293034) (K : ∀ (ro9 : Nat → Option Nat) (H9 : Heap) (lo9 : List Loc) (ls9 : Array Slot), lw_I D cA ro0 s x mm o ro9 H9 lo9 → lv_has ls9 8 [(4, .int iv), (3, .ref o), (2, .ref mm), (1, .ref x), (0, .ref b)] → W p l e room_1 s m #[Value.ref b] below meth c H9 lo9 (cells + 6) (slots + 147) Q (F0 m 1795 ls9 [])) : W p l e room_1 s m #[Value.ref b] below meth c H locs cells slots Q (F0 m 404 ls []) := by
  have hL := C.hL
  have hH0 := I.hh.2.1 b C.hbl
  have hts0 : ∀ w ∈ Cond.initialized "MomentTextsLaw" :: gT, w.before #[Value.ref b] s = true := fun w hw => (List.mem_cons.mp hw).elim (fun g => by rw [g]; exact C.h2 _ (tb_1 0 rfl rfl)) (C.h2 w)
  generalize hy1 : xs (i + 1) = y1
  generalize hy2 : xs (i + 2) = y2
  generalize hy3 : xs (i + 3) = y3
  generalize hy4 : xs (i + 4) = y4
  generalize hy5 : xs (i + 5) = y5
  generalize hy6 : xs (i + 6) = y6
  generalize hy7 : xs (i + 7) = y7
  refine lv_aload_n C.hx C.hb (eL_law_4 (404, .aload_n 1, 1) (List.mem_of_getElem? (i := 0) rfl)) rfl (lv_at hl 3 rfl) ?_
  refine lw_rd (k := 1) C hi hiv hH0 (lv_at hl 0 rfl) (lv_at hl 4 rfl) (by decide) rfl (eL_law_4 (405, .aload_n 0, 1) (List.mem_of_getElem? (i := 1) rfl)) (eL_law_4 (406, .iload 4, 2) (List.mem_of_getElem? (i := 2) rfl)) (eL_law_4 (408, .iconst 1, 1) (List.mem_of_getElem? (i := 3) rfl)) (eL_law_4 (409, .iadd, 1) (List.mem_of_getElem? (i := 4) rfl)) (eL_law_4 (410, .iaload, 1) (List.mem_of_getElem? (i := 5) rfl)) hy1 ?_
  refine lv_aload_n C.hx C.hb (eL_law_4 (411, .aload_n 3, 1) (List.mem_of_getElem? (i := 6) rfl)) rfl (lv_at hl 1 rfl) ?_
  refine zw_row (As := [.ref x, .int y1, .ref o]) (st := []) (Ts := gT) C.hx C.hb C.hml C.hown C.h2 (fun _ h => h) (wL_easter l C.hst D cA ro s.heap.size s.heap x y1 o I.hx10 I.ho42) ⟨rfl, rfl⟩ ⟨by decide, by decide⟩ ⟨by show cells + 1 ≤ 601024; omega, by show slots + 6 ≤ 7293034; omega⟩ (tb_3 52 rfl rfl) (tb_1 0 rfl rfl) (tb_3 50 rfl rfl) (tb_3 51 rfl rfl) (show yL_easter.cls ≠ "java/lang/invoke/MethodHandle" ∧ yL_easter.cls ≠ "java/lang/invoke/VarHandle" ∧ (parseMethodDescriptor yL_easter.desc).map (fun d => d.parameters.length) = some 3 by decide +kernel) zw_blind (fun U hU hW => ⟨rfl, by rw [hU]; exact I.hh.l0, (C.hKa.ext I.he).warm hW⟩) I.hh.2.2.1 hl.1 (Nat.le_of_ble_eq_true rfl) (eL_law_4 (412, .invokestatic 120, 3) (List.mem_of_getElem? (i := 7) rfl)) (fun r1 s1 t1 lo1 g1 f1 l1 => ?_)
  obtain ⟨k1, ro1, q1, he1, z1, kp1⟩ := f1
  cases q1
  rw [g1] at kp1
  have hh1 : zh_ok D cA RTg ro1 s.heap.size s.heap t1.heap lo1 := ⟨z1.1, z1.2.1, l1, z1.2.2.2⟩
  have j1 := (I.hj.kept I.hx10 I.hm11 kp1 (by decide) (by decide)).ext he1
  have kk1 := (I.hk.kept I.hx10 I.hm11 kp1 (by decide) (by decide)).ext he1
  have hx10_1 := he1 _ _ I.hx10
  have hm11_1 := he1 _ _ I.hm11
  have ho42_1 := he1 _ _ I.ho42
  have he_1 := fun q r g => he1 q r (I.he q r g)
  have hH1 := hh1.2.1 b C.hbl
  refine W.eq (g2 := F0 m 415 ls [.int k1]) rfl ?_
  refine lv_istore C.hx C.hb (eL_law_4 (415, .istore 5, 2) (List.mem_of_getElem? (i := 8) rfl)) hl (by decide) rfl (fun ls2 (hl2 : lv_has ls2 8 [(5, .int k1), (4, .int iv), (3, .ref o), (2, .ref mm), (1, .ref x), (0, .ref b)]) => ?_)
  refine lv_aload_n C.hx C.hb (eL_law_4 (417, .aload_n 2, 1) (List.mem_of_getElem? (i := 9) rfl)) rfl (lv_at hl2 3 rfl) ?_
  refine lw_rd (k := 1) C hi hiv hH1 (lv_at hl2 1 rfl) (lv_at hl2 5 rfl) (by decide) rfl (eL_law_4 (418, .aload_n 0, 1) (List.mem_of_getElem? (i := 10) rfl)) (eL_law_4 (419, .iload 4, 2) (List.mem_of_getElem? (i := 11) rfl)) (eL_law_4 (421, .iconst 1, 1) (List.mem_of_getElem? (i := 12) rfl)) (eL_law_4 (422, .iadd, 1) (List.mem_of_getElem? (i := 13) rfl)) (eL_law_4 (423, .iaload, 1) (List.mem_of_getElem? (i := 14) rfl)) hy1 ?_
  refine zr_V (idx := 123) (r := 11) (ci := 11) (n0 := 0) (fs := fsX12) (lo := 0) (hi0 := 0) (ts := [(0, (-2147483648), 2147483647)]) C.hx C.hb C.hml C.hown hts0 (C.hKa.ext he_1).1.1 zKb (mX12_easter l D cA ro1 s.heap.size s.heap) ⟨rfl, rfl⟩ ⟨by decide, by decide⟩ ⟨by show (cells + 1) ≤ 601024; omega, by show (slots + 6) ≤ 7293034; omega⟩ (tb_7 101 rfl rfl) (tb_1 12 rfl rfl) (tb_7 98 rfl rfl) (tb_7 99 rfl rfl) (tb_7 100 rfl rfl) (by decide +kernel) rfl rfl (zCX12 C.hKa.1.1.1) rfl 424 123 (.invokevirtual 123) (Or.inr (Or.inl ⟨rfl, rfl⟩)) (eL_law_4 (424, .invokevirtual 123, 3) (List.mem_of_getElem? (i := 15) rfl)) _ _ _ [] [.ref mm, .int y1] hl2.1 (Nat.le_of_ble_eq_true rfl) hh1 ⟨⟨Or.inr ⟨_, rfl, hm11_1⟩, tz_i (zn_i32 _).1 (zn_i32 _).2, trivial⟩, fun e he => (by cases he), fun f hf => (by cases hf)⟩ (fun H3 lo3 r3 hh3 hk3 hal3 => ?_)
  obtain ⟨w3, rfl, v3, rfl, -, -⟩ := zc_one (t := (1, (-9223372036854775808), 9223372036854775807)) (L := []) hal3
  have hH3 := hh3.2.1 b C.hbl
  have j3 := j1.kept hx10_1 hm11_1 hk3 (by decide) (by decide)
  have kk3 := (kk1.kept hx10_1 hm11_1 hk3 (by decide) (by decide))
  refine W.eq (g2 := F0 m 427 ls2 [.long v3]) rfl ?_
  refine lv_lstore C.hx C.hb (eL_law_4 (427, .lstore 6, 2) (List.mem_of_getElem? (i := 16) rfl)) hl2 (by decide) rfl (fun ls4 (hl4 : lv_has ls4 8 [(6, .long v3), (5, .int k1), (4, .int iv), (3, .ref o), (2, .ref mm), (1, .ref x), (0, .ref b)]) => ?_)
  refine lv_goto C.hx C.hb (eL_law_4 (429, .goto 1366, 3) (List.mem_of_getElem? (i := 17) rfl)) (tgt := 1795) rfl ?_
  exact W.widen (k := cells + 6) (n := slots + 147) (by omega) (by omega) (K ro1 _ _ _ ⟨hh3, he_1, hx10_1, hm11_1, ho42_1, j3, kk3⟩ (lv_sub hl4 [2, 3, 4, 5, 6] rfl))
def tL_law_5 : List (Nat × Instr × Nat) := [(432, .aload_n 1, 1), (433, .aload_n 0, 1), (434, .iload 4, 2), (436, .iconst 1, 1), (437, .iadd, 1), (438, .iaload, 1), (439, .i2l, 1), (440, .bipush 32, 2), (442, .lshl, 1), (443, .aload_n 0, 1), (444, .iload 4, 2), (446, .iconst 2, 1), (447, .iadd, 1), (448, .iaload, 1), (449, .i2l, 1), (450, .ldc2_w 108, 3), (453, .land, 1), (454, .lor, 1), (455, .aload_n 3, 1), (456, .invokestatic 124, 3), (459, .istore 5, 2), (461, .aload_n 2, 1), (462, .aload_n 0, 1), (463, .iload 4, 2), (465, .iconst 1, 1), (466, .iadd, 1), (467, .iaload, 1), (468, .i2l, 1), (469, .bipush 32, 2), (471, .lshl, 1), (472, .aload_n 0, 1), (473, .iload 4, 2), (475, .iconst 2, 1), (476, .iadd, 1), (477, .iaload, 1), (478, .i2l, 1), (479, .ldc2_w 108, 3), (482, .land, 1), (483, .lor, 1), (484, .invokevirtual 127, 3), (487, .istore 6, 2), (489, .goto 1306, 3)]
set_option maxRecDepth 100000 in
theorem eL_law_5 : ∀ x ∈ tL_law_5, decode cL_law x.1 = .ok x.2 := by decide +kernel
set_option maxRecDepth 100000 in
set_option maxHeartbeats 4000000 in
theorem lw_case_5 {p : Program} {l : Launch} {e : Env} {s : State} {m : MethodId} {below : List Frame} {meth : Method} {c : Code} {b L : Nat} {xs : Nat → Int32} {D : va_G} {cA : Nat → ClassId} {ro0 ro : Nat → Option Nat} {H : Heap} {locs : List Loc} {cells slots : Nat} {Q : State → Prop} {ls : Array Slot} {i x mm o : Nat} {iv : Int32} (C : lw_C p l s m meth c b L xs D cA ro0) (hi : i + 8 ≤ L) (hiv : iv.toInt = (i : Int)) (I : lw_I D cA ro0 s x mm o ro H locs) (hl : lv_has ls 8 [(4, .int iv), (3, .ref o), (2, .ref mm), (1, .ref x), (0, .ref b)]) (hc : cells + 6 ≤ 601024) (hs : slots + 147 ≤ 7293034) (K : ∀ (ro9 : Nat → Option Nat) (H9 : Heap) (lo9 : List Loc) (ls9 : Array Slot), lw_I D cA ro0 s x mm o ro9 H9 lo9 → lv_has ls9 8 [(4, .int iv), (3, .ref o), (2, .ref mm), (1, .ref x), (0, .ref b)] → W p l e room_1 s m #[Value.ref b] below meth c H9 lo9 (cells + 6) (slots + 147) Q (F0 m 1795 ls9 [])) : W p l e room_1 s m #[Value.ref b] below meth c H locs cells slots Q (F0 m 432 ls []) := by
  have hL := C.hL
  have hH0 := I.hh.2.1 b C.hbl
  have hts0 : ∀ w ∈ Cond.initialized "MomentTextsLaw" :: gT, w.before #[Value.ref b] s = true := fun w hw => (List.mem_cons.mp hw).elim (fun g => by rw [g]; exact C.h2 _ (tb_1 0 rfl rfl)) (C.h2 w)
  generalize hy1 : xs (i + 1) = y1
  generalize hy2 : xs (i + 2) = y2
  generalize hy3 : xs (i + 3) = y3
  generalize hy4 : xs (i + 4) = y4
  generalize hy5 : xs (i + 5) = y5
  generalize hy6 : xs (i + 6) = y6
  generalize hy7 : xs (i + 7) = y7
  refine lv_aload_n C.hx C.hb (eL_law_5 (432, .aload_n 1, 1) (List.mem_of_getElem? (i := 0) rfl)) rfl (lv_at hl 3 rfl) ?_
  refine lw_rd (k := 1) C hi hiv hH0 (lv_at hl 0 rfl) (lv_at hl 4 rfl) (by decide) rfl (eL_law_5 (433, .aload_n 0, 1) (List.mem_of_getElem? (i := 1) rfl)) (eL_law_5 (434, .iload 4, 2) (List.mem_of_getElem? (i := 2) rfl)) (eL_law_5 (436, .iconst 1, 1) (List.mem_of_getElem? (i := 3) rfl)) (eL_law_5 (437, .iadd, 1) (List.mem_of_getElem? (i := 4) rfl)) (eL_law_5 (438, .iaload, 1) (List.mem_of_getElem? (i := 5) rfl)) hy1 ?_
  refine lv_i2l C.hx C.hb (eL_law_5 (439, .i2l, 1) (List.mem_of_getElem? (i := 6) rfl)) rfl ?_
  refine lv_bipush C.hx C.hb (eL_law_5 (440, .bipush 32, 2) (List.mem_of_getElem? (i := 7) rfl)) rfl ?_
  refine lv_lshl C.hx C.hb (eL_law_5 (442, .lshl, 1) (List.mem_of_getElem? (i := 8) rfl)) rfl ?_
  refine lw_rd (k := 2) C hi hiv hH0 (lv_at hl 0 rfl) (lv_at hl 4 rfl) (by decide) rfl (eL_law_5 (443, .aload_n 0, 1) (List.mem_of_getElem? (i := 9) rfl)) (eL_law_5 (444, .iload 4, 2) (List.mem_of_getElem? (i := 10) rfl)) (eL_law_5 (446, .iconst 2, 1) (List.mem_of_getElem? (i := 11) rfl)) (eL_law_5 (447, .iadd, 1) (List.mem_of_getElem? (i := 12) rfl)) (eL_law_5 (448, .iaload, 1) (List.mem_of_getElem? (i := 13) rfl)) hy2 ?_
  refine lv_i2l C.hx C.hb (eL_law_5 (449, .i2l, 1) (List.mem_of_getElem? (i := 14) rfl)) rfl ?_
  refine lv_ldc2 C.hx C.hb C.hown (C.h2 _ (tb_8 200 rfl rfl)) (eL_law_5 (450, .ldc2_w 108, 3) (List.mem_of_getElem? (i := 15) rfl)) ?_
  refine lv_land C.hx C.hb (eL_law_5 (453, .land, 1) (List.mem_of_getElem? (i := 16) rfl)) ?_
  refine lv_lor C.hx C.hb (eL_law_5 (454, .lor, 1) (List.mem_of_getElem? (i := 17) rfl)) ?_
  refine W.eq (g2 := F0 m 455 ls [.long (lgI y1 y2), .ref x]) rfl ?_
  refine lv_aload_n C.hx C.hb (eL_law_5 (455, .aload_n 3, 1) (List.mem_of_getElem? (i := 18) rfl)) rfl (lv_at hl 1 rfl) ?_
  have hjj := I.hj
  obtain ⟨LL, zc, jc, jr, hzp⟩ := hjj
  have hkk := I.hk
  obtain ⟨TT, OO, kc, kr⟩ := hkk
  refine zw_row (As := [.ref x, .long (lgI y1 y2), .ref o]) (st := []) (Ts := gT) C.hx C.hb C.hml C.hown C.h2 (fun _ h => h) (wY_leap l C.hst D cA ro s.heap.size s.heap x (lgI y1 y2) o LL zc I.hx10 I.ho42) ⟨rfl, rfl⟩ ⟨by decide, by decide⟩ ⟨by show cells + 1 ≤ 601024; omega, by show slots + 6 ≤ 7293034; omega⟩ (tb_3 64 rfl rfl) (tb_1 0 rfl rfl) (tb_3 62 rfl rfl) (tb_3 63 rfl rfl) (show yL_leap.cls ≠ "java/lang/invoke/MethodHandle" ∧ yL_leap.cls ≠ "java/lang/invoke/VarHandle" ∧ (parseMethodDescriptor yL_leap.desc).map (fun d => d.parameters.length) = some 3 by decide +kernel) zs_blindX (fun U hU hW => ⟨rfl, by rw [hU]; exact I.hh.l0, (C.hKa.ext I.he).warm hW, lw_BM C.hBM I.hh hU hW, by rw [hU]; exact jc⟩) I.hh.2.2.1 hl.1 (Nat.le_of_ble_eq_true rfl) (eL_law_5 (456, .invokestatic 124, 3) (List.mem_of_getElem? (i := 19) rfl)) (fun r1 s1 t1 lo1 g1 f1 l1 => ?_)
  obtain ⟨k1, ro1, L1, zc1, zz, rr, q1, he1, z1, kp1, jc1, hoz, hor, hday⟩ := f1
  cases q1
  rw [g1] at kp1
  have hh1 : zh_ok D cA RTg ro1 s.heap.size s.heap t1.heap lo1 := ⟨z1.1, z1.2.1, l1, z1.2.2.2⟩
  have jr1 := (jr.kept I.hm11 kp1 (by decide)).ext he1
  have kk1 := (I.hk.kept I.hx10 I.hm11 kp1 (by decide) (by decide)).ext he1
  obtain ⟨rk, spk, hrk⟩ : ∃ r : Int, spLY (lgI y1 y2).toInt LL zc k1.toInt r L1 zc1 ∧ (k1.toInt = 0 → r = rr.toInt) := by
    rcases hday with ⟨g1, g2⟩ | ⟨g1, r, g2⟩
    · exact ⟨rr.toInt, by rw [g1]; exact g2, fun _ => rfl⟩
    · exact ⟨r, g2, fun g => absurd g g1⟩
  have hx10_1 := he1 _ _ I.hx10
  have hm11_1 := he1 _ _ I.hm11
  have ho42_1 := he1 _ _ I.ho42
  have he_1 := fun q r g => he1 q r (I.he q r g)
  have hH1 := hh1.2.1 b C.hbl
  refine W.eq (g2 := F0 m 459 ls [.int k1]) rfl ?_
  refine lv_istore C.hx C.hb (eL_law_5 (459, .istore 5, 2) (List.mem_of_getElem? (i := 20) rfl)) hl (by decide) rfl (fun ls2 (hl2 : lv_has ls2 8 [(5, .int k1), (4, .int iv), (3, .ref o), (2, .ref mm), (1, .ref x), (0, .ref b)]) => ?_)
  refine lv_aload_n C.hx C.hb (eL_law_5 (461, .aload_n 2, 1) (List.mem_of_getElem? (i := 21) rfl)) rfl (lv_at hl2 3 rfl) ?_
  refine lw_rd (k := 1) C hi hiv hH1 (lv_at hl2 1 rfl) (lv_at hl2 5 rfl) (by decide) rfl (eL_law_5 (462, .aload_n 0, 1) (List.mem_of_getElem? (i := 22) rfl)) (eL_law_5 (463, .iload 4, 2) (List.mem_of_getElem? (i := 23) rfl)) (eL_law_5 (465, .iconst 1, 1) (List.mem_of_getElem? (i := 24) rfl)) (eL_law_5 (466, .iadd, 1) (List.mem_of_getElem? (i := 25) rfl)) (eL_law_5 (467, .iaload, 1) (List.mem_of_getElem? (i := 26) rfl)) hy1 ?_
  refine lv_i2l C.hx C.hb (eL_law_5 (468, .i2l, 1) (List.mem_of_getElem? (i := 27) rfl)) rfl ?_
  refine lv_bipush C.hx C.hb (eL_law_5 (469, .bipush 32, 2) (List.mem_of_getElem? (i := 28) rfl)) rfl ?_
  refine lv_lshl C.hx C.hb (eL_law_5 (471, .lshl, 1) (List.mem_of_getElem? (i := 29) rfl)) rfl ?_
  refine lw_rd (k := 2) C hi hiv hH1 (lv_at hl2 1 rfl) (lv_at hl2 5 rfl) (by decide) rfl (eL_law_5 (472, .aload_n 0, 1) (List.mem_of_getElem? (i := 30) rfl)) (eL_law_5 (473, .iload 4, 2) (List.mem_of_getElem? (i := 31) rfl)) (eL_law_5 (475, .iconst 2, 1) (List.mem_of_getElem? (i := 32) rfl)) (eL_law_5 (476, .iadd, 1) (List.mem_of_getElem? (i := 33) rfl)) (eL_law_5 (477, .iaload, 1) (List.mem_of_getElem? (i := 34) rfl)) hy2 ?_
  refine lv_i2l C.hx C.hb (eL_law_5 (478, .i2l, 1) (List.mem_of_getElem? (i := 35) rfl)) rfl ?_
  refine lv_ldc2 C.hx C.hb C.hown (C.h2 _ (tb_8 200 rfl rfl)) (eL_law_5 (479, .ldc2_w 108, 3) (List.mem_of_getElem? (i := 36) rfl)) ?_
  refine lv_land C.hx C.hb (eL_law_5 (482, .land, 1) (List.mem_of_getElem? (i := 37) rfl)) ?_
  refine lv_lor C.hx C.hb (eL_law_5 (483, .lor, 1) (List.mem_of_getElem? (i := 38) rfl)) ?_
  refine W.eq (g2 := F0 m 484 ls2 [.long (lgI y1 y2), .ref mm]) rfl ?_
  refine tz_rowV (As := [.long (lgI y1 y2)]) (st := []) (b := mm) (C := RX12) (Ts := gT) C.hx C.hb C.hml C.hown C.h2 (fun _ h => h) (hX12_leapY l D cA ro1 s.heap.size s.heap mm (lgI y1 y2) LL zc.1 zc.2 hm11_1) ⟨rfl, rfl⟩ ⟨by decide, by decide⟩ ⟨by show (cells + 1) + 0 ≤ 601024; omega, by show (slots + 6) + 0 ≤ 7293034; omega⟩ (tb_7 105 rfl rfl) (tb_1 12 rfl rfl) (tb_7 102 rfl rfl) (tb_7 103 rfl rfl) (tb_7 104 rfl rfl) (show yX12_leap.cls ≠ "java/lang/invoke/MethodHandle" ∧ yX12_leap.cls ≠ "java/lang/invoke/VarHandle" ∧ (parseMethodDescriptor yX12_leap.desc).map (fun d => d.parameters.length) = some 1 by decide +kernel) zs_blind (lw_ob12 hh1 C.hKa.1.1.1 hm11_1) (fun U hU hW => ⟨rfl, by rw [hU]; exact hh1.l0, zKb s U hW.alike (C.hKa.ext he_1).1.1, by rw [hU]; exact jr1⟩) hh1.2.2.1 hl2.1 (Nat.le_of_ble_eq_true rfl) (eL_law_5 (484, .invokevirtual 127, 3) (List.mem_of_getElem? (i := 39) rfl)) (fun r3 s3 t3 lo3 g3 f3 l3 => ?_)
  obtain ⟨vv3, rb3, w3, L3, zc3, q3, ⟨b3, qb3, eb3⟩, z3, kp3, hw3, jr3, sp3⟩ := f3
  cases q3
  cases qb3
  rw [g3] at kp3
  have hh3 : zh_ok D cA RTg ro1 s.heap.size s.heap t3.heap lo3 := ⟨z3.1, z3.2.1, l3, z3.2.2.2⟩
  obtain ⟨hkw, hLL, hzz, hrr⟩ := (spLY_det (lgI y1 y2).toInt LL zc) _ _ _ _ _ _ _ _ spk sp3
  rw [← hLL, ← hzz] at jr3
  have jc9 := jc1.kept hx10_1 kp3 (by decide)
  have kk3 := (kk1.kept hx10_1 hm11_1 kp3 (by decide) (by decide))
  have zp9 : zPT L1 zc1.1 := zPT_L spk hzp
  have j3 : jJY D cA ro1 t3.heap x mm := ⟨_, _, jc9, jr3, zp9⟩
  have hoz2 := (kp3.2 o 42 0 1 1 _ ho42_1 rfl (by decide)).trans hoz
  have hH3 := hh3.2.1 b C.hbl
  refine W.eq (g2 := F0 m 487 ls2 [.int b3]) rfl ?_
  refine lv_istore C.hx C.hb (eL_law_5 (487, .istore 6, 2) (List.mem_of_getElem? (i := 40) rfl)) hl2 (by decide) rfl (fun ls4 (hl4 : lv_has ls4 8 [(6, .int b3), (5, .int k1), (4, .int iv), (3, .ref o), (2, .ref mm), (1, .ref x), (0, .ref b)]) => ?_)
  refine lv_goto C.hx C.hb (eL_law_5 (489, .goto 1306, 3) (List.mem_of_getElem? (i := 41) rfl)) (tgt := 1795) rfl ?_
  exact W.widen (k := cells + 6) (n := slots + 147) (by omega) (by omega) (K ro1 _ _ _ ⟨hh3, he_1, hx10_1, hm11_1, ho42_1, j3, kk3⟩ (lv_sub hl4 [2, 3, 4, 5, 6] rfl))
