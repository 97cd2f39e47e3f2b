def tL_law_6 : List (Nat × Instr × Nat) := [(492, .aload_n 1, 1), (493, .aload_n 0, 1), (494, .iload 4, 2), (496, .iconst 1, 1), (497, .iadd, 1), (498, .iaload, 1), (499, .i2l, 1), (500, .bipush 32, 2), (502, .lshl, 1), (503, .aload_n 0, 1), (504, .iload 4, 2), (506, .iconst 2, 1), (507, .iadd, 1), (508, .iaload, 1), (509, .i2l, 1), (510, .ldc2_w 108, 3), (513, .land, 1), (514, .lor, 1), (515, .aload_n 0, 1), (516, .iload 4, 2), (518, .iconst 3, 1), (519, .iadd, 1), (520, .iaload, 1), (521, .aload_n 3, 1), (522, .invokestatic 128, 3), (525, .istore 5, 2), (527, .aload_n 2, 1), (528, .aload_n 0, 1), (529, .iload 4, 2), (531, .iconst 1, 1), (532, .iadd, 1), (533, .iaload, 1), (534, .i2l, 1), (535, .bipush 32, 2), (537, .lshl, 1), (538, .aload_n 0, 1), (539, .iload 4, 2), (541, .iconst 2, 1), (542, .iadd, 1), (543, .iaload, 1), (544, .i2l, 1), (545, .ldc2_w 108, 3), (548, .land, 1), (549, .lor, 1), (550, .aload_n 0, 1), (551, .iload 4, 2), (553, .iconst 3, 1), (554, .iadd, 1), (555, .iaload, 1), (556, .invokevirtual 130, 3), (559, .lstore 6, 2), (561, .goto 1234, 3)]
set_option maxRecDepth 100000 in
theorem eL_law_6 : ∀ x ∈ tL_law_6, decode cL_law x.1 = .ok x.2 := by decide +kernel
set_option maxRecDepth 100000 in
set_option maxHeartbeats 4000000 in
theorem lw_case_6 {p : Program} {l : Launch} {e : Env} {s : State} {m : MethodId} {below : List Frame} {meth : Method} {c : Code} {b L : Nat} {xs : Nat → Int32} {D : va_G} {cA : Nat → ClassId} {ro0 ro : Nat → Option Nat} {H : Heap} {locs : List Loc} {cells slots : Nat} {Q : State → Prop} {ls : Array Slot} {i x mm o : Nat} {iv : Int32} (C : lw_C p l s m meth c b L xs D cA ro0) (hi : i + 8 ≤ L) (hiv : iv.toInt = (i : Int)) (I : lw_I D cA ro0 s x mm o ro H locs) (hl : lv_has ls 8 [(4, .int iv), (3, .ref o), (2, .ref mm), (1, .ref x), (0, .ref b)]) (hc : cells + 6 ≤ 601024) (hs : slots + 147 ≤ 7293034) (K : ∀ (ro9 : Nat → Option Nat) (H9 : Heap) (lo9 : List Loc) (ls9 : Array Slot), lw_I D cA ro0 s x mm o ro9 H9 lo9 → lv_has ls9 8 [(4, .int iv), (3, .ref o), (2, .ref mm), (1, .ref x), (0, .ref b)] → W p l e room_1 s m #[Value.ref b] below meth c H9 lo9 (cells + 6) (slots + 147) Q (F0 m 1795 ls9 [])) : W p l e room_1 s m #[Value.ref b] below meth c H locs cells slots Q (F0 m 492 ls []) := by
  have hL := C.hL
  have hH0 := I.hh.2.1 b C.hbl
  have hts0 : ∀ w ∈ Cond.initialized "MomentTextsLaw" :: gT, w.before #[Value.ref b] s = true := fun w hw => (List.mem_cons.mp hw).elim (fun g => by rw [g]; exact C.h2 _ (tb_1 0 rfl rfl)) (C.h2 w)
  generalize hy1 : xs (i + 1) = y1
  generalize hy2 : xs (i + 2) = y2
  generalize hy3 : xs (i + 3) = y3
  generalize hy4 : xs (i + 4) = y4
  generalize hy5 : xs (i + 5) = y5
  generalize hy6 : xs (i + 6) = y6
  generalize hy7 : xs (i + 7) = y7
  refine lv_aload_n C.hx C.hb (eL_law_6 (492, .aload_n 1, 1) (List.mem_of_getElem? (i := 0) rfl)) rfl (lv_at hl 3 rfl) ?_
  refine lw_rd (k := 1) C hi hiv hH0 (lv_at hl 0 rfl) (lv_at hl 4 rfl) (by decide) rfl (eL_law_6 (493, .aload_n 0, 1) (List.mem_of_getElem? (i := 1) rfl)) (eL_law_6 (494, .iload 4, 2) (List.mem_of_getElem? (i := 2) rfl)) (eL_law_6 (496, .iconst 1, 1) (List.mem_of_getElem? (i := 3) rfl)) (eL_law_6 (497, .iadd, 1) (List.mem_of_getElem? (i := 4) rfl)) (eL_law_6 (498, .iaload, 1) (List.mem_of_getElem? (i := 5) rfl)) hy1 ?_
  refine lv_i2l C.hx C.hb (eL_law_6 (499, .i2l, 1) (List.mem_of_getElem? (i := 6) rfl)) rfl ?_
  refine lv_bipush C.hx C.hb (eL_law_6 (500, .bipush 32, 2) (List.mem_of_getElem? (i := 7) rfl)) rfl ?_
  refine lv_lshl C.hx C.hb (eL_law_6 (502, .lshl, 1) (List.mem_of_getElem? (i := 8) rfl)) rfl ?_
  refine lw_rd (k := 2) C hi hiv hH0 (lv_at hl 0 rfl) (lv_at hl 4 rfl) (by decide) rfl (eL_law_6 (503, .aload_n 0, 1) (List.mem_of_getElem? (i := 9) rfl)) (eL_law_6 (504, .iload 4, 2) (List.mem_of_getElem? (i := 10) rfl)) (eL_law_6 (506, .iconst 2, 1) (List.mem_of_getElem? (i := 11) rfl)) (eL_law_6 (507, .iadd, 1) (List.mem_of_getElem? (i := 12) rfl)) (eL_law_6 (508, .iaload, 1) (List.mem_of_getElem? (i := 13) rfl)) hy2 ?_
  refine lv_i2l C.hx C.hb (eL_law_6 (509, .i2l, 1) (List.mem_of_getElem? (i := 14) rfl)) rfl ?_
  refine lv_ldc2 C.hx C.hb C.hown (C.h2 _ (tb_8 200 rfl rfl)) (eL_law_6 (510, .ldc2_w 108, 3) (List.mem_of_getElem? (i := 15) rfl)) ?_
  refine lv_land C.hx C.hb (eL_law_6 (513, .land, 1) (List.mem_of_getElem? (i := 16) rfl)) ?_
  refine lv_lor C.hx C.hb (eL_law_6 (514, .lor, 1) (List.mem_of_getElem? (i := 17) rfl)) ?_
  refine W.eq (g2 := F0 m 515 ls [.long (lgI y1 y2), .ref x]) rfl ?_
  refine lw_rd (k := 3) C hi hiv hH0 (lv_at hl 0 rfl) (lv_at hl 4 rfl) (by decide) rfl (eL_law_6 (515, .aload_n 0, 1) (List.mem_of_getElem? (i := 18) rfl)) (eL_law_6 (516, .iload 4, 2) (List.mem_of_getElem? (i := 19) rfl)) (eL_law_6 (518, .iconst 3, 1) (List.mem_of_getElem? (i := 20) rfl)) (eL_law_6 (519, .iadd, 1) (List.mem_of_getElem? (i := 21) rfl)) (eL_law_6 (520, .iaload, 1) (List.mem_of_getElem? (i := 22) rfl)) hy3 ?_
  refine lv_aload_n C.hx C.hb (eL_law_6 (521, .aload_n 3, 1) (List.mem_of_getElem? (i := 23) rfl)) rfl (lv_at hl 1 rfl) ?_
  refine zw_row (As := [.ref x, .long (lgI y1 y2), .int y3, .ref o]) (st := []) (Ts := gT) C.hx C.hb C.hml C.hown C.h2 (fun _ h => h) (wL_instant l C.hst D cA ro s.heap.size s.heap x (lgI y1 y2) y3 o I.hx10 I.ho42) ⟨rfl, rfl⟩ ⟨by decide, by decide⟩ ⟨by show cells + 1 ≤ 601024; omega, by show slots + 6 ≤ 7293034; omega⟩ (tb_3 101 rfl rfl) (tb_1 0 rfl rfl) (tb_3 99 rfl rfl) (tb_3 100 rfl rfl) (show yL_instant.cls ≠ "java/lang/invoke/MethodHandle" ∧ yL_instant.cls ≠ "java/lang/invoke/VarHandle" ∧ (parseMethodDescriptor yL_instant.desc).map (fun d => d.parameters.length) = some 4 by decide +kernel) zw_blind (fun U hU hW => ⟨rfl, by rw [hU]; exact I.hh.l0, (C.hKa.ext I.he).warm hW⟩) I.hh.2.2.1 hl.1 (Nat.le_of_ble_eq_true rfl) (eL_law_6 (522, .invokestatic 128, 3) (List.mem_of_getElem? (i := 24) rfl)) (fun r1 s1 t1 lo1 g1 f1 l1 => ?_)
  obtain ⟨k1, ro1, q1, he1, z1, kp1⟩ := f1
  cases q1
  rw [g1] at kp1
  have hh1 : zh_ok D cA RTg ro1 s.heap.size s.heap t1.heap lo1 := ⟨z1.1, z1.2.1, l1, z1.2.2.2⟩
  have j1 := (I.hj.kept I.hx10 I.hm11 kp1 (by decide) (by decide)).ext he1
  have kk1 := (I.hk.kept I.hx10 I.hm11 kp1 (by decide) (by decide)).ext he1
  have hx10_1 := he1 _ _ I.hx10
  have hm11_1 := he1 _ _ I.hm11
  have ho42_1 := he1 _ _ I.ho42
  have he_1 := fun q r g => he1 q r (I.he q r g)
  have hH1 := hh1.2.1 b C.hbl
  refine W.eq (g2 := F0 m 525 ls [.int k1]) rfl ?_
  refine lv_istore C.hx C.hb (eL_law_6 (525, .istore 5, 2) (List.mem_of_getElem? (i := 25) rfl)) hl (by decide) rfl (fun ls2 (hl2 : lv_has ls2 8 [(5, .int k1), (4, .int iv), (3, .ref o), (2, .ref mm), (1, .ref x), (0, .ref b)]) => ?_)
  refine lv_aload_n C.hx C.hb (eL_law_6 (527, .aload_n 2, 1) (List.mem_of_getElem? (i := 26) rfl)) rfl (lv_at hl2 3 rfl) ?_
  refine lw_rd (k := 1) C hi hiv hH1 (lv_at hl2 1 rfl) (lv_at hl2 5 rfl) (by decide) rfl (eL_law_6 (528, .aload_n 0, 1) (List.mem_of_getElem? (i := 27) rfl)) (eL_law_6 (529, .iload 4, 2) (List.mem_of_getElem? (i := 28) rfl)) (eL_law_6 (531, .iconst 1, 1) (List.mem_of_getElem? (i := 29) rfl)) (eL_law_6 (532, .iadd, 1) (List.mem_of_getElem? (i := 30) rfl)) (eL_law_6 (533, .iaload, 1) (List.mem_of_getElem? (i := 31) rfl)) hy1 ?_
  refine lv_i2l C.hx C.hb (eL_law_6 (534, .i2l, 1) (List.mem_of_getElem? (i := 32) rfl)) rfl ?_
  refine lv_bipush C.hx C.hb (eL_law_6 (535, .bipush 32, 2) (List.mem_of_getElem? (i := 33) rfl)) rfl ?_
  refine lv_lshl C.hx C.hb (eL_law_6 (537, .lshl, 1) (List.mem_of_getElem? (i := 34) rfl)) rfl ?_
  refine lw_rd (k := 2) C hi hiv hH1 (lv_at hl2 1 rfl) (lv_at hl2 5 rfl) (by decide) rfl (eL_law_6 (538, .aload_n 0, 1) (List.mem_of_getElem? (i := 35) rfl)) (eL_law_6 (539, .iload 4, 2) (List.mem_of_getElem? (i := 36) rfl)) (eL_law_6 (541, .iconst 2, 1) (List.mem_of_getElem? (i := 37) rfl)) (eL_law_6 (542, .iadd, 1) (List.mem_of_getElem? (i := 38) rfl)) (eL_law_6 (543, .iaload, 1) (List.mem_of_getElem? (i := 39) rfl)) hy2 ?_
  refine lv_i2l C.hx C.hb (eL_law_6 (544, .i2l, 1) (List.mem_of_getElem? (i := 40) rfl)) rfl ?_
  refine lv_ldc2 C.hx C.hb C.hown (C.h2 _ (tb_8 200 rfl rfl)) (eL_law_6 (545, .ldc2_w 108, 3) (List.mem_of_getElem? (i := 41) rfl)) ?_
  refine lv_land C.hx C.hb (eL_law_6 (548, .land, 1) (List.mem_of_getElem? (i := 42) rfl)) ?_
  refine lv_lor C.hx C.hb (eL_law_6 (549, .lor, 1) (List.mem_of_getElem? (i := 43) rfl)) ?_
  refine W.eq (g2 := F0 m 550 ls2 [.long (lgI y1 y2), .ref mm]) rfl ?_
  refine lw_rd (k := 3) C hi hiv hH1 (lv_at hl2 1 rfl) (lv_at hl2 5 rfl) (by decide) rfl (eL_law_6 (550, .aload_n 0, 1) (List.mem_of_getElem? (i := 44) rfl)) (eL_law_6 (551, .iload 4, 2) (List.mem_of_getElem? (i := 45) rfl)) (eL_law_6 (553, .iconst 3, 1) (List.mem_of_getElem? (i := 46) rfl)) (eL_law_6 (554, .iadd, 1) (List.mem_of_getElem? (i := 47) rfl)) (eL_law_6 (555, .iaload, 1) (List.mem_of_getElem? (i := 48) rfl)) hy3 ?_
  refine zr_V (idx := 130) (r := 11) (ci := 11) (n0 := 0) (fs := fsX12) (lo := 0) (hi0 := 0) (ts := [(1, (-9223372036854775808), 9223372036854775807), (0, (-2147483648), 2147483647)]) C.hx C.hb C.hml C.hown hts0 (C.hKa.ext he_1).1.1 zKb (mX12_instant l D cA ro1 s.heap.size s.heap) ⟨rfl, rfl⟩ ⟨by decide, by decide⟩ ⟨by show (cells + 1) ≤ 601024; omega, by show (slots + 6) ≤ 7293034; omega⟩ (tb_7 113 rfl rfl) (tb_1 12 rfl rfl) (tb_7 110 rfl rfl) (tb_7 111 rfl rfl) (tb_7 112 rfl rfl) (by decide +kernel) rfl rfl (zCX12 C.hKa.1.1.1) rfl 556 130 (.invokevirtual 130) (Or.inr (Or.inl ⟨rfl, rfl⟩)) (eL_law_6 (556, .invokevirtual 130, 3) (List.mem_of_getElem? (i := 49) rfl)) _ _ _ [] [.ref mm, .long (lgI y1 y2), .int y3] hl2.1 (Nat.le_of_ble_eq_true rfl) hh1 ⟨⟨Or.inr ⟨_, rfl, hm11_1⟩, tz_l (zn_i64 _).1 (zn_i64 _).2, tz_i (zn_i32 _).1 (zn_i32 _).2, trivial⟩, fun e he => (by cases he), fun f hf => (by cases hf)⟩ (fun H3 lo3 r3 hh3 hk3 hal3 => ?_)
  obtain ⟨w3, rfl, v3, rfl, -, -⟩ := zc_one (t := (1, (-9223372036854775808), 9223372036854775807)) (L := []) hal3
  have hH3 := hh3.2.1 b C.hbl
  have j3 := j1.kept hx10_1 hm11_1 hk3 (by decide) (by decide)
  have kk3 := (kk1.kept hx10_1 hm11_1 hk3 (by decide) (by decide))
  refine W.eq (g2 := F0 m 559 ls2 [.long v3]) rfl ?_
  refine lv_lstore C.hx C.hb (eL_law_6 (559, .lstore 6, 2) (List.mem_of_getElem? (i := 50) rfl)) hl2 (by decide) rfl (fun ls4 (hl4 : lv_has ls4 8 [(6, .long v3), (5, .int k1), (4, .int iv), (3, .ref o), (2, .ref mm), (1, .ref x), (0, .ref b)]) => ?_)
  refine lv_goto C.hx C.hb (eL_law_6 (561, .goto 1234, 3) (List.mem_of_getElem? (i := 51) rfl)) (tgt := 1795) rfl ?_
  exact W.widen (k := cells + 6) (n := slots + 147) (by omega) (by omega) (K ro1 _ _ _ ⟨hh3, he_1, hx10_1, hm11_1, ho42_1, j3, kk3⟩ (lv_sub hl4 [2, 3, 4, 5, 6] rfl))
def tL_law_7 : List (Nat × Instr × Nat) := [(564, .aload_n 1, 1), (565, .aload_n 0, 1), (566, .iload 4, 2), (568, .iconst 1, 1), (569, .iadd, 1), (570, .iaload, 1), (571, .i2l, 1), (572, .bipush 32, 2), (574, .lshl, 1), (575, .aload_n 0, 1), (576, .iload 4, 2), (578, .iconst 2, 1), (579, .iadd, 1), (580, .iaload, 1), (581, .i2l, 1), (582, .ldc2_w 108, 3), (585, .land, 1), (586, .lor, 1), (587, .aload_n 0, 1), (588, .iload 4, 2), (590, .iconst 3, 1), (591, .iadd, 1), (592, .iaload, 1), (593, .aload_n 3, 1), (594, .invokestatic 131, 3), (597, .istore 5, 2), (599, .aload_n 2, 1), (600, .aload_n 0, 1), (601, .iload 4, 2), (603, .iconst 1, 1), (604, .iadd, 1), (605, .iaload, 1), (606, .i2l, 1), (607, .bipush 32, 2), (609, .lshl, 1), (610, .aload_n 0, 1), (611, .iload 4, 2), (613, .iconst 2, 1), (614, .iadd, 1), (615, .iaload, 1), (616, .i2l, 1), (617, .ldc2_w 108, 3), (620, .land, 1), (621, .lor, 1), (622, .aload_n 0, 1), (623, .iload 4, 2), (625, .iconst 3, 1), (626, .iadd, 1), (627, .iaload, 1), (628, .invokevirtual 133, 3), (631, .lstore 6, 2), (633, .goto 1162, 3)]
set_option maxRecDepth 100000 in
theorem eL_law_7 : ∀ x ∈ tL_law_7, decode cL_law x.1 = .ok x.2 := by decide +kernel
set_option maxRecDepth 100000 in
set_option maxHeartbeats 4000000 in
theorem lw_case_7 {p : Program} {l : Launch} {e : Env} {s : State} {m : MethodId} {below : List Frame} {meth : Method} {c : Code} {b L : Nat} {xs : Nat → Int32} {D : va_G} {cA : Nat → ClassId} {ro0 ro : Nat → Option Nat} {H : Heap} {locs : List Loc} {cells slots : Nat} {Q : State → Prop} {ls : Array Slot} {i x mm o : Nat} {iv : Int32} (C : lw_C p l s m meth c b L xs D cA ro0) (hi : i + 8 ≤ L) (hiv : iv.toInt = (i : Int)) (I : lw_I D cA ro0 s x mm o ro H locs) (hl : lv_has ls 8 [(4, .int iv), (3, .ref o), (2, .ref mm), (1, .ref x), (0, .ref b)]) (hc : cells + 6 ≤ 601024) (hs : slots + 147 ≤ 7293034) (K : ∀ (ro9 : Nat → Option Nat) (H9 : Heap) (lo9 : List Loc) (ls9 : Array Slot), lw_I D cA ro0 s x mm o ro9 H9 lo9 → lv_has ls9 8 [(4, .int iv), (3, .ref o), (2, .ref mm), (1, .ref x), (0, .ref b)] → W p l e room_1 s m #[Value.ref b] below meth c H9 lo9 (cells + 6) (slots + 147) Q (F0 m 1795 ls9 [])) : W p l e room_1 s m #[Value.ref b] below meth c H locs cells slots Q (F0 m 564 ls []) := by
  have hL := C.hL
  have hH0 := I.hh.2.1 b C.hbl
  have hts0 : ∀ w ∈ Cond.initialized "MomentTextsLaw" :: gT, w.before #[Value.ref b] s = true := fun w hw => (List.mem_cons.mp hw).elim (fun g => by rw [g]; exact C.h2 _ (tb_1 0 rfl rfl)) (C.h2 w)
  generalize hy1 : xs (i + 1) = y1
  generalize hy2 : xs (i + 2) = y2
  generalize hy3 : xs (i + 3) = y3
  generalize hy4 : xs (i + 4) = y4
  generalize hy5 : xs (i + 5) = y5
  generalize hy6 : xs (i + 6) = y6
  generalize hy7 : xs (i + 7) = y7
  refine lv_aload_n C.hx C.hb (eL_law_7 (564, .aload_n 1, 1) (List.mem_of_getElem? (i := 0) rfl)) rfl (lv_at hl 3 rfl) ?_
  refine lw_rd (k := 1) C hi hiv hH0 (lv_at hl 0 rfl) (lv_at hl 4 rfl) (by decide) rfl (eL_law_7 (565, .aload_n 0, 1) (List.mem_of_getElem? (i := 1) rfl)) (eL_law_7 (566, .iload 4, 2) (List.mem_of_getElem? (i := 2) rfl)) (eL_law_7 (568, .iconst 1, 1) (List.mem_of_getElem? (i := 3) rfl)) (eL_law_7 (569, .iadd, 1) (List.mem_of_getElem? (i := 4) rfl)) (eL_law_7 (570, .iaload, 1) (List.mem_of_getElem? (i := 5) rfl)) hy1 ?_
  refine lv_i2l C.hx C.hb (eL_law_7 (571, .i2l, 1) (List.mem_of_getElem? (i := 6) rfl)) rfl ?_
  refine lv_bipush C.hx C.hb (eL_law_7 (572, .bipush 32, 2) (List.mem_of_getElem? (i := 7) rfl)) rfl ?_
  refine lv_lshl C.hx C.hb (eL_law_7 (574, .lshl, 1) (List.mem_of_getElem? (i := 8) rfl)) rfl ?_
  refine lw_rd (k := 2) C hi hiv hH0 (lv_at hl 0 rfl) (lv_at hl 4 rfl) (by decide) rfl (eL_law_7 (575, .aload_n 0, 1) (List.mem_of_getElem? (i := 9) rfl)) (eL_law_7 (576, .iload 4, 2) (List.mem_of_getElem? (i := 10) rfl)) (eL_law_7 (578, .iconst 2, 1) (List.mem_of_getElem? (i := 11) rfl)) (eL_law_7 (579, .iadd, 1) (List.mem_of_getElem? (i := 12) rfl)) (eL_law_7 (580, .iaload, 1) (List.mem_of_getElem? (i := 13) rfl)) hy2 ?_
  refine lv_i2l C.hx C.hb (eL_law_7 (581, .i2l, 1) (List.mem_of_getElem? (i := 14) rfl)) rfl ?_
  refine lv_ldc2 C.hx C.hb C.hown (C.h2 _ (tb_8 200 rfl rfl)) (eL_law_7 (582, .ldc2_w 108, 3) (List.mem_of_getElem? (i := 15) rfl)) ?_
  refine lv_land C.hx C.hb (eL_law_7 (585, .land, 1) (List.mem_of_getElem? (i := 16) rfl)) ?_
  refine lv_lor C.hx C.hb (eL_law_7 (586, .lor, 1) (List.mem_of_getElem? (i := 17) rfl)) ?_
  refine W.eq (g2 := F0 m 587 ls [.long (lgI y1 y2), .ref x]) rfl ?_
  refine lw_rd (k := 3) C hi hiv hH0 (lv_at hl 0 rfl) (lv_at hl 4 rfl) (by decide) rfl (eL_law_7 (587, .aload_n 0, 1) (List.mem_of_getElem? (i := 18) rfl)) (eL_law_7 (588, .iload 4, 2) (List.mem_of_getElem? (i := 19) rfl)) (eL_law_7 (590, .iconst 3, 1) (List.mem_of_getElem? (i := 20) rfl)) (eL_law_7 (591, .iadd, 1) (List.mem_of_getElem? (i := 21) rfl)) (eL_law_7 (592, .iaload, 1) (List.mem_of_getElem? (i := 22) rfl)) hy3 ?_
  refine lv_aload_n C.hx C.hb (eL_law_7 (593, .aload_n 3, 1) (List.mem_of_getElem? (i := 23) rfl)) rfl (lv_at hl 1 rfl) ?_
  refine zw_row (As := [.ref x, .long (lgI y1 y2), .int y3, .ref o]) (st := []) (Ts := gT) C.hx C.hb C.hml C.hown C.h2 (fun _ h => h) (wL_reading l C.hst D cA ro s.heap.size s.heap x (lgI y1 y2) y3 o I.hx10 I.ho42) ⟨rfl, rfl⟩ ⟨by decide, by decide⟩ ⟨by show cells + 1 ≤ 601024; omega, by show slots + 6 ≤ 7293034; omega⟩ (tb_3 131 rfl rfl) (tb_1 0 rfl rfl) (tb_3 129 rfl rfl) (tb_3 130 rfl rfl) (show yL_reading.cls ≠ "java/lang/invoke/MethodHandle" ∧ yL_reading.cls ≠ "java/lang/invoke/VarHandle" ∧ (parseMethodDescriptor yL_reading.desc).map (fun d => d.parameters.length) = some 4 by decide +kernel) zw_blind (fun U hU hW => ⟨rfl, by rw [hU]; exact I.hh.l0, (C.hKa.ext I.he).warm hW⟩) I.hh.2.2.1 hl.1 (Nat.le_of_ble_eq_true rfl) (eL_law_7 (594, .invokestatic 131, 3) (List.mem_of_getElem? (i := 24) rfl)) (fun r1 s1 t1 lo1 g1 f1 l1 => ?_)
  obtain ⟨k1, ro1, q1, he1, z1, kp1⟩ := f1
  cases q1
  rw [g1] at kp1
  have hh1 : zh_ok D cA RTg ro1 s.heap.size s.heap t1.heap lo1 := ⟨z1.1, z1.2.1, l1, z1.2.2.2⟩
  have j1 := (I.hj.kept I.hx10 I.hm11 kp1 (by decide) (by decide)).ext he1
  have kk1 := (I.hk.kept I.hx10 I.hm11 kp1 (by decide) (by decide)).ext he1
  have hx10_1 := he1 _ _ I.hx10
  have hm11_1 := he1 _ _ I.hm11
  have ho42_1 := he1 _ _ I.ho42
  have he_1 := fun q r g => he1 q r (I.he q r g)
  have hH1 := hh1.2.1 b C.hbl
  refine W.eq (g2 := F0 m 597 ls [.int k1]) rfl ?_
  refine lv_istore C.hx C.hb (eL_law_7 (597, .istore 5, 2) (List.mem_of_getElem? (i := 25) rfl)) hl (by decide) rfl (fun ls2 (hl2 : lv_has ls2 8 [(5, .int k1), (4, .int iv), (3, .ref o), (2, .ref mm), (1, .ref x), (0, .ref b)]) => ?_)
  refine lv_aload_n C.hx C.hb (eL_law_7 (599, .aload_n 2, 1) (List.mem_of_getElem? (i := 26) rfl)) rfl (lv_at hl2 3 rfl) ?_
  refine lw_rd (k := 1) C hi hiv hH1 (lv_at hl2 1 rfl) (lv_at hl2 5 rfl) (by decide) rfl (eL_law_7 (600, .aload_n 0, 1) (List.mem_of_getElem? (i := 27) rfl)) (eL_law_7 (601, .iload 4, 2) (List.mem_of_getElem? (i := 28) rfl)) (eL_law_7 (603, .iconst 1, 1) (List.mem_of_getElem? (i := 29) rfl)) (eL_law_7 (604, .iadd, 1) (List.mem_of_getElem? (i := 30) rfl)) (eL_law_7 (605, .iaload, 1) (List.mem_of_getElem? (i := 31) rfl)) hy1 ?_
  refine lv_i2l C.hx C.hb (eL_law_7 (606, .i2l, 1) (List.mem_of_getElem? (i := 32) rfl)) rfl ?_
  refine lv_bipush C.hx C.hb (eL_law_7 (607, .bipush 32, 2) (List.mem_of_getElem? (i := 33) rfl)) rfl ?_
  refine lv_lshl C.hx C.hb (eL_law_7 (609, .lshl, 1) (List.mem_of_getElem? (i := 34) rfl)) rfl ?_
  refine lw_rd (k := 2) C hi hiv hH1 (lv_at hl2 1 rfl) (lv_at hl2 5 rfl) (by decide) rfl (eL_law_7 (610, .aload_n 0, 1) (List.mem_of_getElem? (i := 35) rfl)) (eL_law_7 (611, .iload 4, 2) (List.mem_of_getElem? (i := 36) rfl)) (eL_law_7 (613, .iconst 2, 1) (List.mem_of_getElem? (i := 37) rfl)) (eL_law_7 (614, .iadd, 1) (List.mem_of_getElem? (i := 38) rfl)) (eL_law_7 (615, .iaload, 1) (List.mem_of_getElem? (i := 39) rfl)) hy2 ?_
  refine lv_i2l C.hx C.hb (eL_law_7 (616, .i2l, 1) (List.mem_of_getElem? (i := 40) rfl)) rfl ?_
  refine lv_ldc2 C.hx C.hb C.hown (C.h2 _ (tb_8 200 rfl rfl)) (eL_law_7 (617, .ldc2_w 108, 3) (List.mem_of_getElem? (i := 41) rfl)) ?_
  refine lv_land C.hx C.hb (eL_law_7 (620, .land, 1) (List.mem_of_getElem? (i := 42) rfl)) ?_
  refine lv_lor C.hx C.hb (eL_law_7 (621, .lor, 1) (List.mem_of_getElem? (i := 43) rfl)) ?_
  refine W.eq (g2 := F0 m 622 ls2 [.long (lgI y1 y2), .ref mm]) rfl ?_
  refine lw_rd (k := 3) C hi hiv hH1 (lv_at hl2 1 rfl) (lv_at hl2 5 rfl) (by decide) rfl (eL_law_7 (622, .aload_n 0, 1) (List.mem_of_getElem? (i := 44) rfl)) (eL_law_7 (623, .iload 4, 2) (List.mem_of_getElem? (i := 45) rfl)) (eL_law_7 (625, .iconst 3, 1) (List.mem_of_getElem? (i := 46) rfl)) (eL_law_7 (626, .iadd, 1) (List.mem_of_getElem? (i := 47) rfl)) (eL_law_7 (627, .iaload, 1) (List.mem_of_getElem? (i := 48) rfl)) hy3 ?_
  refine zr_V (idx := 133) (r := 11) (ci := 11) (n0 := 0) (fs := fsX12) (lo := 0) (hi0 := 0) (ts := [(1, (-9223372036854775808), 9223372036854775807), (0, (-2147483648), 2147483647)]) C.hx C.hb C.hml C.hown hts0 (C.hKa.ext he_1).1.1 zKb (mX12_reading l D cA ro1 s.heap.size s.heap) ⟨rfl, rfl⟩ ⟨by decide, by decide⟩ ⟨by show (cells + 1) ≤ 601024; omega, by show (slots + 6) ≤ 7293034; omega⟩ (tb_7 137 rfl rfl) (tb_1 12 rfl rfl) (tb_7 134 rfl rfl) (tb_7 135 rfl rfl) (tb_7 136 rfl rfl) (by decide +kernel) rfl rfl (zCX12 C.hKa.1.1.1) rfl 628 133 (.invokevirtual 133) (Or.inr (Or.inl ⟨rfl, rfl⟩)) (eL_law_7 (628, .invokevirtual 133, 3) (List.mem_of_getElem? (i := 49) rfl)) _ _ _ [] [.ref mm, .long (lgI y1 y2), .int y3] hl2.1 (Nat.le_of_ble_eq_true rfl) hh1 ⟨⟨Or.inr ⟨_, rfl, hm11_1⟩, tz_l (zn_i64 _).1 (zn_i64 _).2, tz_i (zn_i32 _).1 (zn_i32 _).2, trivial⟩, fun e he => (by cases he), fun f hf => (by cases hf)⟩ (fun H3 lo3 r3 hh3 hk3 hal3 => ?_)
  obtain ⟨w3, rfl, v3, rfl, -, -⟩ := zc_one (t := (1, (-9223372036854775808), 9223372036854775807)) (L := []) hal3
  have hH3 := hh3.2.1 b C.hbl
  have j3 := j1.kept hx10_1 hm11_1 hk3 (by decide) (by decide)
  have kk3 := (kk1.kept hx10_1 hm11_1 hk3 (by decide) (by decide))
  refine W.eq (g2 := F0 m 631 ls2 [.long v3]) rfl ?_
  refine lv_lstore C.hx C.hb (eL_law_7 (631, .lstore 6, 2) (List.mem_of_getElem? (i := 50) rfl)) hl2 (by decide) rfl (fun ls4 (hl4 : lv_has ls4 8 [(6, .long v3), (5, .int k1), (4, .int iv), (3, .ref o), (2, .ref mm), (1, .ref x), (0, .ref b)]) => ?_)
  refine lv_goto C.hx C.hb (eL_law_7 (633, .goto 1162, 3) (List.mem_of_getElem? (i := 51) rfl)) (tgt := 1795) rfl ?_
  exact W.widen (k := cells + 6) (n := slots + 147) (by omega) (by omega) (K ro1 _ _ _ ⟨hh3, he_1, hx10_1, hm11_1, ho42_1, j3, kk3⟩ (lv_sub hl4 [2, 3, 4, 5, 6] rfl))
def tL_law_8 : List (Nat × Instr × Nat) := [(636, .aload_n 1, 1), (637, .aload_n 0, 1), (638, .iload 4, 2), (640, .iconst 1, 1), (641, .iadd, 1), (642, .iaload, 1), (643, .aload_n 3, 1), (644, .invokestatic 134, 3), (647, .istore 5, 2), (649, .aload_n 2, 1), (650, .aload_n 0, 1), (651, .iload 4, 2), (653, .iconst 1, 1), (654, .iadd, 1), (655, .iaload, 1), (656, .invokevirtual 136, 3), (659, .istore 6, 2), (661, .goto 1134, 3)]
set_option maxRecDepth 100000 in
theorem eL_law_8 : ∀ x ∈ tL_law_8, decode cL_law x.1 = .ok x.2 := by decide +kernel
set_option maxRecDepth 100000 in
set_option maxHeartbeats 4000000 in
theorem lw_case_8 {p : Program} {l : Launch} {e : Env} {s : State} {m : MethodId} {below : List Frame} {meth : Method} {c : Code} {b L : Nat} {xs : Nat → Int32} {D : va_G} {cA : Nat → ClassId} {ro0 ro : Nat → Option Nat} {H : Heap} {locs : List Loc} {cells slots : Nat} {Q : State → Prop} {ls : Array Slot} {i x mm o : Nat} {iv : Int32} (C : lw_C p l s m meth c b L xs D cA ro0) (hi : i + 8 ≤ L) (hiv : iv.toInt = (i : Int)) (I : lw_I D cA ro0 s x mm o ro H locs) (hl : lv_has ls 8 [(4, .int iv), (3, .ref o), (2, .ref mm), (1, .ref x), (0, .ref b)]) (hc : cells + 6 ≤ 601024) (hs : slots + 147 ≤ 7293034) (K : ∀ (ro9 : Nat → Option Nat) (H9 : Heap) (lo9 : List Loc) (ls9 : Array Slot), lw_I D cA ro0 s x mm o ro9 H9 lo9 → lv_has ls9 8 [(4, .int iv), (3, .ref o), (2, .ref mm), (1, .ref x), (0, .ref b)] → W p l e room_1 s m #[Value.ref b] below meth c H9 lo9 (cells + 6) (slots + 147) Q (F0 m 1795 ls9 [])) : W p l e room_1 s m #[Value.ref b] below meth c H locs cells slots Q (F0 m 636 ls []) := by
  have hL := C.hL
  have hH0 := I.hh.2.1 b C.hbl
  have hts0 : ∀ w ∈ Cond.initialized "MomentTextsLaw" :: gT, w.before #[Value.ref b] s = true := fun w hw => (List.mem_cons.mp hw).elim (fun g => by rw [g]; exact C.h2 _ (tb_1 0 rfl rfl)) (C.h2 w)
  generalize hy1 : xs (i + 1) = y1
  generalize hy2 : xs (i + 2) = y2
  generalize hy3 : xs (i + 3) = y3
  generalize hy4 : xs (i + 4) = y4
  generalize hy5 : xs (i + 5) = y5
  generalize hy6 : xs (i + 6) = y6
  generalize hy7 : xs (i + 7) = y7
  refine lv_aload_n C.hx C.hb (eL_law_8 (636, .aload_n 1, 1) (List.mem_of_getElem? (i := 0) rfl)) rfl (lv_at hl 3 rfl) ?_
  refine lw_rd (k := 1) C hi hiv hH0 (lv_at hl 0 rfl) (lv_at hl 4 rfl) (by decide) rfl (eL_law_8 (637, .aload_n 0, 1) (List.mem_of_getElem? (i := 1) rfl)) (eL_law_8 (638, .iload 4, 2) (List.mem_of_getElem? (i := 2) rfl)) (eL_law_8 (640, .iconst 1, 1) (List.mem_of_getElem? (i := 3) rfl)) (eL_law_8 (641, .iadd, 1) (List.mem_of_getElem? (i := 4) rfl)) (eL_law_8 (642, .iaload, 1) (List.mem_of_getElem? (i := 5) rfl)) hy1 ?_
  refine lv_aload_n C.hx C.hb (eL_law_8 (643, .aload_n 3, 1) (List.mem_of_getElem? (i := 6) rfl)) rfl (lv_at hl 1 rfl) ?_
  have hjj := I.hj
  obtain ⟨LL, zc, jc, jr, hzp⟩ := hjj
  have hkk := I.hk
  obtain ⟨TT, OO, kc, kr⟩ := hkk
  refine zw_row (As := [.ref x, .int y1, .ref o]) (st := []) (Ts := gT) C.hx C.hb C.hml C.hown C.h2 (fun _ h => h) (wY_zone l C.hst D cA ro s.heap.size s.heap x y1 o LL zc I.hx10 I.ho42) ⟨rfl, rfl⟩ ⟨by decide, by decide⟩ ⟨by show cells + 6 ≤ 601024; omega, by show slots + 147 ≤ 7293034; omega⟩ (tb_3 163 rfl rfl) (tb_1 0 rfl rfl) (tb_3 161 rfl rfl) (tb_3 162 rfl rfl) (show yL_zone.cls ≠ "java/lang/invoke/MethodHandle" ∧ yL_zone.cls ≠ "java/lang/invoke/VarHandle" ∧ (parseMethodDescriptor yL_zone.desc).map (fun d => d.parameters.length) = some 3 by decide +kernel) zs_blindX (fun U hU hW => ⟨rfl, by rw [hU]; exact I.hh.l0, (C.hKa.ext I.he).warm hW, lw_BM C.hBM I.hh hU hW, by rw [hU]; exact jc⟩) I.hh.2.2.1 hl.1 (Nat.le_of_ble_eq_true rfl) (eL_law_8 (644, .invokestatic 134, 3) (List.mem_of_getElem? (i := 7) rfl)) (fun r1 s1 t1 lo1 g1 f1 l1 => ?_)
  obtain ⟨k1, ro1, L1, zc1, zz, rr, q1, he1, z1, kp1, jc1, hoz, hor, hday⟩ := f1
  cases q1
  rw [g1] at kp1
  have hh1 : zh_ok D cA RTg ro1 s.heap.size s.heap t1.heap lo1 := ⟨z1.1, z1.2.1, l1, z1.2.2.2⟩
  have jr1 := (jr.kept I.hm11 kp1 (by decide)).ext he1
  have kk1 := (I.hk.kept I.hx10 I.hm11 kp1 (by decide) (by decide)).ext he1
  obtain ⟨rk, spk, hrk⟩ : ∃ r : Int, spZY y1.toInt LL zc k1.toInt r L1 zc1 ∧ (k1.toInt = 0 → r = rr.toInt) := by
    rcases hday with ⟨g1, g2⟩ | ⟨g1, r, g2⟩
    · exact ⟨rr.toInt, by rw [g1]; exact g2, fun _ => rfl⟩
    · exact ⟨r, g2, fun g => absurd g g1⟩
  have hx10_1 := he1 _ _ I.hx10
  have hm11_1 := he1 _ _ I.hm11
  have ho42_1 := he1 _ _ I.ho42
  have he_1 := fun q r g => he1 q r (I.he q r g)
  have hH1 := hh1.2.1 b C.hbl
  refine W.eq (g2 := F0 m 647 ls [.int k1]) rfl ?_
  refine lv_istore C.hx C.hb (eL_law_8 (647, .istore 5, 2) (List.mem_of_getElem? (i := 8) rfl)) hl (by decide) rfl (fun ls2 (hl2 : lv_has ls2 8 [(5, .int k1), (4, .int iv), (3, .ref o), (2, .ref mm), (1, .ref x), (0, .ref b)]) => ?_)
  refine lv_aload_n C.hx C.hb (eL_law_8 (649, .aload_n 2, 1) (List.mem_of_getElem? (i := 9) rfl)) rfl (lv_at hl2 3 rfl) ?_
  refine lw_rd (k := 1) C hi hiv hH1 (lv_at hl2 1 rfl) (lv_at hl2 5 rfl) (by decide) rfl (eL_law_8 (650, .aload_n 0, 1) (List.mem_of_getElem? (i := 10) rfl)) (eL_law_8 (651, .iload 4, 2) (List.mem_of_getElem? (i := 11) rfl)) (eL_law_8 (653, .iconst 1, 1) (List.mem_of_getElem? (i := 12) rfl)) (eL_law_8 (654, .iadd, 1) (List.mem_of_getElem? (i := 13) rfl)) (eL_law_8 (655, .iaload, 1) (List.mem_of_getElem? (i := 14) rfl)) hy1 ?_
  refine tz_rowV (As := [.int y1]) (st := []) (b := mm) (C := RX12) (Ts := gT) C.hx C.hb C.hml C.hown C.h2 (fun _ h => h) (hX12_zoneY l D cA ro1 s.heap.size s.heap mm y1 LL zc.1 zc.2 hm11_1) ⟨rfl, rfl⟩ ⟨by decide, by decide⟩ ⟨by show (cells + 6) + 0 ≤ 601024; omega, by show (slots + 147) + 0 ≤ 7293034; omega⟩ (tb_7 150 rfl rfl) (tb_1 12 rfl rfl) (tb_7 147 rfl rfl) (tb_7 148 rfl rfl) (tb_7 149 rfl rfl) (show yX12_zone.cls ≠ "java/lang/invoke/MethodHandle" ∧ yX12_zone.cls ≠ "java/lang/invoke/VarHandle" ∧ (parseMethodDescriptor yX12_zone.desc).map (fun d => d.parameters.length) = some 1 by decide +kernel) zs_blind (lw_ob12 hh1 C.hKa.1.1.1 hm11_1) (fun U hU hW => ⟨rfl, by rw [hU]; exact hh1.l0, zKb s U hW.alike (C.hKa.ext he_1).1.1, by rw [hU]; exact jr1⟩) hh1.2.2.1 hl2.1 (Nat.le_of_ble_eq_true rfl) (eL_law_8 (656, .invokevirtual 136, 3) (List.mem_of_getElem? (i := 15) rfl)) (fun r3 s3 t3 lo3 g3 f3 l3 => ?_)
  obtain ⟨vv3, rb3, w3, L3, zc3, q3, ⟨b3, qb3, eb3⟩, z3, kp3, hw3, jr3, sp3⟩ := f3
  cases q3
  cases qb3
  rw [g3] at kp3
  have hh3 : zh_ok D cA RTg ro1 s.heap.size s.heap t3.heap lo3 := ⟨z3.1, z3.2.1, l3, z3.2.2.2⟩
  obtain ⟨hkw, hLL, hzz, hrr⟩ := (spZY_det y1.toInt LL zc) _ _ _ _ _ _ _ _ spk sp3
  rw [← hLL, ← hzz] at jr3
  have jc9 := jc1.kept hx10_1 kp3 (by decide)
  have kk3 := (kk1.kept hx10_1 hm11_1 kp3 (by decide) (by decide))
  have zp9 : zPT L1 zc1.1 := zPT_Z spk hzp
  have j3 : jJY D cA ro1 t3.heap x mm := ⟨_, _, jc9, jr3, zp9⟩
  have hoz2 := (kp3.2 o 42 0 1 1 _ ho42_1 rfl (by decide)).trans hoz
  have hH3 := hh3.2.1 b C.hbl
  refine W.eq (g2 := F0 m 659 ls2 [.int b3]) rfl ?_
  refine lv_istore C.hx C.hb (eL_law_8 (659, .istore 6, 2) (List.mem_of_getElem? (i := 16) rfl)) hl2 (by decide) rfl (fun ls4 (hl4 : lv_has ls4 8 [(6, .int b3), (5, .int k1), (4, .int iv), (3, .ref o), (2, .ref mm), (1, .ref x), (0, .ref b)]) => ?_)
  refine lv_goto C.hx C.hb (eL_law_8 (661, .goto 1134, 3) (List.mem_of_getElem? (i := 17) rfl)) (tgt := 1795) rfl ?_
  exact W.widen (k := cells + 6) (n := slots + 147) (by omega) (by omega) (K ro1 _ _ _ ⟨hh3, he_1, hx10_1, hm11_1, ho42_1, j3, kk3⟩ (lv_sub hl4 [2, 3, 4, 5, 6] rfl))
def tL_law_9 : List (Nat × Instr × Nat) := [(664, .aload_n 1, 1), (665, .aload_n 0, 1), (666, .iload 4, 2), (668, .iconst 1, 1), (669, .iadd, 1), (670, .iaload, 1), (671, .aload_n 0, 1), (672, .iload 4, 2), (674, .iconst 2, 1), (675, .iadd, 1), (676, .iaload, 1), (677, .i2l, 1), (678, .bipush 32, 2), (680, .lshl, 1), (681, .aload_n 0, 1), (682, .iload 4, 2), (684, .iconst 3, 1), (685, .iadd, 1), (686, .iaload, 1), (687, .i2l, 1), (688, .ldc2_w 108, 3), (691, .land, 1), (692, .lor, 1), (693, .aload_n 0, 1), (694, .iload 4, 2), (696, .iconst 4, 1), (697, .iadd, 1), (698, .iaload, 1), (699, .aload_n 3, 1), (700, .invokestatic 137, 3), (703, .istore 5, 2), (705, .aload_n 2, 1), (706, .aload_n 0, 1), (707, .iload 4, 2), (709, .iconst 1, 1), (710, .iadd, 1), (711, .iaload, 1), (712, .aload_n 0, 1), (713, .iload 4, 2), (715, .iconst 2, 1), (716, .iadd, 1), (717, .iaload, 1), (718, .i2l, 1), (719, .bipush 32, 2), (721, .lshl, 1), (722, .aload_n 0, 1), (723, .iload 4, 2), (725, .iconst 3, 1), (726, .iadd, 1), (727, .iaload, 1), (728, .i2l, 1), (729, .ldc2_w 108, 3), (732, .land, 1), (733, .lor, 1), (734, .aload_n 0, 1), (735, .iload 4, 2), (737, .iconst 4, 1), (738, .iadd, 1), (739, .iaload, 1), (740, .invokevirtual 140, 3), (743, .istore 6, 2), (745, .goto 1050, 3)]
set_option maxRecDepth 100000 in
theorem eL_law_9 : ∀ x ∈ tL_law_9, decode cL_law x.1 = .ok x.2 := by decide +kernel
set_option maxRecDepth 100000 in
set_option maxHeartbeats 4000000 in
theorem lw_case_9 {p : Program} {l : Launch} {e : Env} {s : State} {m : MethodId} {below : List Frame} {meth : Method} {c : Code} {b L : Nat} {xs : Nat → Int32} {D : va_G} {cA : Nat → ClassId} {ro0 ro : Nat → Option Nat} {H : Heap} {locs : List Loc} {cells slots : Nat} {Q : State → Prop} {ls : Array Slot} {i x mm o : Nat} {iv : Int32} (C : lw_C p l s m meth c b L xs D cA ro0) (hi : i + 8 ≤ L) (hiv : iv.toInt = (i : Int)) (I : lw_I D cA ro0 s x mm o ro H locs) (hl : lv_has ls 8 [(4, .int iv), (3, .ref o), (2, .ref mm), (1, .ref x), (0, .ref b)]) (hc : cells + 6 ≤ 601024) (hs : slots + 147 ≤ 7293034) (K : ∀ (ro9 : Nat → Option Nat) (H9 : Heap) (lo9 : List Loc) (ls9 : Array Slot), lw_I D cA ro0 s x mm o ro9 H9 lo9 → lv_has ls9 8 [(4, .int iv), (3, .ref o), (2, .ref mm), (1, .ref x), (0, .ref b)] → W p l e room_1 s m #[Value.ref b] below meth c H9 lo9 (cells + 6) (slots + 147) Q (F0 m 1795 ls9 [])) : W p l e room_1 s m #[Value.ref b] below meth c H locs cells slots Q (F0 m 664 ls []) := by
  have hL := C.hL
  have hH0 := I.hh.2.1 b C.hbl
  have hts0 : ∀ w ∈ Cond.initialized "MomentTextsLaw" :: gT, w.before #[Value.ref b] s = true := fun w hw => (List.mem_cons.mp hw).elim (fun g => by rw [g]; exact C.h2 _ (tb_1 0 rfl rfl)) (C.h2 w)
  generalize hy1 : xs (i + 1) = y1
  generalize hy2 : xs (i + 2) = y2
  generalize hy3 : xs (i + 3) = y3
  generalize hy4 : xs (i + 4) = y4
  generalize hy5 : xs (i + 5) = y5
  generalize hy6 : xs (i + 6) = y6
  generalize hy7 : xs (i + 7) = y7
  refine lv_aload_n C.hx C.hb (eL_law_9 (664, .aload_n 1, 1) (List.mem_of_getElem? (i := 0) rfl)) rfl (lv_at hl 3 rfl) ?_
  refine lw_rd (k := 1) C hi hiv hH0 (lv_at hl 0 rfl) (lv_at hl 4 rfl) (by decide) rfl (eL_law_9 (665, .aload_n 0, 1) (List.mem_of_getElem? (i := 1) rfl)) (eL_law_9 (666, .iload 4, 2) (List.mem_of_getElem? (i := 2) rfl)) (eL_law_9 (668, .iconst 1, 1) (List.mem_of_getElem? (i := 3) rfl)) (eL_law_9 (669, .iadd, 1) (List.mem_of_getElem? (i := 4) rfl)) (eL_law_9 (670, .iaload, 1) (List.mem_of_getElem? (i := 5) rfl)) hy1 ?_
  refine lw_rd (k := 2) C hi hiv hH0 (lv_at hl 0 rfl) (lv_at hl 4 rfl) (by decide) rfl (eL_law_9 (671, .aload_n 0, 1) (List.mem_of_getElem? (i := 6) rfl)) (eL_law_9 (672, .iload 4, 2) (List.mem_of_getElem? (i := 7) rfl)) (eL_law_9 (674, .iconst 2, 1) (List.mem_of_getElem? (i := 8) rfl)) (eL_law_9 (675, .iadd, 1) (List.mem_of_getElem? (i := 9) rfl)) (eL_law_9 (676, .iaload, 1) (List.mem_of_getElem? (i := 10) rfl)) hy2 ?_
  refine lv_i2l C.hx C.hb (eL_law_9 (677, .i2l, 1) (List.mem_of_getElem? (i := 11) rfl)) rfl ?_
  refine lv_bipush C.hx C.hb (eL_law_9 (678, .bipush 32, 2) (List.mem_of_getElem? (i := 12) rfl)) rfl ?_
  refine lv_lshl C.hx C.hb (eL_law_9 (680, .lshl, 1) (List.mem_of_getElem? (i := 13) rfl)) rfl ?_
  refine lw_rd (k := 3) C hi hiv hH0 (lv_at hl 0 rfl) (lv_at hl 4 rfl) (by decide) rfl (eL_law_9 (681, .aload_n 0, 1) (List.mem_of_getElem? (i := 14) rfl)) (eL_law_9 (682, .iload 4, 2) (List.mem_of_getElem? (i := 15) rfl)) (eL_law_9 (684, .iconst 3, 1) (List.mem_of_getElem? (i := 16) rfl)) (eL_law_9 (685, .iadd, 1) (List.mem_of_getElem? (i := 17) rfl)) (eL_law_9 (686, .iaload, 1) (List.mem_of_getElem? (i := 18) rfl)) hy3 ?_
  refine lv_i2l C.hx C.hb (eL_law_9 (687, .i2l, 1) (List.mem_of_getElem? (i := 19) rfl)) rfl ?_
  refine lv_ldc2 C.hx C.hb C.hown (C.h2 _ (tb_8 200 rfl rfl)) (eL_law_9 (688, .ldc2_w 108, 3) (List.mem_of_getElem? (i := 20) rfl)) ?_
  refine lv_land C.hx C.hb (eL_law_9 (691, .land, 1) (List.mem_of_getElem? (i := 21) rfl)) ?_
  refine lv_lor C.hx C.hb (eL_law_9 (692, .lor, 1) (List.mem_of_getElem? (i := 22) rfl)) ?_
  refine W.eq (g2 := F0 m 693 ls [.long (lgI y2 y3), .int y1, .ref x]) rfl ?_
  refine lw_rd (k := 4) C hi hiv hH0 (lv_at hl 0 rfl) (lv_at hl 4 rfl) (by decide) rfl (eL_law_9 (693, .aload_n 0, 1) (List.mem_of_getElem? (i := 23) rfl)) (eL_law_9 (694, .iload 4, 2) (List.mem_of_getElem? (i := 24) rfl)) (eL_law_9 (696, .iconst 4, 1) (List.mem_of_getElem? (i := 25) rfl)) (eL_law_9 (697, .iadd, 1) (List.mem_of_getElem? (i := 26) rfl)) (eL_law_9 (698, .iaload, 1) (List.mem_of_getElem? (i := 27) rfl)) hy4 ?_
  refine lv_aload_n C.hx C.hb (eL_law_9 (699, .aload_n 3, 1) (List.mem_of_getElem? (i := 28) rfl)) rfl (lv_at hl 1 rfl) ?_
  have hjj := I.hj
  obtain ⟨LL, zc, jc, jr, hzp⟩ := hjj
  have hkk := I.hk
  obtain ⟨TT, OO, kc, kr⟩ := hkk
  refine zw_row (As := [.ref x, .int y1, .long (lgI y2 y3), .int y4, .ref o]) (st := []) (Ts := gT) C.hx C.hb C.hml C.hown C.h2 (fun _ h => h) (wY_change l C.hst D cA ro s.heap.size s.heap x y1 (lgI y2 y3) y4 o LL zc I.hx10 I.ho42) ⟨rfl, rfl⟩ ⟨by decide, by decide⟩ ⟨by show cells + 1 ≤ 601024; omega, by show slots + 6 ≤ 7293034; omega⟩ (tb_3 203 rfl rfl) (tb_1 0 rfl rfl) (tb_3 201 rfl rfl) (tb_3 202 rfl rfl) (show yL_change.cls ≠ "java/lang/invoke/MethodHandle" ∧ yL_change.cls ≠ "java/lang/invoke/VarHandle" ∧ (parseMethodDescriptor yL_change.desc).map (fun d => d.parameters.length) = some 5 by decide +kernel) zs_blindX (fun U hU hW => ⟨rfl, by rw [hU]; exact I.hh.l0, (C.hKa.ext I.he).warm hW, lw_BM C.hBM I.hh hU hW, by rw [hU]; exact jc⟩) I.hh.2.2.1 hl.1 (Nat.le_of_ble_eq_true rfl) (eL_law_9 (700, .invokestatic 137, 3) (List.mem_of_getElem? (i := 29) rfl)) (fun r1 s1 t1 lo1 g1 f1 l1 => ?_)
  obtain ⟨k1, ro1, L1, zc1, zz, rr, q1, he1, z1, kp1, jc1, hoz, hor, hday⟩ := f1
  cases q1
  rw [g1] at kp1
  have hh1 : zh_ok D cA RTg ro1 s.heap.size s.heap t1.heap lo1 := ⟨z1.1, z1.2.1, l1, z1.2.2.2⟩
  have jr1 := (jr.kept I.hm11 kp1 (by decide)).ext he1
  have kk1 := (I.hk.kept I.hx10 I.hm11 kp1 (by decide) (by decide)).ext he1
  obtain ⟨rk, spk, hrk⟩ : ∃ r : Int, spHY y1.toInt (lgI y2 y3).toInt y4.toInt LL zc k1.toInt r L1 zc1 ∧ (k1.toInt = 0 → r = rr.toInt) := by
    rcases hday with ⟨g1, g2⟩ | ⟨g1, r, g2⟩
    · exact ⟨rr.toInt, by rw [g1]; exact g2, fun _ => rfl⟩
    · exact ⟨r, g2, fun g => absurd g g1⟩
  have hx10_1 := he1 _ _ I.hx10
  have hm11_1 := he1 _ _ I.hm11
  have ho42_1 := he1 _ _ I.ho42
  have he_1 := fun q r g => he1 q r (I.he q r g)
  have hH1 := hh1.2.1 b C.hbl
  refine W.eq (g2 := F0 m 703 ls [.int k1]) rfl ?_
  refine lv_istore C.hx C.hb (eL_law_9 (703, .istore 5, 2) (List.mem_of_getElem? (i := 30) rfl)) hl (by decide) rfl (fun ls2 (hl2 : lv_has ls2 8 [(5, .int k1), (4, .int iv), (3, .ref o), (2, .ref mm), (1, .ref x), (0, .ref b)]) => ?_)
  refine lv_aload_n C.hx C.hb (eL_law_9 (705, .aload_n 2, 1) (List.mem_of_getElem? (i := 31) rfl)) rfl (lv_at hl2 3 rfl) ?_
  refine lw_rd (k := 1) C hi hiv hH1 (lv_at hl2 1 rfl) (lv_at hl2 5 rfl) (by decide) rfl (eL_law_9 (706, .aload_n 0, 1) (List.mem_of_getElem? (i := 32) rfl)) (eL_law_9 (707, .iload 4, 2) (List.mem_of_getElem? (i := 33) rfl)) (eL_law_9 (709, .iconst 1, 1) (List.mem_of_getElem? (i := 34) rfl)) (eL_law_9 (710, .iadd, 1) (List.mem_of_getElem? (i := 35) rfl)) (eL_law_9 (711, .iaload, 1) (List.mem_of_getElem? (i := 36) rfl)) hy1 ?_
  refine lw_rd (k := 2) C hi hiv hH1 (lv_at hl2 1 rfl) (lv_at hl2 5 rfl) (by decide) rfl (eL_law_9 (712, .aload_n 0, 1) (List.mem_of_getElem? (i := 37) rfl)) (eL_law_9 (713, .iload 4, 2) (List.mem_of_getElem? (i := 38) rfl)) (eL_law_9 (715, .iconst 2, 1) (List.mem_of_getElem? (i := 39) rfl)) (eL_law_9 (716, .iadd, 1) (List.mem_of_getElem? (i := 40) rfl)) (eL_law_9 (717, .iaload, 1) (List.mem_of_getElem? (i := 41) rfl)) hy2 ?_
  refine lv_i2l C.hx C.hb (eL_law_9 (718, .i2l, 1) (List.mem_of_getElem? (i := 42) rfl)) rfl ?_
  refine lv_bipush C.hx C.hb (eL_law_9 (719, .bipush 32, 2) (List.mem_of_getElem? (i := 43) rfl)) rfl ?_
  refine lv_lshl C.hx C.hb (eL_law_9 (721, .lshl, 1) (List.mem_of_getElem? (i := 44) rfl)) rfl ?_
  refine lw_rd (k := 3) C hi hiv hH1 (lv_at hl2 1 rfl) (lv_at hl2 5 rfl) (by decide) rfl (eL_law_9 (722, .aload_n 0, 1) (List.mem_of_getElem? (i := 45) rfl)) (eL_law_9 (723, .iload 4, 2) (List.mem_of_getElem? (i := 46) rfl)) (eL_law_9 (725, .iconst 3, 1) (List.mem_of_getElem? (i := 47) rfl)) (eL_law_9 (726, .iadd, 1) (List.mem_of_getElem? (i := 48) rfl)) (eL_law_9 (727, .iaload, 1) (List.mem_of_getElem? (i := 49) rfl)) hy3 ?_
  refine lv_i2l C.hx C.hb (eL_law_9 (728, .i2l, 1) (List.mem_of_getElem? (i := 50) rfl)) rfl ?_
  refine lv_ldc2 C.hx C.hb C.hown (C.h2 _ (tb_8 200 rfl rfl)) (eL_law_9 (729, .ldc2_w 108, 3) (List.mem_of_getElem? (i := 51) rfl)) ?_
  refine lv_land C.hx C.hb (eL_law_9 (732, .land, 1) (List.mem_of_getElem? (i := 52) rfl)) ?_
  refine lv_lor C.hx C.hb (eL_law_9 (733, .lor, 1) (List.mem_of_getElem? (i := 53) rfl)) ?_
  refine W.eq (g2 := F0 m 734 ls2 [.long (lgI y2 y3), .int y1, .ref mm]) rfl ?_
  refine lw_rd (k := 4) C hi hiv hH1 (lv_at hl2 1 rfl) (lv_at hl2 5 rfl) (by decide) rfl (eL_law_9 (734, .aload_n 0, 1) (List.mem_of_getElem? (i := 54) rfl)) (eL_law_9 (735, .iload 4, 2) (List.mem_of_getElem? (i := 55) rfl)) (eL_law_9 (737, .iconst 4, 1) (List.mem_of_getElem? (i := 56) rfl)) (eL_law_9 (738, .iadd, 1) (List.mem_of_getElem? (i := 57) rfl)) (eL_law_9 (739, .iaload, 1) (List.mem_of_getElem? (i := 58) rfl)) hy4 ?_
  refine tz_rowV (As := [.int y1, .long (lgI y2 y3), .int y4]) (st := []) (b := mm) (C := RX12) (Ts := gT) C.hx C.hb C.hml C.hown C.h2 (fun _ h => h) (hX12_changeY l D cA ro1 s.heap.size s.heap mm y1 (lgI y2 y3) y4 LL zc.1 zc.2 hm11_1) ⟨rfl, rfl⟩ ⟨by decide, by decide⟩ ⟨by show (cells + 1) + 0 ≤ 601024; omega, by show (slots + 6) + 0 ≤ 7293034; omega⟩ (tb_7 158 rfl rfl) (tb_1 12 rfl rfl) (tb_7 155 rfl rfl) (tb_7 156 rfl rfl) (tb_7 157 rfl rfl) (show yX12_change.cls ≠ "java/lang/invoke/MethodHandle" ∧ yX12_change.cls ≠ "java/lang/invoke/VarHandle" ∧ (parseMethodDescriptor yX12_change.desc).map (fun d => d.parameters.length) = some 3 by decide +kernel) zs_blind (lw_ob12 hh1 C.hKa.1.1.1 hm11_1) (fun U hU hW => ⟨rfl, by rw [hU]; exact hh1.l0, zKb s U hW.alike (C.hKa.ext he_1).1.1, by rw [hU]; exact jr1⟩) hh1.2.2.1 hl2.1 (Nat.le_of_ble_eq_true rfl) (eL_law_9 (740, .invokevirtual 140, 3) (List.mem_of_getElem? (i := 59) rfl)) (fun r3 s3 t3 lo3 g3 f3 l3 => ?_)
  obtain ⟨vv3, rb3, w3, L3, zc3, q3, ⟨b3, qb3, eb3⟩, z3, kp3, hw3, jr3, sp3⟩ := f3
  cases q3
  cases qb3
  rw [g3] at kp3
  have hh3 : zh_ok D cA RTg ro1 s.heap.size s.heap t3.heap lo3 := ⟨z3.1, z3.2.1, l3, z3.2.2.2⟩
  obtain ⟨hkw, hLL, hzz, hrr⟩ := (spHY_det y1.toInt (lgI y2 y3).toInt y4.toInt LL zc) _ _ _ _ _ _ _ _ spk sp3
  rw [← hLL, ← hzz] at jr3
  have jc9 := jc1.kept hx10_1 kp3 (by decide)
  have kk3 := (kk1.kept hx10_1 hm11_1 kp3 (by decide) (by decide))
  have zp9 : zPT L1 zc1.1 := zPT_H jc.1.2.2.1.2.1 spk hzp
  have j3 : jJY D cA ro1 t3.heap x mm := ⟨_, _, jc9, jr3, zp9⟩
  have hoz2 := (kp3.2 o 42 0 1 1 _ ho42_1 rfl (by decide)).trans hoz
  have hH3 := hh3.2.1 b C.hbl
  refine W.eq (g2 := F0 m 743 ls2 [.int b3]) rfl ?_
  refine lv_istore C.hx C.hb (eL_law_9 (743, .istore 6, 2) (List.mem_of_getElem? (i := 60) rfl)) hl2 (by decide) rfl (fun ls4 (hl4 : lv_has ls4 8 [(6, .int b3), (5, .int k1), (4, .int iv), (3, .ref o), (2, .ref mm), (1, .ref x), (0, .ref b)]) => ?_)
  refine lv_goto C.hx C.hb (eL_law_9 (745, .goto 1050, 3) (List.mem_of_getElem? (i := 61) rfl)) (tgt := 1795) rfl ?_
  exact W.widen (k := cells + 6) (n := slots + 147) (by omega) (by omega) (K ro1 _ _ _ ⟨hh3, he_1, hx10_1, hm11_1, ho42_1, j3, kk3⟩ (lv_sub hl4 [2, 3, 4, 5, 6] rfl))
def tL_law_10 : List (Nat × Instr × Nat) := [(748, .aload_n 1, 1), (749, .aload_n 0, 1), (750, .iload 4, 2), (752, .iconst 1, 1), (753, .iadd, 1), (754, .iaload, 1), (755, .aload_n 3, 1), (756, .invokestatic 141, 3), (759, .istore 5, 2), (761, .aload_n 2, 1), (762, .aload_n 0, 1), (763, .iload 4, 2), (765, .iconst 1, 1), (766, .iadd, 1), (767, .iaload, 1), (768, .invokevirtual 143, 3), (771, .lstore 6, 2), (773, .goto 1022, 3)]
set_option maxRecDepth 100000 in
theorem eL_law_10 : ∀ x ∈ tL_law_10, decode cL_law x.1 = .ok x.2 := by decide +kernel
set_option maxRecDepth 100000 in
set_option maxHeartbeats 4000000 in
theorem lw_case_10 {p : Program} {l : Launch} {e : Env} {s : State} {m : MethodId} {below : List Frame} {meth : Method} {c : Code} {b L : Nat} {xs : Nat → Int32} {D : va_G} {cA : Nat → ClassId} {ro0 ro : Nat → Option Nat} {H : Heap} {locs : List Loc} {cells slots : Nat} {Q : State → Prop} {ls : Array Slot} {i x mm o : Nat} {iv : Int32} (C : lw_C p l s m meth c b L xs D cA ro0) (hi : i + 8 ≤ L) (hiv : iv.toInt = (i : Int)) (I : lw_I D cA ro0 s x mm o ro H locs) (hl : lv_has ls 8 [(4, .int iv), (3, .ref o), (2, .ref mm), (1, .ref x), (0, .ref b)]) (hc : cells + 6 ≤ 601024) (hs : slots + 147 ≤ 7293034) (K : ∀ (ro9 : Nat → Option Nat) (H9 : Heap) (lo9 : List Loc) (ls9 : Array Slot), lw_I D cA ro0 s x mm o ro9 H9 lo9 → lv_has ls9 8 [(4, .int iv), (3, .ref o), (2, .ref mm), (1, .ref x), (0, .ref b)] → W p l e room_1 s m #[Value.ref b] below meth c H9 lo9 (cells + 6) (slots + 147) Q (F0 m 1795 ls9 [])) : W p l e room_1 s m #[Value.ref b] below meth c H locs cells slots Q (F0 m 748 ls []) := by
  have hL := C.hL
  have hH0 := I.hh.2.1 b C.hbl
  have hts0 : ∀ w ∈ Cond.initialized "MomentTextsLaw" :: gT, w.before #[Value.ref b] s = true := fun w hw => (List.mem_cons.mp hw).elim (fun g => by rw [g]; exact C.h2 _ (tb_1 0 rfl rfl)) (C.h2 w)
  generalize hy1 : xs (i + 1) = y1
  generalize hy2 : xs (i + 2) = y2
  generalize hy3 : xs (i + 3) = y3
  generalize hy4 : xs (i + 4) = y4
  generalize hy5 : xs (i + 5) = y5
  generalize hy6 : xs (i + 6) = y6
  generalize hy7 : xs (i + 7) = y7
  refine lv_aload_n C.hx C.hb (eL_law_10 (748, .aload_n 1, 1) (List.mem_of_getElem? (i := 0) rfl)) rfl (lv_at hl 3 rfl) ?_
  refine lw_rd (k := 1) C hi hiv hH0 (lv_at hl 0 rfl) (lv_at hl 4 rfl) (by decide) rfl (eL_law_10 (749, .aload_n 0, 1) (List.mem_of_getElem? (i := 1) rfl)) (eL_law_10 (750, .iload 4, 2) (List.mem_of_getElem? (i := 2) rfl)) (eL_law_10 (752, .iconst 1, 1) (List.mem_of_getElem? (i := 3) rfl)) (eL_law_10 (753, .iadd, 1) (List.mem_of_getElem? (i := 4) rfl)) (eL_law_10 (754, .iaload, 1) (List.mem_of_getElem? (i := 5) rfl)) hy1 ?_
  refine lv_aload_n C.hx C.hb (eL_law_10 (755, .aload_n 3, 1) (List.mem_of_getElem? (i := 6) rfl)) rfl (lv_at hl 1 rfl) ?_
  have hjj := I.hj
  obtain ⟨LL, zc, jc, jr, hzp⟩ := hjj
  have hkk := I.hk
  obtain ⟨TT, OO, kc, kr⟩ := hkk
  refine zw_row (As := [.ref x, .int y1, .ref o]) (st := []) (Ts := gT) C.hx C.hb C.hml C.hown C.h2 (fun _ h => h) (wY_rule l C.hst D cA ro s.heap.size s.heap x y1 o LL zc TT OO I.hx10 I.ho42) ⟨rfl, rfl⟩ ⟨by decide, by decide⟩ ⟨by show cells + 1 ≤ 601024; omega, by show slots + 6 ≤ 7293034; omega⟩ (tb_3 228 rfl rfl) (tb_1 0 rfl rfl) (tb_3 226 rfl rfl) (tb_3 227 rfl rfl) (show yL_rule.cls ≠ "java/lang/invoke/MethodHandle" ∧ yL_rule.cls ≠ "java/lang/invoke/VarHandle" ∧ (parseMethodDescriptor yL_rule.desc).map (fun d => d.parameters.length) = some 3 by decide +kernel) zs_blindX (fun U hU hW => ⟨rfl, by rw [hU]; exact I.hh.l0, (C.hKa.ext I.he).warm hW, lw_BM C.hBM I.hh hU hW, by rw [hU]; exact ⟨jc, kc⟩⟩) I.hh.2.2.1 hl.1 (Nat.le_of_ble_eq_true rfl) (eL_law_10 (756, .invokestatic 141, 3) (List.mem_of_getElem? (i := 7) rfl)) (fun r1 s1 t1 lo1 g1 f1 l1 => ?_)
  obtain ⟨k1, ro1, L1, zc1, zz, rr, q1, he1, z1, kp1, jc1, hoz, hor, hday⟩ := f1
  cases q1
  rw [g1] at kp1
  have hh1 : zh_ok D cA RTg ro1 s.heap.size s.heap t1.heap lo1 := ⟨z1.1, z1.2.1, l1, z1.2.2.2⟩
  have jr1 := (jr.kept I.hm11 kp1 (by decide)).ext he1
  have kr1 := (kr.kept I.hm11 kp1 (by decide)).ext he1
  have kk1 := (I.hk.kept I.hx10 I.hm11 kp1 (by decide) (by decide)).ext he1
  obtain ⟨rk, spk, hrk⟩ : ∃ r : Int, spUY y1.toInt TT LL zc k1.toInt r L1 zc1 ∧ (k1.toInt = 0 → r = rr.toInt) := by
    rcases hday with ⟨g1, g2⟩ | ⟨g1, r, g2⟩
    · exact ⟨rr.toInt, by rw [g1]; exact g2, fun _ => rfl⟩
    · exact ⟨r, g2, fun g => absurd g g1⟩
  have hx10_1 := he1 _ _ I.hx10
  have hm11_1 := he1 _ _ I.hm11
  have ho42_1 := he1 _ _ I.ho42
  have he_1 := fun q r g => he1 q r (I.he q r g)
  have hH1 := hh1.2.1 b C.hbl
  refine W.eq (g2 := F0 m 759 ls [.int k1]) rfl ?_
  refine lv_istore C.hx C.hb (eL_law_10 (759, .istore 5, 2) (List.mem_of_getElem? (i := 8) rfl)) hl (by decide) rfl (fun ls2 (hl2 : lv_has ls2 8 [(5, .int k1), (4, .int iv), (3, .ref o), (2, .ref mm), (1, .ref x), (0, .ref b)]) => ?_)
  refine lv_aload_n C.hx C.hb (eL_law_10 (761, .aload_n 2, 1) (List.mem_of_getElem? (i := 9) rfl)) rfl (lv_at hl2 3 rfl) ?_
  refine lw_rd (k := 1) C hi hiv hH1 (lv_at hl2 1 rfl) (lv_at hl2 5 rfl) (by decide) rfl (eL_law_10 (762, .aload_n 0, 1) (List.mem_of_getElem? (i := 10) rfl)) (eL_law_10 (763, .iload 4, 2) (List.mem_of_getElem? (i := 11) rfl)) (eL_law_10 (765, .iconst 1, 1) (List.mem_of_getElem? (i := 12) rfl)) (eL_law_10 (766, .iadd, 1) (List.mem_of_getElem? (i := 13) rfl)) (eL_law_10 (767, .iaload, 1) (List.mem_of_getElem? (i := 14) rfl)) hy1 ?_
  refine tz_rowV (As := [.int y1]) (st := []) (b := mm) (C := RX12) (Ts := gT) C.hx C.hb C.hml C.hown C.h2 (fun _ h => h) (hX12_ruleY l D cA ro1 s.heap.size s.heap mm y1 LL zc.1 zc.2 TT OO hm11_1) ⟨rfl, rfl⟩ ⟨by decide, by decide⟩ ⟨by show (cells + 1) + 0 ≤ 601024; omega, by show (slots + 6) + 0 ≤ 7293034; omega⟩ (tb_8 1 rfl rfl) (tb_1 12 rfl rfl) (tb_7 238 rfl rfl) (tb_7 239 rfl rfl) (tb_8 0 rfl rfl) (show yX12_rule.cls ≠ "java/lang/invoke/MethodHandle" ∧ yX12_rule.cls ≠ "java/lang/invoke/VarHandle" ∧ (parseMethodDescriptor yX12_rule.desc).map (fun d => d.parameters.length) = some 1 by decide +kernel) zs_blind (lw_ob12 hh1 C.hKa.1.1.1 hm11_1) (fun U hU hW => ⟨rfl, by rw [hU]; exact hh1.l0, zKb s U hW.alike (C.hKa.ext he_1).1.1, by rw [hU]; exact ⟨jr1, kr1⟩⟩) hh1.2.2.1 hl2.1 (Nat.le_of_ble_eq_true rfl) (eL_law_10 (768, .invokevirtual 143, 3) (List.mem_of_getElem? (i := 15) rfl)) (fun r3 s3 t3 lo3 g3 f3 l3 => ?_)
  obtain ⟨vv3, rb3, w3, L3, zc3, q3, ⟨b3, qb3, eb3⟩, z3, kp3, hw3, jr3, sp3⟩ := f3
  cases q3
  cases qb3
  rw [g3] at kp3
  have hh3 : zh_ok D cA RTg ro1 s.heap.size s.heap t3.heap lo3 := ⟨z3.1, z3.2.1, l3, z3.2.2.2⟩
  obtain ⟨hkw, hLL, hzz, hrr⟩ := (spUY_det y1.toInt TT LL zc) _ _ _ _ _ _ _ _ spk sp3
  rw [← hLL, ← hzz] at jr3
  have jc9 := jc1.kept hx10_1 kp3 (by decide)
  have kk3 := (kk1.kept hx10_1 hm11_1 kp3 (by decide) (by decide))
  have zp9 : zPT L1 zc1.1 := zPT_eq spk.1 spk.2.1 hzp
  have j3 : jJY D cA ro1 t3.heap x mm := ⟨_, _, jc9, jr3, zp9⟩
  have hoz2 := (kp3.2 o 42 0 1 1 _ ho42_1 rfl (by decide)).trans hoz
  have hH3 := hh3.2.1 b C.hbl
  refine W.eq (g2 := F0 m 771 ls2 [.long b3]) rfl ?_
  refine lv_lstore C.hx C.hb (eL_law_10 (771, .lstore 6, 2) (List.mem_of_getElem? (i := 16) rfl)) hl2 (by decide) rfl (fun ls4 (hl4 : lv_has ls4 8 [(6, .long b3), (5, .int k1), (4, .int iv), (3, .ref o), (2, .ref mm), (1, .ref x), (0, .ref b)]) => ?_)
  refine lv_goto C.hx C.hb (eL_law_10 (773, .goto 1022, 3) (List.mem_of_getElem? (i := 17) rfl)) (tgt := 1795) rfl ?_
  exact W.widen (k := cells + 6) (n := slots + 147) (by omega) (by omega) (K ro1 _ _ _ ⟨hh3, he_1, hx10_1, hm11_1, ho42_1, j3, kk3⟩ (lv_sub hl4 [2, 3, 4, 5, 6] rfl))
def tL_law_11 : List (Nat × Instr × Nat) := [(776, .aload_n 1, 1), (777, .aload_n 0, 1), (778, .iload 4, 2), (780, .iconst 1, 1), (781, .iadd, 1), (782, .iaload, 1), (783, .aload_n 0, 1), (784, .iload 4, 2), (786, .iconst 2, 1), (787, .iadd, 1), (788, .iaload, 1), (789, .i2l, 1), (790, .bipush 32, 2), (792, .lshl, 1), (793, .aload_n 0, 1), (794, .iload 4, 2), (796, .iconst 3, 1), (797, .iadd, 1), (798, .iaload, 1), (799, .i2l, 1), (800, .ldc2_w 108, 3), (803, .land, 1), (804, .lor, 1), (805, .aload_n 3, 1), (806, .invokestatic 144, 3), (809, .istore 5, 2), (811, .aload_n 2, 1), (812, .aload_n 0, 1), (813, .iload 4, 2), (815, .iconst 1, 1), (816, .iadd, 1), (817, .iaload, 1), (818, .aload_n 0, 1), (819, .iload 4, 2), (821, .iconst 2, 1), (822, .iadd, 1), (823, .iaload, 1), (824, .i2l, 1), (825, .bipush 32, 2), (827, .lshl, 1), (828, .aload_n 0, 1), (829, .iload 4, 2), (831, .iconst 3, 1), (832, .iadd, 1), (833, .iaload, 1), (834, .i2l, 1), (835, .ldc2_w 108, 3), (838, .land, 1), (839, .lor, 1), (840, .invokevirtual 147, 3), (843, .istore 6, 2), (845, .goto 950, 3)]
set_option maxRecDepth 100000 in
theorem eL_law_11 : ∀ x ∈ tL_law_11, decode cL_law x.1 = .ok x.2 := by decide +kernel
set_option maxRecDepth 100000 in
set_option maxHeartbeats 4000000 in
theorem lw_case_11 {p : Program} {l : Launch} {e : Env} {s : State} {m : MethodId} {below : List Frame} {meth : Method} {c : Code} {b L : Nat} {xs : Nat → Int32} {D : va_G} {cA : Nat → ClassId} {ro0 ro : Nat → Option Nat} {H : Heap} {locs : List Loc} {cells slots : Nat} {Q : State → Prop} {ls : Array Slot} {i x mm o : Nat} {iv : Int32} (C : lw_C p l s m meth c b L xs D cA ro0) (hi : i + 8 ≤ L) (hiv : iv.toInt = (i : Int)) (I : lw_I D cA ro0 s x mm o ro H locs) (hl : lv_has ls 8 [(4, .int iv), (3, .ref o), (2, .ref mm), (1, .ref x), (0, .ref b)]) (hc : cells + 6 ≤ 601024) (hs : slots + 147 ≤ 7293034) (K : ∀ (ro9 : Nat → Option Nat) (H9 : Heap) (lo9 : List Loc) (ls9 : Array Slot), lw_I D cA ro0 s x mm o ro9 H9 lo9 → lv_has ls9 8 [(4, .int iv), (3, .ref o), (2, .ref mm), (1, .ref x), (0, .ref b)] → W p l e room_1 s m #[Value.ref b] below meth c H9 lo9 (cells + 6) (slots + 147) Q (F0 m 1795 ls9 [])) : W p l e room_1 s m #[Value.ref b] below meth c H locs cells slots Q (F0 m 776 ls []) := by
  have hL := C.hL
  have hH0 := I.hh.2.1 b C.hbl
  have hts0 : ∀ w ∈ Cond.initialized "MomentTextsLaw" :: gT, w.before #[Value.ref b] s = true := fun w hw => (List.mem_cons.mp hw).elim (fun g => by rw [g]; exact C.h2 _ (tb_1 0 rfl rfl)) (C.h2 w)
  generalize hy1 : xs (i + 1) = y1
  generalize hy2 : xs (i + 2) = y2
  generalize hy3 : xs (i + 3) = y3
  generalize hy4 : xs (i + 4) = y4
  generalize hy5 : xs (i + 5) = y5
  generalize hy6 : xs (i + 6) = y6
  generalize hy7 : xs (i + 7) = y7
  refine lv_aload_n C.hx C.hb (eL_law_11 (776, .aload_n 1, 1) (List.mem_of_getElem? (i := 0) rfl)) rfl (lv_at hl 3 rfl) ?_
  refine lw_rd (k := 1) C hi hiv hH0 (lv_at hl 0 rfl) (lv_at hl 4 rfl) (by decide) rfl (eL_law_11 (777, .aload_n 0, 1) (List.mem_of_getElem? (i := 1) rfl)) (eL_law_11 (778, .iload 4, 2) (List.mem_of_getElem? (i := 2) rfl)) (eL_law_11 (780, .iconst 1, 1) (List.mem_of_getElem? (i := 3) rfl)) (eL_law_11 (781, .iadd, 1) (List.mem_of_getElem? (i := 4) rfl)) (eL_law_11 (782, .iaload, 1) (List.mem_of_getElem? (i := 5) rfl)) hy1 ?_
  refine lw_rd (k := 2) C hi hiv hH0 (lv_at hl 0 rfl) (lv_at hl 4 rfl) (by decide) rfl (eL_law_11 (783, .aload_n 0, 1) (List.mem_of_getElem? (i := 6) rfl)) (eL_law_11 (784, .iload 4, 2) (List.mem_of_getElem? (i := 7) rfl)) (eL_law_11 (786, .iconst 2, 1) (List.mem_of_getElem? (i := 8) rfl)) (eL_law_11 (787, .iadd, 1) (List.mem_of_getElem? (i := 9) rfl)) (eL_law_11 (788, .iaload, 1) (List.mem_of_getElem? (i := 10) rfl)) hy2 ?_
  refine lv_i2l C.hx C.hb (eL_law_11 (789, .i2l, 1) (List.mem_of_getElem? (i := 11) rfl)) rfl ?_
  refine lv_bipush C.hx C.hb (eL_law_11 (790, .bipush 32, 2) (List.mem_of_getElem? (i := 12) rfl)) rfl ?_
  refine lv_lshl C.hx C.hb (eL_law_11 (792, .lshl, 1) (List.mem_of_getElem? (i := 13) rfl)) rfl ?_
  refine lw_rd (k := 3) C hi hiv hH0 (lv_at hl 0 rfl) (lv_at hl 4 rfl) (by decide) rfl (eL_law_11 (793, .aload_n 0, 1) (List.mem_of_getElem? (i := 14) rfl)) (eL_law_11 (794, .iload 4, 2) (List.mem_of_getElem? (i := 15) rfl)) (eL_law_11 (796, .iconst 3, 1) (List.mem_of_getElem? (i := 16) rfl)) (eL_law_11 (797, .iadd, 1) (List.mem_of_getElem? (i := 17) rfl)) (eL_law_11 (798, .iaload, 1) (List.mem_of_getElem? (i := 18) rfl)) hy3 ?_
  refine lv_i2l C.hx C.hb (eL_law_11 (799, .i2l, 1) (List.mem_of_getElem? (i := 19) rfl)) rfl ?_
  refine lv_ldc2 C.hx C.hb C.hown (C.h2 _ (tb_8 200 rfl rfl)) (eL_law_11 (800, .ldc2_w 108, 3) (List.mem_of_getElem? (i := 20) rfl)) ?_
  refine lv_land C.hx C.hb (eL_law_11 (803, .land, 1) (List.mem_of_getElem? (i := 21) rfl)) ?_
  refine lv_lor C.hx C.hb (eL_law_11 (804, .lor, 1) (List.mem_of_getElem? (i := 22) rfl)) ?_
  refine W.eq (g2 := F0 m 805 ls [.long (lgI y2 y3), .int y1, .ref x]) rfl ?_
  refine lv_aload_n C.hx C.hb (eL_law_11 (805, .aload_n 3, 1) (List.mem_of_getElem? (i := 23) rfl)) rfl (lv_at hl 1 rfl) ?_
  have hjj := I.hj
  obtain ⟨LL, zc, jc, jr, hzp⟩ := hjj
  have hkk := I.hk
  obtain ⟨TT, OO, kc, kr⟩ := hkk
  refine zw_row (As := [.ref x, .int y1, .long (lgI y2 y3), .ref o]) (st := []) (Ts := gT) C.hx C.hb C.hml C.hown C.h2 (fun _ h => h) (wY_offset l C.hst D cA ro s.heap.size s.heap x y1 (lgI y2 y3) o LL zc I.hx10 I.ho42) ⟨rfl, rfl⟩ ⟨by decide, by decide⟩ ⟨by show cells + 1 ≤ 601024; omega, by show slots + 6 ≤ 7293034; omega⟩ (tb_4 104 rfl rfl) (tb_1 0 rfl rfl) (tb_4 102 rfl rfl) (tb_4 103 rfl rfl) (show yL_offset.cls ≠ "java/lang/invoke/MethodHandle" ∧ yL_offset.cls ≠ "java/lang/invoke/VarHandle" ∧ (parseMethodDescriptor yL_offset.desc).map (fun d => d.parameters.length) = some 4 by decide +kernel) zs_blindY (fun U hU hW => ⟨rfl, by rw [hU]; exact I.hh.l0, (C.hKa.ext I.he).warm hW, (zBQ_of C.hBM).alike hW.alike, by rw [hU]; exact jc⟩) I.hh.2.2.1 hl.1 (Nat.le_of_ble_eq_true rfl) (eL_law_11 (806, .invokestatic 144, 3) (List.mem_of_getElem? (i := 24) rfl)) (fun r1 s1 t1 lo1 g1 f1 l1 => ?_)
  obtain ⟨k1, ro1, L1, zc1, zz, rr, q1, he1, z1, kp1, jc1, hoz, hor, hday⟩ := f1
  cases q1
  rw [g1] at kp1
  have hh1 : zh_ok D cA RTg ro1 s.heap.size s.heap t1.heap lo1 := ⟨z1.1, z1.2.1, l1, z1.2.2.2⟩
  have jr1 := (jr.kept I.hm11 kp1 (by decide)).ext he1
  have kk1 := (I.hk.kept I.hx10 I.hm11 kp1 (by decide) (by decide)).ext he1
  have hsm : L1 = LL ∧ zc1 = zc := by
    rcases hday with ⟨-, g2⟩ | ⟨-, r, g2⟩
    · exact ⟨g2.1, g2.2.1⟩
    · exact ⟨g2.1, g2.2.1⟩
  rw [hsm.1, hsm.2] at jc1
  have j1 : jJY D cA ro1 t1.heap x mm := ⟨LL, zc, jc1, jr1, hzp⟩
  have hx10_1 := he1 _ _ I.hx10
  have hm11_1 := he1 _ _ I.hm11
  have ho42_1 := he1 _ _ I.ho42
  have he_1 := fun q r g => he1 q r (I.he q r g)
  have hH1 := hh1.2.1 b C.hbl
  refine W.eq (g2 := F0 m 809 ls [.int k1]) rfl ?_
  refine lv_istore C.hx C.hb (eL_law_11 (809, .istore 5, 2) (List.mem_of_getElem? (i := 25) rfl)) hl (by decide) rfl (fun ls2 (hl2 : lv_has ls2 8 [(5, .int k1), (4, .int iv), (3, .ref o), (2, .ref mm), (1, .ref x), (0, .ref b)]) => ?_)
  refine lv_aload_n C.hx C.hb (eL_law_11 (811, .aload_n 2, 1) (List.mem_of_getElem? (i := 26) rfl)) rfl (lv_at hl2 3 rfl) ?_
  refine lw_rd (k := 1) C hi hiv hH1 (lv_at hl2 1 rfl) (lv_at hl2 5 rfl) (by decide) rfl (eL_law_11 (812, .aload_n 0, 1) (List.mem_of_getElem? (i := 27) rfl)) (eL_law_11 (813, .iload 4, 2) (List.mem_of_getElem? (i := 28) rfl)) (eL_law_11 (815, .iconst 1, 1) (List.mem_of_getElem? (i := 29) rfl)) (eL_law_11 (816, .iadd, 1) (List.mem_of_getElem? (i := 30) rfl)) (eL_law_11 (817, .iaload, 1) (List.mem_of_getElem? (i := 31) rfl)) hy1 ?_
  refine lw_rd (k := 2) C hi hiv hH1 (lv_at hl2 1 rfl) (lv_at hl2 5 rfl) (by decide) rfl (eL_law_11 (818, .aload_n 0, 1) (List.mem_of_getElem? (i := 32) rfl)) (eL_law_11 (819, .iload 4, 2) (List.mem_of_getElem? (i := 33) rfl)) (eL_law_11 (821, .iconst 2, 1) (List.mem_of_getElem? (i := 34) rfl)) (eL_law_11 (822, .iadd, 1) (List.mem_of_getElem? (i := 35) rfl)) (eL_law_11 (823, .iaload, 1) (List.mem_of_getElem? (i := 36) rfl)) hy2 ?_
  refine lv_i2l C.hx C.hb (eL_law_11 (824, .i2l, 1) (List.mem_of_getElem? (i := 37) rfl)) rfl ?_
  refine lv_bipush C.hx C.hb (eL_law_11 (825, .bipush 32, 2) (List.mem_of_getElem? (i := 38) rfl)) rfl ?_
  refine lv_lshl C.hx C.hb (eL_law_11 (827, .lshl, 1) (List.mem_of_getElem? (i := 39) rfl)) rfl ?_
  refine lw_rd (k := 3) C hi hiv hH1 (lv_at hl2 1 rfl) (lv_at hl2 5 rfl) (by decide) rfl (eL_law_11 (828, .aload_n 0, 1) (List.mem_of_getElem? (i := 40) rfl)) (eL_law_11 (829, .iload 4, 2) (List.mem_of_getElem? (i := 41) rfl)) (eL_law_11 (831, .iconst 3, 1) (List.mem_of_getElem? (i := 42) rfl)) (eL_law_11 (832, .iadd, 1) (List.mem_of_getElem? (i := 43) rfl)) (eL_law_11 (833, .iaload, 1) (List.mem_of_getElem? (i := 44) rfl)) hy3 ?_
  refine lv_i2l C.hx C.hb (eL_law_11 (834, .i2l, 1) (List.mem_of_getElem? (i := 45) rfl)) rfl ?_
  refine lv_ldc2 C.hx C.hb C.hown (C.h2 _ (tb_8 200 rfl rfl)) (eL_law_11 (835, .ldc2_w 108, 3) (List.mem_of_getElem? (i := 46) rfl)) ?_
  refine lv_land C.hx C.hb (eL_law_11 (838, .land, 1) (List.mem_of_getElem? (i := 47) rfl)) ?_
  refine lv_lor C.hx C.hb (eL_law_11 (839, .lor, 1) (List.mem_of_getElem? (i := 48) rfl)) ?_
  refine W.eq (g2 := F0 m 840 ls2 [.long (lgI y2 y3), .int y1, .ref mm]) rfl ?_
  refine zr_V (idx := 147) (r := 11) (ci := 11) (n0 := 0) (fs := fsX12) (lo := 0) (hi0 := 0) (ts := [(0, (-2147483648), 2147483647), (1, (-9223372036854775808), 9223372036854775807)]) C.hx C.hb C.hml C.hown hts0 (C.hKa.ext he_1).1.1 zKb (mX12_offset l D cA ro1 s.heap.size s.heap) ⟨rfl, rfl⟩ ⟨by decide, by decide⟩ ⟨by show (cells + 1) ≤ 601024; omega, by show (slots + 6) ≤ 7293034; omega⟩ (tb_7 166 rfl rfl) (tb_1 12 rfl rfl) (tb_7 163 rfl rfl) (tb_7 164 rfl rfl) (tb_7 165 rfl rfl) (by decide +kernel) rfl rfl (zCX12 C.hKa.1.1.1) rfl 840 147 (.invokevirtual 147) (Or.inr (Or.inl ⟨rfl, rfl⟩)) (eL_law_11 (840, .invokevirtual 147, 3) (List.mem_of_getElem? (i := 49) rfl)) _ _ _ [] [.ref mm, .int y1, .long (lgI y2 y3)] hl2.1 (Nat.le_of_ble_eq_true rfl) hh1 ⟨⟨Or.inr ⟨_, rfl, hm11_1⟩, tz_i (zn_i32 _).1 (zn_i32 _).2, tz_l (zn_i64 _).1 (zn_i64 _).2, trivial⟩, fun e he => (by cases he), fun f hf => (by cases hf)⟩ (fun H3 lo3 r3 hh3 hk3 hal3 => ?_)
  obtain ⟨w3, rfl, v3, rfl, -, -⟩ := zc_one (t := (0, (-2147483648), 2147483647)) (L := []) hal3
  have hH3 := hh3.2.1 b C.hbl
  have j3 := j1.kept hx10_1 hm11_1 hk3 (by decide) (by decide)
  have kk3 := (kk1.kept hx10_1 hm11_1 hk3 (by decide) (by decide))
  refine W.eq (g2 := F0 m 843 ls2 [.int v3]) rfl ?_
  refine lv_istore C.hx C.hb (eL_law_11 (843, .istore 6, 2) (List.mem_of_getElem? (i := 50) rfl)) hl2 (by decide) rfl (fun ls4 (hl4 : lv_has ls4 8 [(6, .int v3), (5, .int k1), (4, .int iv), (3, .ref o), (2, .ref mm), (1, .ref x), (0, .ref b)]) => ?_)
  refine lv_goto C.hx C.hb (eL_law_11 (845, .goto 950, 3) (List.mem_of_getElem? (i := 51) rfl)) (tgt := 1795) rfl ?_
  exact W.widen (k := cells + 6) (n := slots + 147) (by omega) (by omega) (K ro1 _ _ _ ⟨hh3, he_1, hx10_1, hm11_1, ho42_1, j3, kk3⟩ (lv_sub hl4 [2, 3, 4, 5, 6] rfl))
