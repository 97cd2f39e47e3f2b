def tL_law_12 : List (Nat × Instr × Nat) := [(848, .aload_n 1, 1), (849, .aload_n 0, 1), (850, .iload 4, 2), (852, .iconst 1, 1), (853, .iadd, 1), (854, .iaload, 1), (855, .aload_n 0, 1), (856, .iload 4, 2), (858, .iconst 2, 1), (859, .iadd, 1), (860, .iaload, 1), (861, .i2l, 1), (862, .bipush 32, 2), (864, .lshl, 1), (865, .aload_n 0, 1), (866, .iload 4, 2), (868, .iconst 3, 1), (869, .iadd, 1), (870, .iaload, 1), (871, .i2l, 1), (872, .ldc2_w 108, 3), (875, .land, 1), (876, .lor, 1), (877, .aload_n 0, 1), (878, .iload 4, 2), (880, .iconst 4, 1), (881, .iadd, 1), (882, .iaload, 1), (883, .aload_n 0, 1), (884, .iload 4, 2), (886, .iconst 5, 1), (887, .iadd, 1), (888, .iaload, 1), (889, .aload_n 3, 1), (890, .invokestatic 148, 3), (893, .istore 5, 2), (895, .aload_n 2, 1), (896, .aload_n 0, 1), (897, .iload 4, 2), (899, .iconst 1, 1), (900, .iadd, 1), (901, .iaload, 1), (902, .aload_n 0, 1), (903, .iload 4, 2), (905, .iconst 2, 1), (906, .iadd, 1), (907, .iaload, 1), (908, .i2l, 1), (909, .bipush 32, 2), (911, .lshl, 1), (912, .aload_n 0, 1), (913, .iload 4, 2), (915, .iconst 3, 1), (916, .iadd, 1), (917, .iaload, 1), (918, .i2l, 1), (919, .ldc2_w 108, 3), (922, .land, 1), (923, .lor, 1), (924, .aload_n 0, 1), (925, .iload 4, 2), (927, .iconst 4, 1), (928, .iadd, 1), (929, .iaload, 1), (930, .aload_n 0, 1), (931, .iload 4, 2), (933, .iconst 5, 1), (934, .iadd, 1), (935, .iaload, 1), (936, .invokevirtual 151, 3), (939, .lstore 6, 2), (941, .goto 854, 3)]
set_option maxRecDepth 100000 in
theorem eL_law_12 : ∀ x ∈ tL_law_12, decode cL_law x.1 = .ok x.2 := by decide +kernel
set_option maxRecDepth 100000 in
set_option maxHeartbeats 4000000 in
theorem lw_case_12 {p : Program} {l : Launch} {e : Env} {s : State} {m : MethodId} {below : List Frame} {meth : Method} {c : Code} {b L : Nat} {xs : Nat → Int32} {D : va_G} {cA : Nat → ClassId} {ro0 ro : Nat → Option Nat} {H : Heap} {locs : List Loc} {cells slots : Nat} {Q : State → Prop} {ls : Array Slot} {i x mm o : Nat} {iv : Int32} (C : lw_C p l s m meth c b L xs D cA ro0) (hi : i + 8 ≤ L) (hiv : iv.toInt = (i : Int)) (I : lw_I D cA ro0 s x mm o ro H locs) (hl : lv_has ls 8 [(4, .int iv), (3, .ref o), (2, .ref mm), (1, .ref x), (0, .ref b)]) (hc : cells + 6 ≤ 601024) (hs : slots + 147 ≤ 7293034) (K : ∀ (ro9 : Nat → Option Nat) (H9 : Heap) (lo9 : List Loc) (ls9 : Array Slot), lw_I D cA ro0 s x mm o ro9 H9 lo9 → lv_has ls9 8 [(4, .int iv), (3, .ref o), (2, .ref mm), (1, .ref x), (0, .ref b)] → W p l e room_1 s m #[Value.ref b] below meth c H9 lo9 (cells + 6) (slots + 147) Q (F0 m 1795 ls9 [])) : W p l e room_1 s m #[Value.ref b] below meth c H locs cells slots Q (F0 m 848 ls []) := by
  have hL := C.hL
  have hH0 := I.hh.2.1 b C.hbl
  have hts0 : ∀ w ∈ Cond.initialized "MomentTextsLaw" :: gT, w.before #[Value.ref b] s = true := fun w hw => (List.mem_cons.mp hw).elim (fun g => by rw [g]; exact C.h2 _ (tb_1 0 rfl rfl)) (C.h2 w)
  generalize hy1 : xs (i + 1) = y1
  generalize hy2 : xs (i + 2) = y2
  generalize hy3 : xs (i + 3) = y3
  generalize hy4 : xs (i + 4) = y4
  generalize hy5 : xs (i + 5) = y5
  generalize hy6 : xs (i + 6) = y6
  generalize hy7 : xs (i + 7) = y7
  refine lv_aload_n C.hx C.hb (eL_law_12 (848, .aload_n 1, 1) (List.mem_of_getElem? (i := 0) rfl)) rfl (lv_at hl 3 rfl) ?_
  refine lw_rd (k := 1) C hi hiv hH0 (lv_at hl 0 rfl) (lv_at hl 4 rfl) (by decide) rfl (eL_law_12 (849, .aload_n 0, 1) (List.mem_of_getElem? (i := 1) rfl)) (eL_law_12 (850, .iload 4, 2) (List.mem_of_getElem? (i := 2) rfl)) (eL_law_12 (852, .iconst 1, 1) (List.mem_of_getElem? (i := 3) rfl)) (eL_law_12 (853, .iadd, 1) (List.mem_of_getElem? (i := 4) rfl)) (eL_law_12 (854, .iaload, 1) (List.mem_of_getElem? (i := 5) rfl)) hy1 ?_
  refine lw_rd (k := 2) C hi hiv hH0 (lv_at hl 0 rfl) (lv_at hl 4 rfl) (by decide) rfl (eL_law_12 (855, .aload_n 0, 1) (List.mem_of_getElem? (i := 6) rfl)) (eL_law_12 (856, .iload 4, 2) (List.mem_of_getElem? (i := 7) rfl)) (eL_law_12 (858, .iconst 2, 1) (List.mem_of_getElem? (i := 8) rfl)) (eL_law_12 (859, .iadd, 1) (List.mem_of_getElem? (i := 9) rfl)) (eL_law_12 (860, .iaload, 1) (List.mem_of_getElem? (i := 10) rfl)) hy2 ?_
  refine lv_i2l C.hx C.hb (eL_law_12 (861, .i2l, 1) (List.mem_of_getElem? (i := 11) rfl)) rfl ?_
  refine lv_bipush C.hx C.hb (eL_law_12 (862, .bipush 32, 2) (List.mem_of_getElem? (i := 12) rfl)) rfl ?_
  refine lv_lshl C.hx C.hb (eL_law_12 (864, .lshl, 1) (List.mem_of_getElem? (i := 13) rfl)) rfl ?_
  refine lw_rd (k := 3) C hi hiv hH0 (lv_at hl 0 rfl) (lv_at hl 4 rfl) (by decide) rfl (eL_law_12 (865, .aload_n 0, 1) (List.mem_of_getElem? (i := 14) rfl)) (eL_law_12 (866, .iload 4, 2) (List.mem_of_getElem? (i := 15) rfl)) (eL_law_12 (868, .iconst 3, 1) (List.mem_of_getElem? (i := 16) rfl)) (eL_law_12 (869, .iadd, 1) (List.mem_of_getElem? (i := 17) rfl)) (eL_law_12 (870, .iaload, 1) (List.mem_of_getElem? (i := 18) rfl)) hy3 ?_
  refine lv_i2l C.hx C.hb (eL_law_12 (871, .i2l, 1) (List.mem_of_getElem? (i := 19) rfl)) rfl ?_
  refine lv_ldc2 C.hx C.hb C.hown (C.h2 _ (tb_8 200 rfl rfl)) (eL_law_12 (872, .ldc2_w 108, 3) (List.mem_of_getElem? (i := 20) rfl)) ?_
  refine lv_land C.hx C.hb (eL_law_12 (875, .land, 1) (List.mem_of_getElem? (i := 21) rfl)) ?_
  refine lv_lor C.hx C.hb (eL_law_12 (876, .lor, 1) (List.mem_of_getElem? (i := 22) rfl)) ?_
  refine W.eq (g2 := F0 m 877 ls [.long (lgI y2 y3), .int y1, .ref x]) rfl ?_
  refine lw_rd (k := 4) C hi hiv hH0 (lv_at hl 0 rfl) (lv_at hl 4 rfl) (by decide) rfl (eL_law_12 (877, .aload_n 0, 1) (List.mem_of_getElem? (i := 23) rfl)) (eL_law_12 (878, .iload 4, 2) (List.mem_of_getElem? (i := 24) rfl)) (eL_law_12 (880, .iconst 4, 1) (List.mem_of_getElem? (i := 25) rfl)) (eL_law_12 (881, .iadd, 1) (List.mem_of_getElem? (i := 26) rfl)) (eL_law_12 (882, .iaload, 1) (List.mem_of_getElem? (i := 27) rfl)) hy4 ?_
  refine lw_rd (k := 5) C hi hiv hH0 (lv_at hl 0 rfl) (lv_at hl 4 rfl) (by decide) rfl (eL_law_12 (883, .aload_n 0, 1) (List.mem_of_getElem? (i := 28) rfl)) (eL_law_12 (884, .iload 4, 2) (List.mem_of_getElem? (i := 29) rfl)) (eL_law_12 (886, .iconst 5, 1) (List.mem_of_getElem? (i := 30) rfl)) (eL_law_12 (887, .iadd, 1) (List.mem_of_getElem? (i := 31) rfl)) (eL_law_12 (888, .iaload, 1) (List.mem_of_getElem? (i := 32) rfl)) hy5 ?_
  refine lv_aload_n C.hx C.hb (eL_law_12 (889, .aload_n 3, 1) (List.mem_of_getElem? (i := 33) rfl)) rfl (lv_at hl 1 rfl) ?_
  have hjj := I.hj
  obtain ⟨LL, zc, jc, jr, hzp⟩ := hjj
  have hkk := I.hk
  obtain ⟨TT, OO, kc, kr⟩ := hkk
  refine zw_row (As := [.ref x, .int y1, .long (lgI y2 y3), .int y4, .int y5, .ref o]) (st := []) (Ts := gT) C.hx C.hb C.hml C.hown C.h2 (fun _ h => h) (wY_local l C.hst D cA ro s.heap.size s.heap x y1 (lgI y2 y3) y4 y5 o LL zc I.hx10 I.ho42 hzp.1) ⟨rfl, rfl⟩ ⟨by decide, by decide⟩ ⟨by show cells + 1 ≤ 601024; omega, by show slots + 6 ≤ 7293034; omega⟩ (tb_4 147 rfl rfl) (tb_1 0 rfl rfl) (tb_4 145 rfl rfl) (tb_4 146 rfl rfl) (show yL_local.cls ≠ "java/lang/invoke/MethodHandle" ∧ yL_local.cls ≠ "java/lang/invoke/VarHandle" ∧ (parseMethodDescriptor yL_local.desc).map (fun d => d.parameters.length) = some 6 by decide +kernel) zs_blindY (fun U hU hW => ⟨rfl, by rw [hU]; exact I.hh.l0, (C.hKa.ext I.he).warm hW, (zBQ_of C.hBM).alike hW.alike, by rw [hU]; exact jc⟩) I.hh.2.2.1 hl.1 (Nat.le_of_ble_eq_true rfl) (eL_law_12 (890, .invokestatic 148, 3) (List.mem_of_getElem? (i := 34) rfl)) (fun r1 s1 t1 lo1 g1 f1 l1 => ?_)
  obtain ⟨k1, ro1, L1, zc1, zz, rr, q1, he1, z1, kp1, jc1, hoz, hor, hday⟩ := f1
  cases q1
  rw [g1] at kp1
  have hh1 : zh_ok D cA RTg ro1 s.heap.size s.heap t1.heap lo1 := ⟨z1.1, z1.2.1, l1, z1.2.2.2⟩
  have jr1 := (jr.kept I.hm11 kp1 (by decide)).ext he1
  have kk1 := (I.hk.kept I.hx10 I.hm11 kp1 (by decide) (by decide)).ext he1
  have hsm : L1 = LL ∧ zc1 = zc := by
    rcases hday with ⟨-, g2⟩ | ⟨-, r, g2⟩
    · exact ⟨g2.1, g2.2.1⟩
    · exact ⟨g2.1, g2.2.1⟩
  rw [hsm.1, hsm.2] at jc1
  have j1 : jJY D cA ro1 t1.heap x mm := ⟨LL, zc, jc1, jr1, hzp⟩
  have hx10_1 := he1 _ _ I.hx10
  have hm11_1 := he1 _ _ I.hm11
  have ho42_1 := he1 _ _ I.ho42
  have he_1 := fun q r g => he1 q r (I.he q r g)
  have hH1 := hh1.2.1 b C.hbl
  refine W.eq (g2 := F0 m 893 ls [.int k1]) rfl ?_
  refine lv_istore C.hx C.hb (eL_law_12 (893, .istore 5, 2) (List.mem_of_getElem? (i := 35) rfl)) hl (by decide) rfl (fun ls2 (hl2 : lv_has ls2 8 [(5, .int k1), (4, .int iv), (3, .ref o), (2, .ref mm), (1, .ref x), (0, .ref b)]) => ?_)
  refine lv_aload_n C.hx C.hb (eL_law_12 (895, .aload_n 2, 1) (List.mem_of_getElem? (i := 36) rfl)) rfl (lv_at hl2 3 rfl) ?_
  refine lw_rd (k := 1) C hi hiv hH1 (lv_at hl2 1 rfl) (lv_at hl2 5 rfl) (by decide) rfl (eL_law_12 (896, .aload_n 0, 1) (List.mem_of_getElem? (i := 37) rfl)) (eL_law_12 (897, .iload 4, 2) (List.mem_of_getElem? (i := 38) rfl)) (eL_law_12 (899, .iconst 1, 1) (List.mem_of_getElem? (i := 39) rfl)) (eL_law_12 (900, .iadd, 1) (List.mem_of_getElem? (i := 40) rfl)) (eL_law_12 (901, .iaload, 1) (List.mem_of_getElem? (i := 41) rfl)) hy1 ?_
  refine lw_rd (k := 2) C hi hiv hH1 (lv_at hl2 1 rfl) (lv_at hl2 5 rfl) (by decide) rfl (eL_law_12 (902, .aload_n 0, 1) (List.mem_of_getElem? (i := 42) rfl)) (eL_law_12 (903, .iload 4, 2) (List.mem_of_getElem? (i := 43) rfl)) (eL_law_12 (905, .iconst 2, 1) (List.mem_of_getElem? (i := 44) rfl)) (eL_law_12 (906, .iadd, 1) (List.mem_of_getElem? (i := 45) rfl)) (eL_law_12 (907, .iaload, 1) (List.mem_of_getElem? (i := 46) rfl)) hy2 ?_
  refine lv_i2l C.hx C.hb (eL_law_12 (908, .i2l, 1) (List.mem_of_getElem? (i := 47) rfl)) rfl ?_
  refine lv_bipush C.hx C.hb (eL_law_12 (909, .bipush 32, 2) (List.mem_of_getElem? (i := 48) rfl)) rfl ?_
  refine lv_lshl C.hx C.hb (eL_law_12 (911, .lshl, 1) (List.mem_of_getElem? (i := 49) rfl)) rfl ?_
  refine lw_rd (k := 3) C hi hiv hH1 (lv_at hl2 1 rfl) (lv_at hl2 5 rfl) (by decide) rfl (eL_law_12 (912, .aload_n 0, 1) (List.mem_of_getElem? (i := 50) rfl)) (eL_law_12 (913, .iload 4, 2) (List.mem_of_getElem? (i := 51) rfl)) (eL_law_12 (915, .iconst 3, 1) (List.mem_of_getElem? (i := 52) rfl)) (eL_law_12 (916, .iadd, 1) (List.mem_of_getElem? (i := 53) rfl)) (eL_law_12 (917, .iaload, 1) (List.mem_of_getElem? (i := 54) rfl)) hy3 ?_
  refine lv_i2l C.hx C.hb (eL_law_12 (918, .i2l, 1) (List.mem_of_getElem? (i := 55) rfl)) rfl ?_
  refine lv_ldc2 C.hx C.hb C.hown (C.h2 _ (tb_8 200 rfl rfl)) (eL_law_12 (919, .ldc2_w 108, 3) (List.mem_of_getElem? (i := 56) rfl)) ?_
  refine lv_land C.hx C.hb (eL_law_12 (922, .land, 1) (List.mem_of_getElem? (i := 57) rfl)) ?_
  refine lv_lor C.hx C.hb (eL_law_12 (923, .lor, 1) (List.mem_of_getElem? (i := 58) rfl)) ?_
  refine W.eq (g2 := F0 m 924 ls2 [.long (lgI y2 y3), .int y1, .ref mm]) rfl ?_
  refine lw_rd (k := 4) C hi hiv hH1 (lv_at hl2 1 rfl) (lv_at hl2 5 rfl) (by decide) rfl (eL_law_12 (924, .aload_n 0, 1) (List.mem_of_getElem? (i := 59) rfl)) (eL_law_12 (925, .iload 4, 2) (List.mem_of_getElem? (i := 60) rfl)) (eL_law_12 (927, .iconst 4, 1) (List.mem_of_getElem? (i := 61) rfl)) (eL_law_12 (928, .iadd, 1) (List.mem_of_getElem? (i := 62) rfl)) (eL_law_12 (929, .iaload, 1) (List.mem_of_getElem? (i := 63) rfl)) hy4 ?_
  refine lw_rd (k := 5) C hi hiv hH1 (lv_at hl2 1 rfl) (lv_at hl2 5 rfl) (by decide) rfl (eL_law_12 (930, .aload_n 0, 1) (List.mem_of_getElem? (i := 64) rfl)) (eL_law_12 (931, .iload 4, 2) (List.mem_of_getElem? (i := 65) rfl)) (eL_law_12 (933, .iconst 5, 1) (List.mem_of_getElem? (i := 66) rfl)) (eL_law_12 (934, .iadd, 1) (List.mem_of_getElem? (i := 67) rfl)) (eL_law_12 (935, .iaload, 1) (List.mem_of_getElem? (i := 68) rfl)) hy5 ?_
  refine zr_V (idx := 151) (r := 11) (ci := 11) (n0 := 0) (fs := fsX12) (lo := 0) (hi0 := 0) (ts := [(0, (-2147483648), 2147483647), (1, (-9223372036854775808), 9223372036854775807), (0, (-2147483648), 2147483647), (0, (-2147483648), 2147483647)]) C.hx C.hb C.hml C.hown hts0 (C.hKa.ext he_1).1.1 zKb (mX12_local l D cA ro1 s.heap.size s.heap) ⟨rfl, rfl⟩ ⟨by decide, by decide⟩ ⟨by show (cells + 1) ≤ 601024; omega, by show (slots + 6) ≤ 7293034; omega⟩ (tb_7 182 rfl rfl) (tb_1 12 rfl rfl) (tb_7 179 rfl rfl) (tb_7 180 rfl rfl) (tb_7 181 rfl rfl) (by decide +kernel) rfl rfl (zCX12 C.hKa.1.1.1) rfl 936 151 (.invokevirtual 151) (Or.inr (Or.inl ⟨rfl, rfl⟩)) (eL_law_12 (936, .invokevirtual 151, 3) (List.mem_of_getElem? (i := 69) rfl)) _ _ _ [] [.ref mm, .int y1, .long (lgI y2 y3), .int y4, .int y5] hl2.1 (Nat.le_of_ble_eq_true rfl) hh1 ⟨⟨Or.inr ⟨_, rfl, hm11_1⟩, tz_i (zn_i32 _).1 (zn_i32 _).2, tz_l (zn_i64 _).1 (zn_i64 _).2, tz_i (zn_i32 _).1 (zn_i32 _).2, tz_i (zn_i32 _).1 (zn_i32 _).2, trivial⟩, fun e he => (by cases he), fun f hf => (by cases hf)⟩ (fun H3 lo3 r3 hh3 hk3 hal3 => ?_)
  obtain ⟨w3, rfl, v3, rfl, -, -⟩ := zc_one (t := (1, (-9223372036854775808), 9223372036854775807)) (L := []) hal3
  have hH3 := hh3.2.1 b C.hbl
  have j3 := j1.kept hx10_1 hm11_1 hk3 (by decide) (by decide)
  have kk3 := (kk1.kept hx10_1 hm11_1 hk3 (by decide) (by decide))
  refine W.eq (g2 := F0 m 939 ls2 [.long v3]) rfl ?_
  refine lv_lstore C.hx C.hb (eL_law_12 (939, .lstore 6, 2) (List.mem_of_getElem? (i := 70) rfl)) hl2 (by decide) rfl (fun ls4 (hl4 : lv_has ls4 8 [(6, .long v3), (5, .int k1), (4, .int iv), (3, .ref o), (2, .ref mm), (1, .ref x), (0, .ref b)]) => ?_)
  refine lv_goto C.hx C.hb (eL_law_12 (941, .goto 854, 3) (List.mem_of_getElem? (i := 71) rfl)) (tgt := 1795) rfl ?_
  exact W.widen (k := cells + 6) (n := slots + 147) (by omega) (by omega) (K ro1 _ _ _ ⟨hh3, he_1, hx10_1, hm11_1, ho42_1, j3, kk3⟩ (lv_sub hl4 [2, 3, 4, 5, 6] rfl))
def tL_law_13 : List (Nat × Instr × Nat) := [(944, .aload_n 1, 1), (945, .aload_n 0, 1), (946, .iload 4, 2), (948, .iconst 1, 1), (949, .iadd, 1), (950, .iaload, 1), (951, .aload_n 0, 1), (952, .iload 4, 2), (954, .iconst 2, 1), (955, .iadd, 1), (956, .iaload, 1), (957, .i2l, 1), (958, .bipush 32, 2), (960, .lshl, 1), (961, .aload_n 0, 1), (962, .iload 4, 2), (964, .iconst 3, 1), (965, .iadd, 1), (966, .iaload, 1), (967, .i2l, 1), (968, .ldc2_w 108, 3), (971, .land, 1), (972, .lor, 1), (973, .aload_n 3, 1), (974, .invokestatic 152, 3), (977, .istore 5, 2), (979, .aload_n 2, 1), (980, .aload_n 0, 1), (981, .iload 4, 2), (983, .iconst 1, 1), (984, .iadd, 1), (985, .iaload, 1), (986, .aload_n 0, 1), (987, .iload 4, 2), (989, .iconst 2, 1), (990, .iadd, 1), (991, .iaload, 1), (992, .i2l, 1), (993, .bipush 32, 2), (995, .lshl, 1), (996, .aload_n 0, 1), (997, .iload 4, 2), (999, .iconst 3, 1), (1000, .iadd, 1), (1001, .iaload, 1), (1002, .i2l, 1), (1003, .ldc2_w 108, 3), (1006, .land, 1), (1007, .lor, 1), (1008, .invokevirtual 154, 3), (1011, .lstore 6, 2), (1013, .goto 782, 3)]
set_option maxRecDepth 100000 in
theorem eL_law_13 : ∀ x ∈ tL_law_13, decode cL_law x.1 = .ok x.2 := by decide +kernel
set_option maxRecDepth 100000 in
set_option maxHeartbeats 4000000 in
theorem lw_case_13 {p : Program} {l : Launch} {e : Env} {s : State} {m : MethodId} {below : List Frame} {meth : Method} {c : Code} {b L : Nat} {xs : Nat → Int32} {D : va_G} {cA : Nat → ClassId} {ro0 ro : Nat → Option Nat} {H : Heap} {locs : List Loc} {cells slots : Nat} {Q : State → Prop} {ls : Array Slot} {i x mm o : Nat} {iv : Int32} (C : lw_C p l s m meth c b L xs D cA ro0) (hi : i + 8 ≤ L) (hiv : iv.toInt = (i : Int)) (I : lw_I D cA ro0 s x mm o ro H locs) (hl : lv_has ls 8 [(4, .int iv), (3, .ref o), (2, .ref mm), (1, .ref x), (0, .ref b)]) (hc : cells + 6 ≤ 601024) (hs : slots + 147 ≤ 7293034) (K : ∀ (ro9 : Nat → Option Nat) (H9 : Heap) (lo9 : List Loc) (ls9 : Array Slot), lw_I D cA ro0 s x mm o ro9 H9 lo9 → lv_has ls9 8 [(4, .int iv), (3, .ref o), (2, .ref mm), (1, .ref x), (0, .ref b)] → W p l e room_1 s m #[Value.ref b] below meth c H9 lo9 (cells + 6) (slots + 147) Q (F0 m 1795 ls9 [])) : W p l e room_1 s m #[Value.ref b] below meth c H locs cells slots Q (F0 m 944 ls []) := by
  have hL := C.hL
  have hH0 := I.hh.2.1 b C.hbl
  have hts0 : ∀ w ∈ Cond.initialized "MomentTextsLaw" :: gT, w.before #[Value.ref b] s = true := fun w hw => (List.mem_cons.mp hw).elim (fun g => by rw [g]; exact C.h2 _ (tb_1 0 rfl rfl)) (C.h2 w)
  generalize hy1 : xs (i + 1) = y1
  generalize hy2 : xs (i + 2) = y2
  generalize hy3 : xs (i + 3) = y3
  generalize hy4 : xs (i + 4) = y4
  generalize hy5 : xs (i + 5) = y5
  generalize hy6 : xs (i + 6) = y6
  generalize hy7 : xs (i + 7) = y7
  refine lv_aload_n C.hx C.hb (eL_law_13 (944, .aload_n 1, 1) (List.mem_of_getElem? (i := 0) rfl)) rfl (lv_at hl 3 rfl) ?_
  refine lw_rd (k := 1) C hi hiv hH0 (lv_at hl 0 rfl) (lv_at hl 4 rfl) (by decide) rfl (eL_law_13 (945, .aload_n 0, 1) (List.mem_of_getElem? (i := 1) rfl)) (eL_law_13 (946, .iload 4, 2) (List.mem_of_getElem? (i := 2) rfl)) (eL_law_13 (948, .iconst 1, 1) (List.mem_of_getElem? (i := 3) rfl)) (eL_law_13 (949, .iadd, 1) (List.mem_of_getElem? (i := 4) rfl)) (eL_law_13 (950, .iaload, 1) (List.mem_of_getElem? (i := 5) rfl)) hy1 ?_
  refine lw_rd (k := 2) C hi hiv hH0 (lv_at hl 0 rfl) (lv_at hl 4 rfl) (by decide) rfl (eL_law_13 (951, .aload_n 0, 1) (List.mem_of_getElem? (i := 6) rfl)) (eL_law_13 (952, .iload 4, 2) (List.mem_of_getElem? (i := 7) rfl)) (eL_law_13 (954, .iconst 2, 1) (List.mem_of_getElem? (i := 8) rfl)) (eL_law_13 (955, .iadd, 1) (List.mem_of_getElem? (i := 9) rfl)) (eL_law_13 (956, .iaload, 1) (List.mem_of_getElem? (i := 10) rfl)) hy2 ?_
  refine lv_i2l C.hx C.hb (eL_law_13 (957, .i2l, 1) (List.mem_of_getElem? (i := 11) rfl)) rfl ?_
  refine lv_bipush C.hx C.hb (eL_law_13 (958, .bipush 32, 2) (List.mem_of_getElem? (i := 12) rfl)) rfl ?_
  refine lv_lshl C.hx C.hb (eL_law_13 (960, .lshl, 1) (List.mem_of_getElem? (i := 13) rfl)) rfl ?_
  refine lw_rd (k := 3) C hi hiv hH0 (lv_at hl 0 rfl) (lv_at hl 4 rfl) (by decide) rfl (eL_law_13 (961, .aload_n 0, 1) (List.mem_of_getElem? (i := 14) rfl)) (eL_law_13 (962, .iload 4, 2) (List.mem_of_getElem? (i := 15) rfl)) (eL_law_13 (964, .iconst 3, 1) (List.mem_of_getElem? (i := 16) rfl)) (eL_law_13 (965, .iadd, 1) (List.mem_of_getElem? (i := 17) rfl)) (eL_law_13 (966, .iaload, 1) (List.mem_of_getElem? (i := 18) rfl)) hy3 ?_
  refine lv_i2l C.hx C.hb (eL_law_13 (967, .i2l, 1) (List.mem_of_getElem? (i := 19) rfl)) rfl ?_
  refine lv_ldc2 C.hx C.hb C.hown (C.h2 _ (tb_8 200 rfl rfl)) (eL_law_13 (968, .ldc2_w 108, 3) (List.mem_of_getElem? (i := 20) rfl)) ?_
  refine lv_land C.hx C.hb (eL_law_13 (971, .land, 1) (List.mem_of_getElem? (i := 21) rfl)) ?_
  refine lv_lor C.hx C.hb (eL_law_13 (972, .lor, 1) (List.mem_of_getElem? (i := 22) rfl)) ?_
  refine W.eq (g2 := F0 m 973 ls [.long (lgI y2 y3), .int y1, .ref x]) rfl ?_
  refine lv_aload_n C.hx C.hb (eL_law_13 (973, .aload_n 3, 1) (List.mem_of_getElem? (i := 23) rfl)) rfl (lv_at hl 1 rfl) ?_
  have hjj := I.hj
  obtain ⟨LL, zc, jc, jr, hzp⟩ := hjj
  have hkk := I.hk
  obtain ⟨TT, OO, kc, kr⟩ := hkk
  refine zw_row (As := [.ref x, .int y1, .long (lgI y2 y3), .ref o]) (st := []) (Ts := gT) C.hx C.hb C.hml C.hown C.h2 (fun _ h => h) (wY_next l C.hst D cA ro s.heap.size s.heap x y1 (lgI y2 y3) o LL zc I.hx10 I.ho42 hzp.1) ⟨rfl, rfl⟩ ⟨by decide, by decide⟩ ⟨by show cells + 1 ≤ 601024; omega, by show slots + 6 ≤ 7293034; omega⟩ (tb_4 170 rfl rfl) (tb_1 0 rfl rfl) (tb_4 168 rfl rfl) (tb_4 169 rfl rfl) (show yL_next.cls ≠ "java/lang/invoke/MethodHandle" ∧ yL_next.cls ≠ "java/lang/invoke/VarHandle" ∧ (parseMethodDescriptor yL_next.desc).map (fun d => d.parameters.length) = some 4 by decide +kernel) zs_blindY (fun U hU hW => ⟨rfl, by rw [hU]; exact I.hh.l0, (C.hKa.ext I.he).warm hW, (zBQ_of C.hBM).alike hW.alike, by rw [hU]; exact jc⟩) I.hh.2.2.1 hl.1 (Nat.le_of_ble_eq_true rfl) (eL_law_13 (974, .invokestatic 152, 3) (List.mem_of_getElem? (i := 24) rfl)) (fun r1 s1 t1 lo1 g1 f1 l1 => ?_)
  obtain ⟨k1, ro1, L1, zc1, zz, rr, q1, he1, z1, kp1, jc1, hoz, hor, hday⟩ := f1
  cases q1
  rw [g1] at kp1
  have hh1 : zh_ok D cA RTg ro1 s.heap.size s.heap t1.heap lo1 := ⟨z1.1, z1.2.1, l1, z1.2.2.2⟩
  have jr1 := (jr.kept I.hm11 kp1 (by decide)).ext he1
  have kk1 := (I.hk.kept I.hx10 I.hm11 kp1 (by decide) (by decide)).ext he1
  have hsm : L1 = LL ∧ zc1 = zc := by
    rcases hday with ⟨-, g2⟩ | ⟨-, r, g2⟩
    · exact ⟨g2.1, g2.2.1⟩
    · exact ⟨g2.1, g2.2.1⟩
  rw [hsm.1, hsm.2] at jc1
  have j1 : jJY D cA ro1 t1.heap x mm := ⟨LL, zc, jc1, jr1, hzp⟩
  have hx10_1 := he1 _ _ I.hx10
  have hm11_1 := he1 _ _ I.hm11
  have ho42_1 := he1 _ _ I.ho42
  have he_1 := fun q r g => he1 q r (I.he q r g)
  have hH1 := hh1.2.1 b C.hbl
  refine W.eq (g2 := F0 m 977 ls [.int k1]) rfl ?_
  refine lv_istore C.hx C.hb (eL_law_13 (977, .istore 5, 2) (List.mem_of_getElem? (i := 25) rfl)) hl (by decide) rfl (fun ls2 (hl2 : lv_has ls2 8 [(5, .int k1), (4, .int iv), (3, .ref o), (2, .ref mm), (1, .ref x), (0, .ref b)]) => ?_)
  refine lv_aload_n C.hx C.hb (eL_law_13 (979, .aload_n 2, 1) (List.mem_of_getElem? (i := 26) rfl)) rfl (lv_at hl2 3 rfl) ?_
  refine lw_rd (k := 1) C hi hiv hH1 (lv_at hl2 1 rfl) (lv_at hl2 5 rfl) (by decide) rfl (eL_law_13 (980, .aload_n 0, 1) (List.mem_of_getElem? (i := 27) rfl)) (eL_law_13 (981, .iload 4, 2) (List.mem_of_getElem? (i := 28) rfl)) (eL_law_13 (983, .iconst 1, 1) (List.mem_of_getElem? (i := 29) rfl)) (eL_law_13 (984, .iadd, 1) (List.mem_of_getElem? (i := 30) rfl)) (eL_law_13 (985, .iaload, 1) (List.mem_of_getElem? (i := 31) rfl)) hy1 ?_
  refine lw_rd (k := 2) C hi hiv hH1 (lv_at hl2 1 rfl) (lv_at hl2 5 rfl) (by decide) rfl (eL_law_13 (986, .aload_n 0, 1) (List.mem_of_getElem? (i := 32) rfl)) (eL_law_13 (987, .iload 4, 2) (List.mem_of_getElem? (i := 33) rfl)) (eL_law_13 (989, .iconst 2, 1) (List.mem_of_getElem? (i := 34) rfl)) (eL_law_13 (990, .iadd, 1) (List.mem_of_getElem? (i := 35) rfl)) (eL_law_13 (991, .iaload, 1) (List.mem_of_getElem? (i := 36) rfl)) hy2 ?_
  refine lv_i2l C.hx C.hb (eL_law_13 (992, .i2l, 1) (List.mem_of_getElem? (i := 37) rfl)) rfl ?_
  refine lv_bipush C.hx C.hb (eL_law_13 (993, .bipush 32, 2) (List.mem_of_getElem? (i := 38) rfl)) rfl ?_
  refine lv_lshl C.hx C.hb (eL_law_13 (995, .lshl, 1) (List.mem_of_getElem? (i := 39) rfl)) rfl ?_
  refine lw_rd (k := 3) C hi hiv hH1 (lv_at hl2 1 rfl) (lv_at hl2 5 rfl) (by decide) rfl (eL_law_13 (996, .aload_n 0, 1) (List.mem_of_getElem? (i := 40) rfl)) (eL_law_13 (997, .iload 4, 2) (List.mem_of_getElem? (i := 41) rfl)) (eL_law_13 (999, .iconst 3, 1) (List.mem_of_getElem? (i := 42) rfl)) (eL_law_13 (1000, .iadd, 1) (List.mem_of_getElem? (i := 43) rfl)) (eL_law_13 (1001, .iaload, 1) (List.mem_of_getElem? (i := 44) rfl)) hy3 ?_
  refine lv_i2l C.hx C.hb (eL_law_13 (1002, .i2l, 1) (List.mem_of_getElem? (i := 45) rfl)) rfl ?_
  refine lv_ldc2 C.hx C.hb C.hown (C.h2 _ (tb_8 200 rfl rfl)) (eL_law_13 (1003, .ldc2_w 108, 3) (List.mem_of_getElem? (i := 46) rfl)) ?_
  refine lv_land C.hx C.hb (eL_law_13 (1006, .land, 1) (List.mem_of_getElem? (i := 47) rfl)) ?_
  refine lv_lor C.hx C.hb (eL_law_13 (1007, .lor, 1) (List.mem_of_getElem? (i := 48) rfl)) ?_
  refine W.eq (g2 := F0 m 1008 ls2 [.long (lgI y2 y3), .int y1, .ref mm]) rfl ?_
  refine zr_V (idx := 154) (r := 11) (ci := 11) (n0 := 0) (fs := fsX12) (lo := 0) (hi0 := 0) (ts := [(0, (-2147483648), 2147483647), (1, (-9223372036854775808), 9223372036854775807)]) C.hx C.hb C.hml C.hown hts0 (C.hKa.ext he_1).1.1 zKb (mX12_next l D cA ro1 s.heap.size s.heap) ⟨rfl, rfl⟩ ⟨by decide, by decide⟩ ⟨by show (cells + 1) ≤ 601024; omega, by show (slots + 6) ≤ 7293034; omega⟩ (tb_7 198 rfl rfl) (tb_1 12 rfl rfl) (tb_7 195 rfl rfl) (tb_7 196 rfl rfl) (tb_7 197 rfl rfl) (by decide +kernel) rfl rfl (zCX12 C.hKa.1.1.1) rfl 1008 154 (.invokevirtual 154) (Or.inr (Or.inl ⟨rfl, rfl⟩)) (eL_law_13 (1008, .invokevirtual 154, 3) (List.mem_of_getElem? (i := 49) rfl)) _ _ _ [] [.ref mm, .int y1, .long (lgI y2 y3)] hl2.1 (Nat.le_of_ble_eq_true rfl) hh1 ⟨⟨Or.inr ⟨_, rfl, hm11_1⟩, tz_i (zn_i32 _).1 (zn_i32 _).2, tz_l (zn_i64 _).1 (zn_i64 _).2, trivial⟩, fun e he => (by cases he), fun f hf => (by cases hf)⟩ (fun H3 lo3 r3 hh3 hk3 hal3 => ?_)
  obtain ⟨w3, rfl, v3, rfl, -, -⟩ := zc_one (t := (1, (-9223372036854775808), 9223372036854775807)) (L := []) hal3
  have hH3 := hh3.2.1 b C.hbl
  have j3 := j1.kept hx10_1 hm11_1 hk3 (by decide) (by decide)
  have kk3 := (kk1.kept hx10_1 hm11_1 hk3 (by decide) (by decide))
  refine W.eq (g2 := F0 m 1011 ls2 [.long v3]) rfl ?_
  refine lv_lstore C.hx C.hb (eL_law_13 (1011, .lstore 6, 2) (List.mem_of_getElem? (i := 50) rfl)) hl2 (by decide) rfl (fun ls4 (hl4 : lv_has ls4 8 [(6, .long v3), (5, .int k1), (4, .int iv), (3, .ref o), (2, .ref mm), (1, .ref x), (0, .ref b)]) => ?_)
  refine lv_goto C.hx C.hb (eL_law_13 (1013, .goto 782, 3) (List.mem_of_getElem? (i := 51) rfl)) (tgt := 1795) rfl ?_
  exact W.widen (k := cells + 6) (n := slots + 147) (by omega) (by omega) (K ro1 _ _ _ ⟨hh3, he_1, hx10_1, hm11_1, ho42_1, j3, kk3⟩ (lv_sub hl4 [2, 3, 4, 5, 6] rfl))
def tL_law_14 : List (Nat × Instr × Nat) := [(1016, .aload_n 1, 1), (1017, .aload_n 0, 1), (1018, .iload 4, 2), (1020, .iconst 1, 1), (1021, .iadd, 1), (1022, .iaload, 1), (1023, .i2l, 1), (1024, .bipush 32, 2), (1026, .lshl, 1), (1027, .aload_n 0, 1), (1028, .iload 4, 2), (1030, .iconst 2, 1), (1031, .iadd, 1), (1032, .iaload, 1), (1033, .i2l, 1), (1034, .ldc2_w 108, 3), (1037, .land, 1), (1038, .lor, 1), (1039, .aload_n 0, 1), (1040, .iload 4, 2), (1042, .iconst 3, 1), (1043, .iadd, 1), (1044, .iaload, 1), (1045, .aload_n 3, 1), (1046, .invokestatic 155, 3), (1049, .istore 5, 2), (1051, .aload_n 2, 1), (1052, .aload_n 0, 1), (1053, .iload 4, 2), (1055, .iconst 1, 1), (1056, .iadd, 1), (1057, .iaload, 1), (1058, .i2l, 1), (1059, .bipush 32, 2), (1061, .lshl, 1), (1062, .aload_n 0, 1), (1063, .iload 4, 2), (1065, .iconst 2, 1), (1066, .iadd, 1), (1067, .iaload, 1), (1068, .i2l, 1), (1069, .ldc2_w 108, 3), (1072, .land, 1), (1073, .lor, 1), (1074, .aload_n 0, 1), (1075, .iload 4, 2), (1077, .iconst 3, 1), (1078, .iadd, 1), (1079, .iaload, 1), (1080, .invokevirtual 157, 3), (1083, .istore 6, 2), (1085, .goto 710, 3)]
set_option maxRecDepth 100000 in
theorem eL_law_14 : ∀ x ∈ tL_law_14, decode cL_law x.1 = .ok x.2 := by decide +kernel
set_option maxRecDepth 100000 in
set_option maxHeartbeats 4000000 in
theorem lw_case_14 {p : Program} {l : Launch} {e : Env} {s : State} {m : MethodId} {below : List Frame} {meth : Method} {c : Code} {b L : Nat} {xs : Nat → Int32} {D : va_G} {cA : Nat → ClassId} {ro0 ro : Nat → Option Nat} {H : Heap} {locs : List Loc} {cells slots : Nat} {Q : State → Prop} {ls : Array Slot} {i x mm o : Nat} {iv : Int32} (C : lw_C p l s m meth c b L xs D cA ro0) (hi : i + 8 ≤ L) (hiv : iv.toInt = (i : Int)) (I : lw_I D cA ro0 s x mm o ro H locs) (hl : lv_has ls 8 [(4, .int iv), (3, .ref o), (2, .ref mm), (1, .ref x), (0, .ref b)]) (hc : cells + 6 ≤ 601024) (hs : slots + 147 ≤ 7293034) (K : ∀ (ro9 : Nat → Option Nat) (H9 : Heap) (lo9 : List Loc) (ls9 : Array Slot), lw_I D cA ro0 s x mm o ro9 H9 lo9 → lv_has ls9 8 [(4, .int iv), (3, .ref o), (2, .ref mm), (1, .ref x), (0, .ref b)] → W p l e room_1 s m #[Value.ref b] below meth c H9 lo9 (cells + 6) (slots + 147) Q (F0 m 1795 ls9 [])) : W p l e room_1 s m #[Value.ref b] below meth c H locs cells slots Q (F0 m 1016 ls []) := by
  have hL := C.hL
  have hH0 := I.hh.2.1 b C.hbl
  have hts0 : ∀ w ∈ Cond.initialized "MomentTextsLaw" :: gT, w.before #[Value.ref b] s = true := fun w hw => (List.mem_cons.mp hw).elim (fun g => by rw [g]; exact C.h2 _ (tb_1 0 rfl rfl)) (C.h2 w)
  generalize hy1 : xs (i + 1) = y1
  generalize hy2 : xs (i + 2) = y2
  generalize hy3 : xs (i + 3) = y3
  generalize hy4 : xs (i + 4) = y4
  generalize hy5 : xs (i + 5) = y5
  generalize hy6 : xs (i + 6) = y6
  generalize hy7 : xs (i + 7) = y7
  refine lv_aload_n C.hx C.hb (eL_law_14 (1016, .aload_n 1, 1) (List.mem_of_getElem? (i := 0) rfl)) rfl (lv_at hl 3 rfl) ?_
  refine lw_rd (k := 1) C hi hiv hH0 (lv_at hl 0 rfl) (lv_at hl 4 rfl) (by decide) rfl (eL_law_14 (1017, .aload_n 0, 1) (List.mem_of_getElem? (i := 1) rfl)) (eL_law_14 (1018, .iload 4, 2) (List.mem_of_getElem? (i := 2) rfl)) (eL_law_14 (1020, .iconst 1, 1) (List.mem_of_getElem? (i := 3) rfl)) (eL_law_14 (1021, .iadd, 1) (List.mem_of_getElem? (i := 4) rfl)) (eL_law_14 (1022, .iaload, 1) (List.mem_of_getElem? (i := 5) rfl)) hy1 ?_
  refine lv_i2l C.hx C.hb (eL_law_14 (1023, .i2l, 1) (List.mem_of_getElem? (i := 6) rfl)) rfl ?_
  refine lv_bipush C.hx C.hb (eL_law_14 (1024, .bipush 32, 2) (List.mem_of_getElem? (i := 7) rfl)) rfl ?_
  refine lv_lshl C.hx C.hb (eL_law_14 (1026, .lshl, 1) (List.mem_of_getElem? (i := 8) rfl)) rfl ?_
  refine lw_rd (k := 2) C hi hiv hH0 (lv_at hl 0 rfl) (lv_at hl 4 rfl) (by decide) rfl (eL_law_14 (1027, .aload_n 0, 1) (List.mem_of_getElem? (i := 9) rfl)) (eL_law_14 (1028, .iload 4, 2) (List.mem_of_getElem? (i := 10) rfl)) (eL_law_14 (1030, .iconst 2, 1) (List.mem_of_getElem? (i := 11) rfl)) (eL_law_14 (1031, .iadd, 1) (List.mem_of_getElem? (i := 12) rfl)) (eL_law_14 (1032, .iaload, 1) (List.mem_of_getElem? (i := 13) rfl)) hy2 ?_
  refine lv_i2l C.hx C.hb (eL_law_14 (1033, .i2l, 1) (List.mem_of_getElem? (i := 14) rfl)) rfl ?_
  refine lv_ldc2 C.hx C.hb C.hown (C.h2 _ (tb_8 200 rfl rfl)) (eL_law_14 (1034, .ldc2_w 108, 3) (List.mem_of_getElem? (i := 15) rfl)) ?_
  refine lv_land C.hx C.hb (eL_law_14 (1037, .land, 1) (List.mem_of_getElem? (i := 16) rfl)) ?_
  refine lv_lor C.hx C.hb (eL_law_14 (1038, .lor, 1) (List.mem_of_getElem? (i := 17) rfl)) ?_
  refine W.eq (g2 := F0 m 1039 ls [.long (lgI y1 y2), .ref x]) rfl ?_
  refine lw_rd (k := 3) C hi hiv hH0 (lv_at hl 0 rfl) (lv_at hl 4 rfl) (by decide) rfl (eL_law_14 (1039, .aload_n 0, 1) (List.mem_of_getElem? (i := 18) rfl)) (eL_law_14 (1040, .iload 4, 2) (List.mem_of_getElem? (i := 19) rfl)) (eL_law_14 (1042, .iconst 3, 1) (List.mem_of_getElem? (i := 20) rfl)) (eL_law_14 (1043, .iadd, 1) (List.mem_of_getElem? (i := 21) rfl)) (eL_law_14 (1044, .iaload, 1) (List.mem_of_getElem? (i := 22) rfl)) hy3 ?_
  refine lv_aload_n C.hx C.hb (eL_law_14 (1045, .aload_n 3, 1) (List.mem_of_getElem? (i := 23) rfl)) rfl (lv_at hl 1 rfl) ?_
  have hjj := I.hj
  obtain ⟨LL, zc, jc, jr, hzp⟩ := hjj
  have hkk := I.hk
  obtain ⟨TT, OO, kc, kr⟩ := hkk
  refine zw_row (As := [.ref x, .long (lgI y1 y2), .int y3, .ref o]) (st := []) (Ts := gT) C.hx C.hb C.hml C.hown C.h2 (fun _ h => h) (wK_type l C.hst D cA ro s.heap.size s.heap x (lgI y1 y2) y3 o LL (zc.1.length : Int) TT OO I.hx10 I.ho42) ⟨rfl, rfl⟩ ⟨by decide, by decide⟩ ⟨by show cells + 1 ≤ 601024; omega, by show slots + 6 ≤ 7293034; omega⟩ (tb_4 197 rfl rfl) (tb_1 0 rfl rfl) (tb_4 195 rfl rfl) (tb_4 196 rfl rfl) (show yL_type.cls ≠ "java/lang/invoke/MethodHandle" ∧ yL_type.cls ≠ "java/lang/invoke/VarHandle" ∧ (parseMethodDescriptor yL_type.desc).map (fun d => d.parameters.length) = some 4 by decide +kernel) zs_blindY (fun U hU hW => ⟨rfl, by rw [hU]; exact I.hh.l0, (C.hKa.ext I.he).warm hW, (zBQ_of C.hBM).alike hW.alike, by rw [hU]; exact ⟨jc.cs, kc⟩⟩) I.hh.2.2.1 hl.1 (Nat.le_of_ble_eq_true rfl) (eL_law_14 (1046, .invokestatic 155, 3) (List.mem_of_getElem? (i := 24) rfl)) (fun r1 s1 t1 lo1 g1 f1 l1 => ?_)
  obtain ⟨k1, T1, O1, zz, rr, q1, z1, kp1, kc1, hoz, hor, hday⟩ := f1
  cases q1
  rw [g1] at kp1
  have hh1 : zh_ok D cA RTg ro s.heap.size s.heap t1.heap lo1 := ⟨z1.1, z1.2.1, l1, z1.2.2.2⟩
  have jc1 := jc.kept I.hx10 kp1 (by decide)
  have jr1 := jr.kept I.hm11 kp1 (by decide)
  have kr1 := kr.kept I.hm11 kp1 (by decide)
  obtain ⟨rk, spk, hrk⟩ : ∃ r : Int, spT (lgI y1 y2) y3.toInt TT OO k1.toInt r T1 O1 ∧ (k1.toInt = 0 → r = rr.toInt) := by
    rcases hday with ⟨g1, g2⟩ | ⟨g1, r, g2⟩
    · exact ⟨rr.toInt, by rw [g1]; exact g2, fun _ => rfl⟩
    · exact ⟨r, g2, fun g => absurd g g1⟩
  have hH1 := hh1.2.1 b C.hbl
  refine W.eq (g2 := F0 m 1049 ls [.int k1]) rfl ?_
  refine lv_istore C.hx C.hb (eL_law_14 (1049, .istore 5, 2) (List.mem_of_getElem? (i := 25) rfl)) hl (by decide) rfl (fun ls2 (hl2 : lv_has ls2 8 [(5, .int k1), (4, .int iv), (3, .ref o), (2, .ref mm), (1, .ref x), (0, .ref b)]) => ?_)
  refine lv_aload_n C.hx C.hb (eL_law_14 (1051, .aload_n 2, 1) (List.mem_of_getElem? (i := 26) rfl)) rfl (lv_at hl2 3 rfl) ?_
  refine lw_rd (k := 1) C hi hiv hH1 (lv_at hl2 1 rfl) (lv_at hl2 5 rfl) (by decide) rfl (eL_law_14 (1052, .aload_n 0, 1) (List.mem_of_getElem? (i := 27) rfl)) (eL_law_14 (1053, .iload 4, 2) (List.mem_of_getElem? (i := 28) rfl)) (eL_law_14 (1055, .iconst 1, 1) (List.mem_of_getElem? (i := 29) rfl)) (eL_law_14 (1056, .iadd, 1) (List.mem_of_getElem? (i := 30) rfl)) (eL_law_14 (1057, .iaload, 1) (List.mem_of_getElem? (i := 31) rfl)) hy1 ?_
  refine lv_i2l C.hx C.hb (eL_law_14 (1058, .i2l, 1) (List.mem_of_getElem? (i := 32) rfl)) rfl ?_
  refine lv_bipush C.hx C.hb (eL_law_14 (1059, .bipush 32, 2) (List.mem_of_getElem? (i := 33) rfl)) rfl ?_
  refine lv_lshl C.hx C.hb (eL_law_14 (1061, .lshl, 1) (List.mem_of_getElem? (i := 34) rfl)) rfl ?_
  refine lw_rd (k := 2) C hi hiv hH1 (lv_at hl2 1 rfl) (lv_at hl2 5 rfl) (by decide) rfl (eL_law_14 (1062, .aload_n 0, 1) (List.mem_of_getElem? (i := 35) rfl)) (eL_law_14 (1063, .iload 4, 2) (List.mem_of_getElem? (i := 36) rfl)) (eL_law_14 (1065, .iconst 2, 1) (List.mem_of_getElem? (i := 37) rfl)) (eL_law_14 (1066, .iadd, 1) (List.mem_of_getElem? (i := 38) rfl)) (eL_law_14 (1067, .iaload, 1) (List.mem_of_getElem? (i := 39) rfl)) hy2 ?_
  refine lv_i2l C.hx C.hb (eL_law_14 (1068, .i2l, 1) (List.mem_of_getElem? (i := 40) rfl)) rfl ?_
  refine lv_ldc2 C.hx C.hb C.hown (C.h2 _ (tb_8 200 rfl rfl)) (eL_law_14 (1069, .ldc2_w 108, 3) (List.mem_of_getElem? (i := 41) rfl)) ?_
  refine lv_land C.hx C.hb (eL_law_14 (1072, .land, 1) (List.mem_of_getElem? (i := 42) rfl)) ?_
  refine lv_lor C.hx C.hb (eL_law_14 (1073, .lor, 1) (List.mem_of_getElem? (i := 43) rfl)) ?_
  refine W.eq (g2 := F0 m 1074 ls2 [.long (lgI y1 y2), .ref mm]) rfl ?_
  refine lw_rd (k := 3) C hi hiv hH1 (lv_at hl2 1 rfl) (lv_at hl2 5 rfl) (by decide) rfl (eL_law_14 (1074, .aload_n 0, 1) (List.mem_of_getElem? (i := 44) rfl)) (eL_law_14 (1075, .iload 4, 2) (List.mem_of_getElem? (i := 45) rfl)) (eL_law_14 (1077, .iconst 3, 1) (List.mem_of_getElem? (i := 46) rfl)) (eL_law_14 (1078, .iadd, 1) (List.mem_of_getElem? (i := 47) rfl)) (eL_law_14 (1079, .iaload, 1) (List.mem_of_getElem? (i := 48) rfl)) hy3 ?_
  refine tz_rowV (As := [.long (lgI y1 y2), .int y3]) (st := []) (b := mm) (C := RX12) (Ts := gT) C.hx C.hb C.hml C.hown C.h2 (fun _ h => h) (hX12_type l D cA ro s.heap.size s.heap mm (lgI y1 y2) y3 LL (zc.1.length : Int) TT OO I.hm11) ⟨rfl, rfl⟩ ⟨by decide, by decide⟩ ⟨by show (cells + 1) + 0 ≤ 601024; omega, by show (slots + 6) + 0 ≤ 7293034; omega⟩ (tb_8 147 rfl rfl) (tb_1 12 rfl rfl) (tb_8 144 rfl rfl) (tb_8 145 rfl rfl) (tb_8 146 rfl rfl) (show yX12_type.cls ≠ "java/lang/invoke/MethodHandle" ∧ yX12_type.cls ≠ "java/lang/invoke/VarHandle" ∧ (parseMethodDescriptor yX12_type.desc).map (fun d => d.parameters.length) = some 2 by decide +kernel) zs_blind (lw_ob12 hh1 C.hKa.1.1.1 I.hm11) (fun U hU hW => ⟨rfl, by rw [hU]; exact hh1.l0, zKb s U hW.alike (C.hKa.ext I.he).1.1, by rw [hU]; exact ⟨jr1.rs, kr1⟩⟩) hh1.2.2.1 hl2.1 (Nat.le_of_ble_eq_true rfl) (eL_law_14 (1080, .invokevirtual 157, 3) (List.mem_of_getElem? (i := 49) rfl)) (fun r3 s3 t3 lo3 g3 f3 l3 => ?_)
  obtain ⟨vv3, rb3, w3, T3, O3, q3, ⟨b3, qb3, eb3⟩, z3, kp3, hw3, kr3, sp3⟩ := f3
  cases q3
  cases qb3
  rw [g3] at kp3
  have hh3 : zh_ok D cA RTg ro s.heap.size s.heap t3.heap lo3 := ⟨z3.1, z3.2.1, l3, z3.2.2.2⟩
  obtain ⟨hkw, hLL, hzz, hrr⟩ := (spT_det (lgI y1 y2) y3.toInt TT OO) _ _ _ _ _ _ _ _ spk sp3
  rw [← hLL, ← hzz] at kr3
  have jc9 := jc1.kept I.hx10 kp3 (by decide)
  have jr9 := jr1.kept I.hm11 kp3 (by decide)
  have kc9 := kc1.kept I.hx10 kp3 (by decide)
  have j3 : jJY D cA ro t3.heap x mm := ⟨_, _, jc9, jr9, hzp⟩
  have kk3 : jK D cA ro t3.heap x mm := ⟨_, _, kc9, kr3⟩
  have hoz2 := (kp3.2 o 42 0 1 1 _ I.ho42 rfl (by decide)).trans hoz
  have hH3 := hh3.2.1 b C.hbl
  refine W.eq (g2 := F0 m 1083 ls2 [.int b3]) rfl ?_
  refine lv_istore C.hx C.hb (eL_law_14 (1083, .istore 6, 2) (List.mem_of_getElem? (i := 50) rfl)) hl2 (by decide) rfl (fun ls4 (hl4 : lv_has ls4 8 [(6, .int b3), (5, .int k1), (4, .int iv), (3, .ref o), (2, .ref mm), (1, .ref x), (0, .ref b)]) => ?_)
  refine lv_goto C.hx C.hb (eL_law_14 (1085, .goto 710, 3) (List.mem_of_getElem? (i := 51) rfl)) (tgt := 1795) rfl ?_
  exact W.widen (k := cells + 6) (n := slots + 147) (by omega) (by omega) (K ro _ _ _ ⟨hh3, I.he, I.hx10, I.hm11, I.ho42, j3, kk3⟩ (lv_sub hl4 [2, 3, 4, 5, 6] rfl))
def tL_law_15 : List (Nat × Instr × Nat) := [(1088, .aload_n 1, 1), (1089, .invokevirtual 158, 3), (1092, .pop, 1), (1093, .aload_n 2, 1), (1094, .invokevirtual 162, 3), (1097, .pop, 1), (1098, .goto 697, 3)]
set_option maxRecDepth 100000 in
theorem eL_law_15 : ∀ x ∈ tL_law_15, decode cL_law x.1 = .ok x.2 := by decide +kernel
set_option maxRecDepth 100000 in
set_option maxHeartbeats 4000000 in
theorem lw_case_15 {p : Program} {l : Launch} {e : Env} {s : State} {m : MethodId} {below : List Frame} {meth : Method} {c : Code} {b L : Nat} {xs : Nat → Int32} {D : va_G} {cA : Nat → ClassId} {ro0 ro : Nat → Option Nat} {H : Heap} {locs : List Loc} {cells slots : Nat} {Q : State → Prop} {ls : Array Slot} {i x mm o : Nat} {iv : Int32} (C : lw_C p l s m meth c b L xs D cA ro0) (hi : i + 8 ≤ L) (hiv : iv.toInt = (i : Int)) (I : lw_I D cA ro0 s x mm o ro H locs) (hl : lv_has ls 8 [(4, .int iv), (3, .ref o), (2, .ref mm), (1, .ref x), (0, .ref b)]) (hc : cells + 6 ≤ 601024) (hs : slots + 147 ≤ 7293034) (K : ∀ (ro9 : Nat → Option Nat) (H9 : Heap) (lo9 : List Loc) (ls9 : Array Slot), lw_I D cA ro0 s x mm o ro9 H9 lo9 → lv_has ls9 8 [(4, .int iv), (3, .ref o), (2, .ref mm), (1, .ref x), (0, .ref b)] → W p l e room_1 s m #[Value.ref b] below meth c H9 lo9 (cells + 6) (slots + 147) Q (F0 m 1795 ls9 [])) : W p l e room_1 s m #[Value.ref b] below meth c H locs cells slots Q (F0 m 1088 ls []) := by
  have hL := C.hL
  have hH0 := I.hh.2.1 b C.hbl
  have hts0 : ∀ w ∈ Cond.initialized "MomentTextsLaw" :: gT, w.before #[Value.ref b] s = true := fun w hw => (List.mem_cons.mp hw).elim (fun g => by rw [g]; exact C.h2 _ (tb_1 0 rfl rfl)) (C.h2 w)
  generalize hy1 : xs (i + 1) = y1
  generalize hy2 : xs (i + 2) = y2
  generalize hy3 : xs (i + 3) = y3
  generalize hy4 : xs (i + 4) = y4
  generalize hy5 : xs (i + 5) = y5
  generalize hy6 : xs (i + 6) = y6
  generalize hy7 : xs (i + 7) = y7
  refine lv_aload_n C.hx C.hb (eL_law_15 (1088, .aload_n 1, 1) (List.mem_of_getElem? (i := 0) rfl)) rfl (lv_at hl 3 rfl) ?_
  have hjj := I.hj
  obtain ⟨LL, zc, jc, jr, hzp⟩ := hjj
  have hkk := I.hk
  obtain ⟨TT, OO, kc, kr⟩ := hkk
  refine tz_rowV (As := []) (st := []) (b := x) (C := RX11) (Ts := gT) C.hx C.hb C.hml C.hown C.h2 (fun _ h => h) (hX11_pass l D cA ro s.heap.size s.heap x LL (zc.1.length : Int) TT OO I.hx10) ⟨rfl, rfl⟩ ⟨by decide, by decide⟩ ⟨by show cells + 0 ≤ 601024; omega, by show slots + 0 ≤ 7293034; omega⟩ (tb_2 91 rfl rfl) (tb_1 1 rfl rfl) (tb_2 88 rfl rfl) (tb_2 89 rfl rfl) (tb_2 90 rfl rfl) (show yX11_pass.cls ≠ "java/lang/invoke/MethodHandle" ∧ yX11_pass.cls ≠ "java/lang/invoke/VarHandle" ∧ (parseMethodDescriptor yX11_pass.desc).map (fun d => d.parameters.length) = some 0 by decide +kernel) zs_blind (zw_ob I.hh C.hKa.1.1.1 I.hx10) (fun U hU hW => ⟨rfl, by rw [hU]; exact I.hh.l0, zKb s U hW.alike (C.hKa.ext I.he).1.1, by rw [hU]; exact ⟨jc.cs, kc⟩⟩) I.hh.2.2.1 hl.1 (Nat.le_of_ble_eq_true rfl) (eL_law_15 (1089, .invokevirtual 158, 3) (List.mem_of_getElem? (i := 1) rfl)) (fun r1 s1 t1 lo1 g1 f1 l1 => ?_)
  obtain ⟨vv1, rk, T1, O1, q1, ⟨b1, qb1, eb1⟩, z1, kp1, kc1, spk⟩ := f1
  cases q1
  cases qb1
  rw [g1] at kp1
  have hh1 : zh_ok D cA RTg ro s.heap.size s.heap t1.heap lo1 := ⟨z1.1, z1.2.1, l1, z1.2.2.2⟩
  have jc1 := jc.kept I.hx10 kp1 (by decide)
  have jr1 := jr.kept I.hm11 kp1 (by decide)
  have kr1 := kr.kept I.hm11 kp1 (by decide)
  have hH1 := hh1.2.1 b C.hbl
  refine W.eq (g2 := F0 m 1092 ls [.int b1]) rfl ?_
  refine lv_pop C.hx C.hb (eL_law_15 (1092, .pop, 1) (List.mem_of_getElem? (i := 2) rfl)) rfl ?_
  refine lv_aload_n C.hx C.hb (eL_law_15 (1093, .aload_n 2, 1) (List.mem_of_getElem? (i := 3) rfl)) rfl (lv_at hl 2 rfl) ?_
  refine tz_rowV (As := []) (st := []) (b := mm) (C := RX12) (Ts := gT) C.hx C.hb C.hml C.hown C.h2 (fun _ h => h) (hX12_pass l D cA ro s.heap.size s.heap mm  LL (zc.1.length : Int) TT OO I.hm11) ⟨rfl, rfl⟩ ⟨by decide, by decide⟩ ⟨by show (cells + 0) + 0 ≤ 601024; omega, by show (slots + 0) + 0 ≤ 7293034; omega⟩ (tb_8 152 rfl rfl) (tb_1 12 rfl rfl) (tb_8 149 rfl rfl) (tb_8 150 rfl rfl) (tb_8 151 rfl rfl) (show yX12_pass.cls ≠ "java/lang/invoke/MethodHandle" ∧ yX12_pass.cls ≠ "java/lang/invoke/VarHandle" ∧ (parseMethodDescriptor yX12_pass.desc).map (fun d => d.parameters.length) = some 0 by decide +kernel) zs_blind (lw_ob12 hh1 C.hKa.1.1.1 I.hm11) (fun U hU hW => ⟨rfl, by rw [hU]; exact hh1.l0, zKb s U hW.alike (C.hKa.ext I.he).1.1, by rw [hU]; exact ⟨jr1.rs, kr1⟩⟩) hh1.2.2.1 hl.1 (Nat.le_of_ble_eq_true rfl) (eL_law_15 (1094, .invokevirtual 162, 3) (List.mem_of_getElem? (i := 4) rfl)) (fun r2 s2 t2 lo2 g2 f2 l2 => ?_)
  obtain ⟨vv2, rb2, w2, T2, O2, q2, ⟨b2, qb2, eb2⟩, z2, kp2, hw2, kr2, sp2⟩ := f2
  cases q2
  cases qb2
  rw [g2] at kp2
  have hh2 : zh_ok D cA RTg ro s.heap.size s.heap t2.heap lo2 := ⟨z2.1, z2.2.1, l2, z2.2.2.2⟩
  obtain ⟨hkw, hLL, hzz, hrr⟩ := (spP_det TT OO) _ _ _ _ _ _ _ _ spk sp2
  rw [← hLL, ← hzz] at kr2
  have jc9 := jc1.kept I.hx10 kp2 (by decide)
  have jr9 := jr1.kept I.hm11 kp2 (by decide)
  have kc9 := kc1.kept I.hx10 kp2 (by decide)
  have j2 : jJY D cA ro t2.heap x mm := ⟨_, _, jc9, jr9, hzp⟩
  have kk2 : jK D cA ro t2.heap x mm := ⟨_, _, kc9, kr2⟩
  have hH2 := hh2.2.1 b C.hbl
  refine W.eq (g2 := F0 m 1097 ls [.int b2]) rfl ?_
  refine lv_pop C.hx C.hb (eL_law_15 (1097, .pop, 1) (List.mem_of_getElem? (i := 5) rfl)) rfl ?_
  refine lv_goto C.hx C.hb (eL_law_15 (1098, .goto 697, 3) (List.mem_of_getElem? (i := 6) rfl)) (tgt := 1795) rfl ?_
  exact W.widen (k := cells + 6) (n := slots + 147) (by omega) (by omega) (K ro _ _ _ ⟨hh2, I.he, I.hx10, I.hm11, I.ho42, j2, kk2⟩ (lv_sub hl [0, 1, 2, 3, 4] rfl))
def tL_law_16 : List (Nat × Instr × Nat) := [(1101, .aload_n 1, 1), (1102, .invokevirtual 163, 3), (1105, .pop, 1), (1106, .aload_n 2, 1), (1107, .invokevirtual 166, 3), (1110, .pop, 1), (1111, .goto 684, 3)]
set_option maxRecDepth 100000 in
theorem eL_law_16 : ∀ x ∈ tL_law_16, decode cL_law x.1 = .ok x.2 := by decide +kernel
set_option maxRecDepth 100000 in
set_option maxHeartbeats 4000000 in
theorem lw_case_16 {p : Program} {l : Launch} {e : Env} {s : State} {m : MethodId} {below : List Frame} {meth : Method} {c : Code} {b L : Nat} {xs : Nat → Int32} {D : va_G} {cA : Nat → ClassId} {ro0 ro : Nat → Option Nat} {H : Heap} {locs : List Loc} {cells slots : Nat} {Q : State → Prop} {ls : Array Slot} {i x mm o : Nat} {iv : Int32} (C : lw_C p l s m meth c b L xs D cA ro0) (hi : i + 8 ≤ L) (hiv : iv.toInt = (i : Int)) (I : lw_I D cA ro0 s x mm o ro H locs) (hl : lv_has ls 8 [(4, .int iv), (3, .ref o), (2, .ref mm), (1, .ref x), (0, .ref b)]) (hc : cells + 6 ≤ 601024) (hs : slots + 147 ≤ 7293034) (K : ∀ (ro9 : Nat → Option Nat) (H9 : Heap) (lo9 : List Loc) (ls9 : Array Slot), lw_I D cA ro0 s x mm o ro9 H9 lo9 → lv_has ls9 8 [(4, .int iv), (3, .ref o), (2, .ref mm), (1, .ref x), (0, .ref b)] → W p l e room_1 s m #[Value.ref b] below meth c H9 lo9 (cells + 6) (slots + 147) Q (F0 m 1795 ls9 [])) : W p l e room_1 s m #[Value.ref b] below meth c H locs cells slots Q (F0 m 1101 ls []) := by
  have hL := C.hL
  have hH0 := I.hh.2.1 b C.hbl
  have hts0 : ∀ w ∈ Cond.initialized "MomentTextsLaw" :: gT, w.before #[Value.ref b] s = true := fun w hw => (List.mem_cons.mp hw).elim (fun g => by rw [g]; exact C.h2 _ (tb_1 0 rfl rfl)) (C.h2 w)
  generalize hy1 : xs (i + 1) = y1
  generalize hy2 : xs (i + 2) = y2
  generalize hy3 : xs (i + 3) = y3
  generalize hy4 : xs (i + 4) = y4
  generalize hy5 : xs (i + 5) = y5
  generalize hy6 : xs (i + 6) = y6
  generalize hy7 : xs (i + 7) = y7
  refine lv_aload_n C.hx C.hb (eL_law_16 (1101, .aload_n 1, 1) (List.mem_of_getElem? (i := 0) rfl)) rfl (lv_at hl 3 rfl) ?_
  have hjj := I.hj
  obtain ⟨LL, zc, jc, jr, hzp⟩ := hjj
  have hkk := I.hk
  obtain ⟨TT, OO, kc, kr⟩ := hkk
  refine tz_rowV (As := []) (st := []) (b := x) (C := RX11) (Ts := gT) C.hx C.hb C.hml C.hown C.h2 (fun _ h => h) (hX11_clear l D cA ro s.heap.size s.heap x LL (zc.1.length : Int) TT OO I.hx10) ⟨rfl, rfl⟩ ⟨by decide, by decide⟩ ⟨by show cells + 0 ≤ 601024; omega, by show slots + 0 ≤ 7293034; omega⟩ (tb_2 99 rfl rfl) (tb_1 1 rfl rfl) (tb_2 96 rfl rfl) (tb_2 97 rfl rfl) (tb_2 98 rfl rfl) (show yX11_clear.cls ≠ "java/lang/invoke/MethodHandle" ∧ yX11_clear.cls ≠ "java/lang/invoke/VarHandle" ∧ (parseMethodDescriptor yX11_clear.desc).map (fun d => d.parameters.length) = some 0 by decide +kernel) zs_blind (zw_ob I.hh C.hKa.1.1.1 I.hx10) (fun U hU hW => ⟨rfl, by rw [hU]; exact I.hh.l0, zKb s U hW.alike (C.hKa.ext I.he).1.1, by rw [hU]; exact ⟨jc.cs, kc⟩⟩) I.hh.2.2.1 hl.1 (Nat.le_of_ble_eq_true rfl) (eL_law_16 (1102, .invokevirtual 163, 3) (List.mem_of_getElem? (i := 1) rfl)) (fun r1 s1 t1 lo1 g1 f1 l1 => ?_)
  obtain ⟨vv1, rk, T1, O1, q1, ⟨b1, qb1, eb1⟩, z1, kp1, kc1, spk⟩ := f1
  cases q1
  cases qb1
  rw [g1] at kp1
  have hh1 : zh_ok D cA RTg ro s.heap.size s.heap t1.heap lo1 := ⟨z1.1, z1.2.1, l1, z1.2.2.2⟩
  have jc1 := jc.kept I.hx10 kp1 (by decide)
  have jr1 := jr.kept I.hm11 kp1 (by decide)
  have kr1 := kr.kept I.hm11 kp1 (by decide)
  have hH1 := hh1.2.1 b C.hbl
  refine W.eq (g2 := F0 m 1105 ls [.int b1]) rfl ?_
  refine lv_pop C.hx C.hb (eL_law_16 (1105, .pop, 1) (List.mem_of_getElem? (i := 2) rfl)) rfl ?_
  refine lv_aload_n C.hx C.hb (eL_law_16 (1106, .aload_n 2, 1) (List.mem_of_getElem? (i := 3) rfl)) rfl (lv_at hl 2 rfl) ?_
  refine tz_rowV (As := []) (st := []) (b := mm) (C := RX12) (Ts := gT) C.hx C.hb C.hml C.hown C.h2 (fun _ h => h) (hX12_clear l D cA ro s.heap.size s.heap mm  LL (zc.1.length : Int) TT OO I.hm11) ⟨rfl, rfl⟩ ⟨by decide, by decide⟩ ⟨by show (cells + 0) + 0 ≤ 601024; omega, by show (slots + 0) + 0 ≤ 7293034; omega⟩ (tb_8 156 rfl rfl) (tb_1 12 rfl rfl) (tb_8 153 rfl rfl) (tb_8 154 rfl rfl) (tb_8 155 rfl rfl) (show yX12_clear.cls ≠ "java/lang/invoke/MethodHandle" ∧ yX12_clear.cls ≠ "java/lang/invoke/VarHandle" ∧ (parseMethodDescriptor yX12_clear.desc).map (fun d => d.parameters.length) = some 0 by decide +kernel) zs_blind (lw_ob12 hh1 C.hKa.1.1.1 I.hm11) (fun U hU hW => ⟨rfl, by rw [hU]; exact hh1.l0, zKb s U hW.alike (C.hKa.ext I.he).1.1, by rw [hU]; exact ⟨jr1.rs, kr1⟩⟩) hh1.2.2.1 hl.1 (Nat.le_of_ble_eq_true rfl) (eL_law_16 (1107, .invokevirtual 166, 3) (List.mem_of_getElem? (i := 4) rfl)) (fun r2 s2 t2 lo2 g2 f2 l2 => ?_)
  obtain ⟨vv2, rb2, w2, T2, O2, q2, ⟨b2, qb2, eb2⟩, z2, kp2, hw2, kr2, sp2⟩ := f2
  cases q2
  cases qb2
  rw [g2] at kp2
  have hh2 : zh_ok D cA RTg ro s.heap.size s.heap t2.heap lo2 := ⟨z2.1, z2.2.1, l2, z2.2.2.2⟩
  obtain ⟨hkw, hLL, hzz, hrr⟩ := (spC_det TT OO) _ _ _ _ _ _ _ _ spk sp2
  rw [← hLL, ← hzz] at kr2
  have jc9 := jc1.kept I.hx10 kp2 (by decide)
  have jr9 := jr1.kept I.hm11 kp2 (by decide)
  have kc9 := kc1.kept I.hx10 kp2 (by decide)
  have j2 : jJY D cA ro t2.heap x mm := ⟨_, _, jc9, jr9, hzp⟩
  have kk2 : jK D cA ro t2.heap x mm := ⟨_, _, kc9, kr2⟩
  have hH2 := hh2.2.1 b C.hbl
  refine W.eq (g2 := F0 m 1110 ls [.int b2]) rfl ?_
  refine lv_pop C.hx C.hb (eL_law_16 (1110, .pop, 1) (List.mem_of_getElem? (i := 5) rfl)) rfl ?_
  refine lv_goto C.hx C.hb (eL_law_16 (1111, .goto 684, 3) (List.mem_of_getElem? (i := 6) rfl)) (tgt := 1795) rfl ?_
  exact W.widen (k := cells + 6) (n := slots + 147) (by omega) (by omega) (K ro _ _ _ ⟨hh2, I.he, I.hx10, I.hm11, I.ho42, j2, kk2⟩ (lv_sub hl [0, 1, 2, 3, 4] rfl))
def tL_law_17 : List (Nat × Instr × Nat) := [(1114, .aload_n 1, 1), (1115, .aload_n 0, 1), (1116, .iload 4, 2), (1118, .iconst 1, 1), (1119, .iadd, 1), (1120, .iaload, 1), (1121, .aload_n 3, 1), (1122, .invokestatic 167, 3), (1125, .istore 5, 2), (1127, .aload_n 2, 1), (1128, .aload_n 0, 1), (1129, .iload 4, 2), (1131, .iconst 1, 1), (1132, .iadd, 1), (1133, .iaload, 1), (1134, .invokevirtual 169, 3), (1137, .lstore 6, 2), (1139, .goto 656, 3)]
set_option maxRecDepth 100000 in
theorem eL_law_17 : ∀ x ∈ tL_law_17, decode cL_law x.1 = .ok x.2 := by decide +kernel
set_option maxRecDepth 100000 in
set_option maxHeartbeats 4000000 in
theorem lw_case_17 {p : Program} {l : Launch} {e : Env} {s : State} {m : MethodId} {below : List Frame} {meth : Method} {c : Code} {b L : Nat} {xs : Nat → Int32} {D : va_G} {cA : Nat → ClassId} {ro0 ro : Nat → Option Nat} {H : Heap} {locs : List Loc} {cells slots : Nat} {Q : State → Prop} {ls : Array Slot} {i x mm o : Nat} {iv : Int32} (C : lw_C p l s m meth c b L xs D cA ro0) (hi : i + 8 ≤ L) (hiv : iv.toInt = (i : Int)) (I : lw_I D cA ro0 s x mm o ro H locs) (hl : lv_has ls 8 [(4, .int iv), (3, .ref o), (2, .ref mm), (1, .ref x), (0, .ref b)]) (hc : cells + 6 ≤ 601024) (hs : slots + 147 ≤ 7293034) (K : ∀ (ro9 : Nat → Option Nat) (H9 : Heap) (lo9 : List Loc) (ls9 : Array Slot), lw_I D cA ro0 s x mm o ro9 H9 lo9 → lv_has ls9 8 [(4, .int iv), (3, .ref o), (2, .ref mm), (1, .ref x), (0, .ref b)] → W p l e room_1 s m #[Value.ref b] below meth c H9 lo9 (cells + 6) (slots + 147) Q (F0 m 1795 ls9 [])) : W p l e room_1 s m #[Value.ref b] below meth c H locs cells slots Q (F0 m 1114 ls []) := by
  have hL := C.hL
  have hH0 := I.hh.2.1 b C.hbl
  have hts0 : ∀ w ∈ Cond.initialized "MomentTextsLaw" :: gT, w.before #[Value.ref b] s = true := fun w hw => (List.mem_cons.mp hw).elim (fun g => by rw [g]; exact C.h2 _ (tb_1 0 rfl rfl)) (C.h2 w)
  generalize hy1 : xs (i + 1) = y1
  generalize hy2 : xs (i + 2) = y2
  generalize hy3 : xs (i + 3) = y3
  generalize hy4 : xs (i + 4) = y4
  generalize hy5 : xs (i + 5) = y5
  generalize hy6 : xs (i + 6) = y6
  generalize hy7 : xs (i + 7) = y7
  refine lv_aload_n C.hx C.hb (eL_law_17 (1114, .aload_n 1, 1) (List.mem_of_getElem? (i := 0) rfl)) rfl (lv_at hl 3 rfl) ?_
  refine lw_rd (k := 1) C hi hiv hH0 (lv_at hl 0 rfl) (lv_at hl 4 rfl) (by decide) rfl (eL_law_17 (1115, .aload_n 0, 1) (List.mem_of_getElem? (i := 1) rfl)) (eL_law_17 (1116, .iload 4, 2) (List.mem_of_getElem? (i := 2) rfl)) (eL_law_17 (1118, .iconst 1, 1) (List.mem_of_getElem? (i := 3) rfl)) (eL_law_17 (1119, .iadd, 1) (List.mem_of_getElem? (i := 4) rfl)) (eL_law_17 (1120, .iaload, 1) (List.mem_of_getElem? (i := 5) rfl)) hy1 ?_
  refine lv_aload_n C.hx C.hb (eL_law_17 (1121, .aload_n 3, 1) (List.mem_of_getElem? (i := 6) rfl)) rfl (lv_at hl 1 rfl) ?_
  refine zw_row (As := [.ref x, .int y1, .ref o]) (st := []) (Ts := gT) C.hx C.hb C.hml C.hown C.h2 (fun _ h => h) (wL_read l C.hst D cA ro s.heap.size s.heap x y1 o I.hx10 I.ho42) ⟨rfl, rfl⟩ ⟨by decide, by decide⟩ ⟨by show cells + 1 ≤ 601024; omega, by show slots + 6 ≤ 7293034; omega⟩ (tb_4 206 rfl rfl) (tb_1 0 rfl rfl) (tb_4 204 rfl rfl) (tb_4 205 rfl rfl) (show yL_read.cls ≠ "java/lang/invoke/MethodHandle" ∧ yL_read.cls ≠ "java/lang/invoke/VarHandle" ∧ (parseMethodDescriptor yL_read.desc).map (fun d => d.parameters.length) = some 3 by decide +kernel) zw_blind (fun U hU hW => ⟨rfl, by rw [hU]; exact I.hh.l0, (C.hKa.ext I.he).warm hW⟩) I.hh.2.2.1 hl.1 (Nat.le_of_ble_eq_true rfl) (eL_law_17 (1122, .invokestatic 167, 3) (List.mem_of_getElem? (i := 7) rfl)) (fun r1 s1 t1 lo1 g1 f1 l1 => ?_)
  obtain ⟨k1, ro1, q1, he1, z1, kp1⟩ := f1
  cases q1
  rw [g1] at kp1
  have hh1 : zh_ok D cA RTg ro1 s.heap.size s.heap t1.heap lo1 := ⟨z1.1, z1.2.1, l1, z1.2.2.2⟩
  have j1 := (I.hj.kept I.hx10 I.hm11 kp1 (by decide) (by decide)).ext he1
  have kk1 := (I.hk.kept I.hx10 I.hm11 kp1 (by decide) (by decide)).ext he1
  have hx10_1 := he1 _ _ I.hx10
  have hm11_1 := he1 _ _ I.hm11
  have ho42_1 := he1 _ _ I.ho42
  have he_1 := fun q r g => he1 q r (I.he q r g)
  have hH1 := hh1.2.1 b C.hbl
  refine W.eq (g2 := F0 m 1125 ls [.int k1]) rfl ?_
  refine lv_istore C.hx C.hb (eL_law_17 (1125, .istore 5, 2) (List.mem_of_getElem? (i := 8) rfl)) hl (by decide) rfl (fun ls2 (hl2 : lv_has ls2 8 [(5, .int k1), (4, .int iv), (3, .ref o), (2, .ref mm), (1, .ref x), (0, .ref b)]) => ?_)
  refine lv_aload_n C.hx C.hb (eL_law_17 (1127, .aload_n 2, 1) (List.mem_of_getElem? (i := 9) rfl)) rfl (lv_at hl2 3 rfl) ?_
  refine lw_rd (k := 1) C hi hiv hH1 (lv_at hl2 1 rfl) (lv_at hl2 5 rfl) (by decide) rfl (eL_law_17 (1128, .aload_n 0, 1) (List.mem_of_getElem? (i := 10) rfl)) (eL_law_17 (1129, .iload 4, 2) (List.mem_of_getElem? (i := 11) rfl)) (eL_law_17 (1131, .iconst 1, 1) (List.mem_of_getElem? (i := 12) rfl)) (eL_law_17 (1132, .iadd, 1) (List.mem_of_getElem? (i := 13) rfl)) (eL_law_17 (1133, .iaload, 1) (List.mem_of_getElem? (i := 14) rfl)) hy1 ?_
  refine zr_V (idx := 169) (r := 11) (ci := 11) (n0 := 0) (fs := fsX12) (lo := 0) (hi0 := 0) (ts := [(0, (-2147483648), 2147483647)]) C.hx C.hb C.hml C.hown hts0 (C.hKa.ext he_1).1.1 zKb (mX12_read l D cA ro1 s.heap.size s.heap) ⟨rfl, rfl⟩ ⟨by decide, by decide⟩ ⟨by show (cells + 1) ≤ 601024; omega, by show (slots + 6) ≤ 7293034; omega⟩ (tb_8 59 rfl rfl) (tb_1 12 rfl rfl) (tb_8 56 rfl rfl) (tb_8 57 rfl rfl) (tb_8 58 rfl rfl) (by decide +kernel) rfl rfl (zCX12 C.hKa.1.1.1) rfl 1134 169 (.invokevirtual 169) (Or.inr (Or.inl ⟨rfl, rfl⟩)) (eL_law_17 (1134, .invokevirtual 169, 3) (List.mem_of_getElem? (i := 15) rfl)) _ _ _ [] [.ref mm, .int y1] hl2.1 (Nat.le_of_ble_eq_true rfl) hh1 ⟨⟨Or.inr ⟨_, rfl, hm11_1⟩, tz_i (zn_i32 _).1 (zn_i32 _).2, trivial⟩, fun e he => (by cases he), fun f hf => (by cases hf)⟩ (fun H3 lo3 r3 hh3 hk3 hal3 => ?_)
  obtain ⟨w3, rfl, v3, rfl, -, -⟩ := zc_one (t := (1, (-9223372036854775808), 9223372036854775807)) (L := []) hal3
  have hH3 := hh3.2.1 b C.hbl
  have j3 := j1.kept hx10_1 hm11_1 hk3 (by decide) (by decide)
  have kk3 := (kk1.kept hx10_1 hm11_1 hk3 (by decide) (by decide))
  refine W.eq (g2 := F0 m 1137 ls2 [.long v3]) rfl ?_
  refine lv_lstore C.hx C.hb (eL_law_17 (1137, .lstore 6, 2) (List.mem_of_getElem? (i := 16) rfl)) hl2 (by decide) rfl (fun ls4 (hl4 : lv_has ls4 8 [(6, .long v3), (5, .int k1), (4, .int iv), (3, .ref o), (2, .ref mm), (1, .ref x), (0, .ref b)]) => ?_)
  refine lv_goto C.hx C.hb (eL_law_17 (1139, .goto 656, 3) (List.mem_of_getElem? (i := 17) rfl)) (tgt := 1795) rfl ?_
  exact W.widen (k := cells + 6) (n := slots + 147) (by omega) (by omega) (K ro1 _ _ _ ⟨hh3, he_1, hx10_1, hm11_1, ho42_1, j3, kk3⟩ (lv_sub hl4 [2, 3, 4, 5, 6] rfl))
