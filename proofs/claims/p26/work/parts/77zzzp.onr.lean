def zg_moQ (D : va_G) (cA : Nat → ClassId) (ro : Nat → Option Nat) (sz : Nat) (H0 : Heap) (a : Nat) (n k : Int) : Array Value → State → Outcome → State → Prop := fun _ st oc t => ∃ r : Int64, oc = .returned (some (.long r)) ∧ zh_ok D cA RTg ro sz H0 t.heap [] ∧ (∀ q : Nat, q ≠ a → t.heap[q]? = st.heap[q]?) ∧ zc_kept D RTg ro [(11, 18), (11, 19), (11, 20)] st.heap t.heap ∧ ((mtV n k ∧ mtG n k r.toInt ∧ -370000000 ≤ r.toInt ∧ r.toInt ≤ 370000000) ∨ (r.toInt = -9223372036854775808 ∧ ¬ mtV n k))
set_option maxRecDepth 100000 in
set_option maxHeartbeats 4000000 in
theorem hX12_down12 (l : Launch) (a : Int64) (v900 : Int64) (e900 : v900.toInt = 12) (ha1 : -9000000000000000000 ≤ a.toInt) (ha2 : a.toInt ≤ 9000000000000000000) : zu_M l yX12_down (gW yX12_down cX12_down 6 (some .long)) { frames := 0, cells := 0, slots := 0, locals := 0 } (fun vs => vs = [.long a, .long v900]) zT (fun _ w => ∃ r : Int64, w = .long r ∧ r.toInt = a.toInt / 12) := by
  refine zy_ofW (cc := cX12_down) (maxL := 6) (ret := (some .long)) (by decide +kernel) rfl ?_
  intro p e s m args below meth c s1 B hml hv
  obtain ⟨vs, rfl, rfl, hKp⟩ := hv
  have hx := B.exec
  have hb := B.bytes
  have hr := B.returns
  have hlk := B.notSynchronized
  have hts0 := atoms_spec (ws := gW yX12_down cX12_down 6 (some .long)) B.pre
  have h2 : ∀ w ∈ gT, w.before ([.long a, .long v900] : List Value).toArray s = true := fun w hw => hts0 w (List.mem_cons_of_mem _ hw)
  have hown : s.vm.findClass RX12 = some m.cls := findClass_of_methodNamed B.named
  have hl := lv_entry [.long a, .long v900] (n := 6) (Nat.le_of_ble_eq_true rfl)
  rw [lg_entry_eq]
  generalize (lg_sl [.long a, .long v900] ++ List.replicate (6 - (lg_sl [.long a, .long v900]).length) Slot.unset).toArray = ls at hl ⊢
  have b_a := zn_i64 a
  have b_v900 := zn_i64 v900
  refine lv_lload_n hx hb (eX12_down (0, .lload_n 0, 1) (List.mem_of_getElem? (i := 0) rfl)) rfl (lv_at hl 0 rfl) ?_
  refine lv_lload_n hx hb (eX12_down (1, .lload_n 2, 1) (List.mem_of_getElem? (i := 1) rfl)) rfl (lv_at hl 1 rfl) ?_
  refine ff_ldiv hx hb (eX12_down (2, .ldiv, 1) (List.mem_of_getElem? (i := 2) rfl)) (e900) (by decide) (fun v1 e1 => ?_)
  refine lv_lstore hx hb (eX12_down (3, .lstore 4, 2) (List.mem_of_getElem? (i := 3) rfl)) hl (by decide) rfl (fun ls2 hl2 => ?_)
  refine lv_lload_n hx hb (eX12_down (5, .lload_n 0, 1) (List.mem_of_getElem? (i := 4) rfl)) rfl (lv_at hl2 1 rfl) ?_
  refine lv_lload_n hx hb (eX12_down (6, .lload_n 2, 1) (List.mem_of_getElem? (i := 5) rfl)) rfl (lv_at hl2 2 rfl) ?_
  refine ff_lrem hx hb (eX12_down (7, .lrem, 1) (List.mem_of_getElem? (i := 6) rfl)) (e900) (by decide) (fun v3 e3 => ?_)
  refine ff_lconst hx hb (eX12_down (8, .lconst 0, 1) (List.mem_of_getElem? (i := 7) rfl)) rfl (fun v4 e4 => ?_)
  refine ff_lcmp hx hb (eX12_down (9, .lcmp, 1) (List.mem_of_getElem? (i := 8) rfl)) (fun v5 e5 => ?_)
  refine ff_if_ge hx hb (eX12_down (10, .ifCond .ge 10, 3) (List.mem_of_getElem? (i := 9) rfl)) (tgt := 20) rfl (fun c6 => ?_) (fun c6 => ?_)
  · skip
    refine lv_lload hx hb (eX12_down (20, .lload 4, 2) (List.mem_of_getElem? (i := 14) rfl)) (lv_at hl2 0 rfl) ?_
    exact zu_lret (y := yX12_down) (ws := []) (rm := {}) hx hb hr hlk ⟨_, rfl, by omega⟩ (eX12_down (22, .lreturn, 1) (List.mem_of_getElem? (i := 15) rfl))
  · skip
    refine lv_lload hx hb (eX12_down (13, .lload 4, 2) (List.mem_of_getElem? (i := 10) rfl)) (lv_at hl2 0 rfl) ?_
    refine ff_lconst hx hb (eX12_down (15, .lconst 1, 1) (List.mem_of_getElem? (i := 11) rfl)) rfl (fun v7 e7 => ?_)
    refine ff_lsub hx hb (eX12_down (16, .lsub, 1) (List.mem_of_getElem? (i := 12) rfl)) (by omega) (by omega) (fun v8 e8 => ?_)
    refine lv_goto hx hb (eX12_down (17, .goto 5, 3) (List.mem_of_getElem? (i := 13) rfl)) (tgt := 22) rfl ?_
    exact zu_lret (y := yX12_down) (ws := []) (rm := {}) hx hb hr hlk ⟨_, rfl, by omega⟩ (eX12_down (22, .lreturn, 1) (List.mem_of_getElem? (i := 15) rfl))
set_option maxRecDepth 100000 in
set_option maxHeartbeats 4000000 in
theorem hX12_monthsOn (l : Launch) (D : va_G) (cA : Nat → ClassId) (ro : Nat → Option Nat) (sz : Nat) (H0 : Heap) (a : Nat) (n : Int64) (k : Int64) (ha : ro a = some 11) (hn1 : -365961662 ≤ n.toInt) (hn2 : n.toInt ≤ 364522971) (hk1 : -2147483648 ≤ k.toInt) (hk2 : k.toInt ≤ 2147483647) : Met l yX12_monthsOn (gW yX12_monthsOn cX12_monthsOn 11 (some .long)) { frames := 2, cells := 0, slots := 0, locals := 58 } (zd_Pc D cA ro sz H0 [.ref a, .long n, .long k]) (zg_moQ D cA ro sz H0 a n.toInt k.toInt) 0 0 (zy_fr sz) := by
  refine zy_ofW (cc := cX12_monthsOn) (maxL := 11) (ret := (some .long)) (by decide +kernel) rfl ?_
  intro p e s m args below meth c s1 B hml hv
  obtain ⟨rfl, hh, hKn⟩ := hv
  have hx := B.exec
  have hb := B.bytes
  have hr := B.returns
  have hlk := B.notSynchronized
  have hts0 := atoms_spec (ws := gW yX12_monthsOn cX12_monthsOn 11 (some .long)) B.pre
  have h2 : ∀ w ∈ gT, w.before ([.ref a, .long n, .long k] : List Value).toArray s = true := fun w hw => hts0 w (List.mem_cons_of_mem _ hw)
  have hown : s.vm.findClass RX12 = some m.cls := findClass_of_methodNamed B.named
  have hl := lv_entry [.ref a, .long n, .long k] (n := 11) (Nat.le_of_ble_eq_true rfl)
  rw [lg_entry_eq]
  generalize (lg_sl [.ref a, .long n, .long k] ++ List.replicate (11 - (lg_sl [.ref a, .long n, .long k]).length) Slot.unset).toArray = ls at hl ⊢
  have b_n := zn_i64 n
  have b_k := zn_i64 k
  have hD := zD_all h2 hKn.1
  have hcl := fun (idx k : Nat) (t : zt_T) (h : (idx, 11, k) ∈ gfX12) (hk : fsX12[k]? = some t) => zf_clause (ro := ro) (ms := [(11, 18), (11, 19), (11, 20)]) h2 hown hKn.1 gfX12_ok (by decide +kernel) idx 11 k 11 0 fsX12 t h rfl hk
  have kp0 : zc_kept D RTg ro [(11, 18), (11, 19), (11, 20)] s.heap s.heap := zc_kept.refl
  have hq0 : ∀ q : Nat, q ≠ a → s.heap[q]? = s.heap[q]? := fun _ _ => rfl
  refine lv_aload_n hx hb (eX12_monthsOn (0, .aload_n 0, 1) (List.mem_of_getElem? (i := 0) rfl)) rfl (lv_at hl 0 rfl) ?_
  refine lv_lload_n hx hb (eX12_monthsOn (1, .lload_n 1, 1) (List.mem_of_getElem? (i := 1) rfl)) rfl (lv_at hl 1 rfl) ?_
  refine tz_rowV (As := [.long n]) (st := []) (b := a) (C := RX12) (Ts := gT) hx hb hml hown h2 (fun _ h => h) (hX12_civil l D cA ro sz H0 a n ha (by omega) (by omega)) ⟨rfl, rfl⟩ ⟨by decide, by decide⟩ ⟨by decide, by decide⟩ (tb_7 71 rfl rfl) (tb_1 12 rfl rfl) (tb_7 68 rfl rfl) (tb_7 70 rfl rfl) (tb_0 6 rfl rfl) (show yX12_civil.cls ≠ "java/lang/invoke/MethodHandle" ∧ yX12_civil.cls ≠ "java/lang/invoke/VarHandle" ∧ (parseMethodDescriptor yX12_civil.desc).map (fun d => d.parameters.length) = some 1 by decide +kernel) zd_blind (zg_ob12 hh hKn.1 ha) (fun U hU hW => ⟨rfl, by rw [hU]; exact hh.l0, zKb s U hW.alike hKn⟩) hh.2.2.1 hl.1 (Nat.le_of_ble_eq_true rfl) (eX12_monthsOn (2, .invokevirtual 146, 3) (List.mem_of_getElem? (i := 2) rfl)) (fun r1 s1 t1 lo1 g1 f1 l1 => ?_)
  obtain ⟨q1, z1, u1, c1, y1, m1, d1, hy1, hm1, hd1, cv1⟩ := f1
  cases q1
  rw [g1] at u1 c1
  have hh1 : zh_ok D cA RTg ro sz H0 t1.heap lo1 := ⟨z1.1, z1.2.1, l1, z1.2.2.2⟩
  have kp1 := kp0.trans (c1.mono (ms' := [(11, 18), (11, 19), (11, 20)]) (fun x hx => by revert hx; revert x; decide))
  have hqq1 := fun (q : Nat) (g : q ≠ a) => (u1 q g).trans (hq0 q g)
  have iy1 := cvP_isY cv1
  have by1 := isY_in iy1 (by omega) (by omega)
  have bv1 : 1 ≤ m1.toInt ∧ m1.toInt ≤ 12 := ⟨cv1.1, cv1.2.1⟩
  refine W.eq (g2 := F0 m 5 ls []) rfl ?_
  refine lv_aload_n hx hb (eX12_monthsOn (5, .aload_n 0, 1) (List.mem_of_getElem? (i := 3) rfl)) rfl (lv_at hl 0 rfl) ?_
  refine tz_get (r := 11) (k := 18) (t := (1, (-9223372036854775808), 9223372036854775807)) hx hb hh1 ha rfl rfl (hcl 127 18 (1, (-9223372036854775808), 9223372036854775807) (by decide) rfl).1 hy1 (eX12_monthsOn (6, .getfield 127, 3) (List.mem_of_getElem? (i := 4) rfl)) ?_
  refine ff_ldc2 (n := 12) hx hb hown h2 (clX12_ok 153 12 (List.mem_of_getElem? (i := 17) rfl)) (eX12_monthsOn (9, .ldc2_w 153, 3) (List.mem_of_getElem? (i := 5) rfl)) (fun v2 e2 => ?_)
  refine ff_lmulR hx hb (eX12_monthsOn (12, .lmul, 1) (List.mem_of_getElem? (i := 6) rfl)) (e2) (by omega) (by omega) (fun v3 e3 => ?_)
  refine lv_aload_n hx hb (eX12_monthsOn (13, .aload_n 0, 1) (List.mem_of_getElem? (i := 7) rfl)) rfl (lv_at hl 0 rfl) ?_
  refine tz_get (r := 11) (k := 19) (t := (0, (-2147483648), 2147483647)) hx hb hh1 ha rfl rfl (hcl 124 19 (0, (-2147483648), 2147483647) (by decide) rfl).1 hm1 (eX12_monthsOn (14, .getfield 124, 3) (List.mem_of_getElem? (i := 8) rfl)) ?_
  refine ff_i2l hx hb (eX12_monthsOn (17, .i2l, 1) (List.mem_of_getElem? (i := 9) rfl)) (fun v4 e4 => ?_)
  refine ff_ladd hx hb (eX12_monthsOn (18, .ladd, 1) (List.mem_of_getElem? (i := 10) rfl)) (by omega) (by omega) (fun v5 e5 => ?_)
  refine ff_lconst hx hb (eX12_monthsOn (19, .lconst 1, 1) (List.mem_of_getElem? (i := 11) rfl)) rfl (fun v6 e6 => ?_)
  refine ff_lsub hx hb (eX12_monthsOn (20, .lsub, 1) (List.mem_of_getElem? (i := 12) rfl)) (by omega) (by omega) (fun v7 e7 => ?_)
  refine lv_lload_n hx hb (eX12_monthsOn (21, .lload_n 3, 1) (List.mem_of_getElem? (i := 13) rfl)) rfl (lv_at hl 2 rfl) ?_
  refine ff_ladd hx hb (eX12_monthsOn (22, .ladd, 1) (List.mem_of_getElem? (i := 14) rfl)) (by omega) (by omega) (fun v8 e8 => ?_)
  have hM : v8.toInt = mtM y1.toInt m1.toInt k.toInt := by unfold mtM; omega
  have bd1 : 1 ≤ d1.toInt ∧ d1.toInt ≤ 31 := ⟨cv1.2.2.1, Int.le_trans cv1.2.2.2.1 (mlI_bd _ _).2⟩
  refine lv_lstore hx hb (eX12_monthsOn (23, .lstore 5, 2) (List.mem_of_getElem? (i := 15) rfl)) hl (by decide) rfl (fun ls9 hl9 => ?_)
  refine lv_lload hx hb (eX12_monthsOn (25, .lload 5, 2) (List.mem_of_getElem? (i := 16) rfl)) (lv_at hl9 0 rfl) ?_
  refine ff_ldc2 (n := 12) hx hb hown h2 (clX12_ok 153 12 (List.mem_of_getElem? (i := 17) rfl)) (eX12_monthsOn (27, .ldc2_w 153, 3) (List.mem_of_getElem? (i := 17) rfl)) (fun v10 e10 => ?_)
  refine zu_S (vs := [.long v8, .long v10]) (rest := []) hx hb hml hown hts0 zu_BT (hX12_down12 l v8 v10 (by omega) (by omega) (by omega)) ⟨rfl, rfl⟩ ⟨by decide, by decide⟩ ⟨by decide, by decide⟩ (tb_6 139 rfl rfl) (tb_1 12 rfl rfl) (tb_6 137 rfl rfl) (tb_6 138 rfl rfl) (show yX12_down.cls ≠ "java/lang/invoke/MethodHandle" ∧ yX12_down.cls ≠ "java/lang/invoke/VarHandle" ∧ (parseMethodDescriptor yX12_down.desc).map (fun d => d.parameters.length) = some 2 by decide +kernel) rfl (fun _ _ _ => trivial) hl9.1 (Nat.le_of_ble_eq_true rfl) (eX12_monthsOn (30, .invokestatic 99, 3) (List.mem_of_getElem? (i := 18) rfl)) (fun w11 f11 => ?_)
  obtain ⟨v11, rfl, e11⟩ := f11
  have g11 := (show v11.toInt = mtM y1.toInt m1.toInt k.toInt / 12 by rw [e11, hM])
  refine lv_lstore hx hb (eX12_monthsOn (33, .lstore 7, 2) (List.mem_of_getElem? (i := 19) rfl)) hl9 (by decide) rfl (fun ls12 hl12 => ?_)
  refine lv_lload hx hb (eX12_monthsOn (35, .lload 5, 2) (List.mem_of_getElem? (i := 20) rfl)) (lv_at hl12 1 rfl) ?_
  refine lv_lload hx hb (eX12_monthsOn (37, .lload 7, 2) (List.mem_of_getElem? (i := 21) rfl)) (lv_at hl12 0 rfl) ?_
  refine ff_ldc2 (n := 12) hx hb hown h2 (clX12_ok 153 12 (List.mem_of_getElem? (i := 17) rfl)) (eX12_monthsOn (39, .ldc2_w 153, 3) (List.mem_of_getElem? (i := 22) rfl)) (fun v13 e13 => ?_)
  refine ff_lmulR hx hb (eX12_monthsOn (42, .lmul, 1) (List.mem_of_getElem? (i := 23) rfl)) (e13) (by omega) (by omega) (fun v14 e14 => ?_)
  refine ff_lsub hx hb (eX12_monthsOn (43, .lsub, 1) (List.mem_of_getElem? (i := 24) rfl)) (by omega) (by omega) (fun v15 e15 => ?_)
  refine ff_l2i hx hb (eX12_monthsOn (44, .l2i, 1) (List.mem_of_getElem? (i := 25) rfl)) (by omega) (by omega) (fun v16 e16 => ?_)
  refine ff_iconst hx hb (eX12_monthsOn (45, .iconst 1, 1) (List.mem_of_getElem? (i := 26) rfl)) (by decide) (by decide) (fun v17 e17 => ?_)
  refine ff_iadd hx hb (eX12_monthsOn (46, .iadd, 1) (List.mem_of_getElem? (i := 27) rfl)) (by omega) (by omega) (fun v18 e18 => ?_)
  refine lv_istore hx hb (eX12_monthsOn (47, .istore 9, 2) (List.mem_of_getElem? (i := 28) rfl)) hl12 (by decide) rfl (fun ls19 hl19 => ?_)
  refine lv_lload hx hb (eX12_monthsOn (49, .lload 7, 2) (List.mem_of_getElem? (i := 29) rfl)) (lv_at hl19 1 rfl) ?_
  refine zu_S (vs := [.long v11]) (rest := []) hx hb hml hown hts0 zu_BT (hX12_isYear l v11) ⟨rfl, rfl⟩ ⟨by decide, by decide⟩ ⟨by decide, by decide⟩ (tb_7 44 rfl rfl) (tb_1 12 rfl rfl) (tb_7 42 rfl rfl) (tb_7 43 rfl rfl) (show yX12_isYear.cls ≠ "java/lang/invoke/MethodHandle" ∧ yX12_isYear.cls ≠ "java/lang/invoke/VarHandle" ∧ (parseMethodDescriptor yX12_isYear.desc).map (fun d => d.parameters.length) = some 1 by decide +kernel) rfl (fun _ _ _ => trivial) hl19.1 (Nat.le_of_ble_eq_true rfl) (eX12_monthsOn (51, .invokestatic 150, 3) (List.mem_of_getElem? (i := 30) rfl)) (fun w20 f20 => ?_)
  obtain ⟨v20, rfl, e20⟩ := f20
  refine ff_if_ne hx hb (eX12_monthsOn (54, .ifCond .ne 7, 3) (List.mem_of_getElem? (i := 31) rfl)) (tgt := 61) rfl (fun c21 => ?_) (fun c21 => ?_)
  · skip
    refine lv_lload hx hb (eX12_monthsOn (61, .lload 7, 2) (List.mem_of_getElem? (i := 34) rfl)) (lv_at hl19 1 rfl) ?_
    refine lv_iload hx hb (eX12_monthsOn (63, .iload 9, 2) (List.mem_of_getElem? (i := 35) rfl)) (lv_at hl19 0 rfl) ?_
    refine zu_S (vs := [.long v11, .int v18]) (rest := []) hx hb hml hown hts0 zu_BT (hX12_daysOf l v11 v18 (by omega) (by omega)) ⟨rfl, rfl⟩ ⟨by decide, by decide⟩ ⟨by decide, by decide⟩ (tb_7 51 rfl rfl) (tb_1 12 rfl rfl) (tb_7 49 rfl rfl) (tb_7 50 rfl rfl) (show yX12_daysOf.cls ≠ "java/lang/invoke/MethodHandle" ∧ yX12_daysOf.cls ≠ "java/lang/invoke/VarHandle" ∧ (parseMethodDescriptor yX12_daysOf.desc).map (fun d => d.parameters.length) = some 2 by decide +kernel) rfl (fun _ _ _ => trivial) hl19.1 (Nat.le_of_ble_eq_true rfl) (eX12_monthsOn (65, .invokestatic 155, 3) (List.mem_of_getElem? (i := 36) rfl)) (fun w22 f22 => ?_)
    obtain ⟨v22, rfl, e22⟩ := f22
    have g22 := (show v22.toInt = mlI (mtM y1.toInt m1.toInt k.toInt / 12) (mtM y1.toInt m1.toInt k.toInt % 12 + 1) ∧ 28 ≤ v22.toInt ∧ v22.toInt ≤ 31 by have h9 : v22.toInt = mlI (mtM y1.toInt m1.toInt k.toInt / 12) (mtM y1.toInt m1.toInt k.toInt % 12 + 1) := by { rw [e22, show v11.toInt = mtM y1.toInt m1.toInt k.toInt / 12 by omega, show v18.toInt = mtM y1.toInt m1.toInt k.toInt % 12 + 1 by omega] }; have h8 := ml_lo (y := mtM y1.toInt m1.toInt k.toInt / 12) (m := mtM y1.toInt m1.toInt k.toInt % 12 + 1) (by omega) (by omega); omega)
    refine lv_istore hx hb (eX12_monthsOn (68, .istore 10, 2) (List.mem_of_getElem? (i := 37) rfl)) hl19 (by decide) rfl (fun ls23 hl23 => ?_)
    refine lv_lload hx hb (eX12_monthsOn (70, .lload 7, 2) (List.mem_of_getElem? (i := 38) rfl)) (lv_at hl23 2 rfl) ?_
    refine lv_iload hx hb (eX12_monthsOn (72, .iload 9, 2) (List.mem_of_getElem? (i := 39) rfl)) (lv_at hl23 1 rfl) ?_
    refine lv_aload_n hx hb (eX12_monthsOn (74, .aload_n 0, 1) (List.mem_of_getElem? (i := 40) rfl)) rfl (lv_at hl23 4 rfl) ?_
    refine tz_get (r := 11) (k := 20) (t := (0, (-2147483648), 2147483647)) hx hb hh1 ha rfl rfl (hcl 121 20 (0, (-2147483648), 2147483647) (by decide) rfl).1 hd1 (eX12_monthsOn (75, .getfield 121, 3) (List.mem_of_getElem? (i := 41) rfl)) ?_
    refine lv_iload hx hb (eX12_monthsOn (78, .iload 10, 2) (List.mem_of_getElem? (i := 42) rfl)) (lv_at hl23 0 rfl) ?_
    refine ff_icmp_ge hx hb (eX12_monthsOn (80, .if_icmp .ge 10, 3) (List.mem_of_getElem? (i := 43) rfl)) (tgt := 90) rfl (fun c24 => ?_) (fun c24 => ?_)
    · skip
      refine lv_iload hx hb (eX12_monthsOn (90, .iload 10, 2) (List.mem_of_getElem? (i := 47) rfl)) (lv_at hl23 0 rfl) ?_
      refine zu_S (vs := [.long v11, .int v18, .int v22]) (rest := []) hx hb hml hown hts0 zu_BT (hX12_dayOf l v11 v18 v22 (by omega) (by omega) (by omega) (by omega) (by omega) (by omega)) ⟨rfl, rfl⟩ ⟨by decide, by decide⟩ ⟨by decide, by decide⟩ (tb_6 135 rfl rfl) (tb_1 12 rfl rfl) (tb_6 133 rfl rfl) (tb_6 134 rfl rfl) (show yX12_dayOf.cls ≠ "java/lang/invoke/MethodHandle" ∧ yX12_dayOf.cls ≠ "java/lang/invoke/VarHandle" ∧ (parseMethodDescriptor yX12_dayOf.desc).map (fun d => d.parameters.length) = some 3 by decide +kernel) rfl (fun _ _ _ => trivial) hl23.1 (Nat.le_of_ble_eq_true rfl) (eX12_monthsOn (92, .invokestatic 70, 3) (List.mem_of_getElem? (i := 48) rfl)) (fun w25 f25 => ?_)
      obtain ⟨v25, rfl, e25⟩ := f25
      have h9 : v22.toInt = if d1.toInt < mlI (mtM y1.toInt m1.toInt k.toInt / 12) (mtM y1.toInt m1.toInt k.toInt % 12 + 1) then d1.toInt else mlI (mtM y1.toInt m1.toInt k.toInt / 12) (mtM y1.toInt m1.toInt k.toInt % 12 + 1) := by split <;> omega
      have h8 : v25.toInt = nuI (mtM y1.toInt m1.toInt k.toInt / 12) (mtM y1.toInt m1.toInt k.toInt % 12 + 1) (if d1.toInt < mlI (mtM y1.toInt m1.toInt k.toInt / 12) (mtM y1.toInt m1.toInt k.toInt % 12 + 1) then d1.toInt else mlI (mtM y1.toInt m1.toInt k.toInt / 12) (mtM y1.toInt m1.toInt k.toInt % 12 + 1)) := by rw [e25, show v11.toInt = mtM y1.toInt m1.toInt k.toInt / 12 by omega, show v18.toInt = mtM y1.toInt m1.toInt k.toInt % 12 + 1 by omega]; exact congrArg (nuI _ _) h9
      have h7 : -370000000 ≤ v25.toInt ∧ v25.toInt ≤ 370000000 := by rw [e25]; exact mt_bd (by omega) (by omega) (by omega) (by omega) (by omega) (by omega)
      exact W.lret hx hb hr (fun t ht hW => ⟨_, rfl, by rw [ht]; exact hh1.l0, fun q hq => by rw [ht]; exact hqq1 q hq, by rw [ht]; exact kp1, Or.inl ⟨mtV_in (by omega) (by omega) cv1 (by omega) (by omega), ⟨_, _, _, cv1, h8⟩, h7⟩⟩) hh1.2.2.1 (eX12_monthsOn (95, .lreturn, 1) (List.mem_of_getElem? (i := 49) rfl))
    · skip
      refine lv_aload_n hx hb (eX12_monthsOn (83, .aload_n 0, 1) (List.mem_of_getElem? (i := 44) rfl)) rfl (lv_at hl23 4 rfl) ?_
      refine tz_get (r := 11) (k := 20) (t := (0, (-2147483648), 2147483647)) hx hb hh1 ha rfl rfl (hcl 121 20 (0, (-2147483648), 2147483647) (by decide) rfl).1 hd1 (eX12_monthsOn (84, .getfield 121, 3) (List.mem_of_getElem? (i := 45) rfl)) ?_
      refine lv_goto hx hb (eX12_monthsOn (87, .goto 5, 3) (List.mem_of_getElem? (i := 46) rfl)) (tgt := 92) rfl ?_
      refine zu_S (vs := [.long v11, .int v18, .int d1]) (rest := []) hx hb hml hown hts0 zu_BT (hX12_dayOf l v11 v18 d1 (by omega) (by omega) (by omega) (by omega) (by omega) (by omega)) ⟨rfl, rfl⟩ ⟨by decide, by decide⟩ ⟨by decide, by decide⟩ (tb_6 135 rfl rfl) (tb_1 12 rfl rfl) (tb_6 133 rfl rfl) (tb_6 134 rfl rfl) (show yX12_dayOf.cls ≠ "java/lang/invoke/MethodHandle" ∧ yX12_dayOf.cls ≠ "java/lang/invoke/VarHandle" ∧ (parseMethodDescriptor yX12_dayOf.desc).map (fun d => d.parameters.length) = some 3 by decide +kernel) rfl (fun _ _ _ => trivial) hl23.1 (Nat.le_of_ble_eq_true rfl) (eX12_monthsOn (92, .invokestatic 70, 3) (List.mem_of_getElem? (i := 48) rfl)) (fun w26 f26 => ?_)
      obtain ⟨v26, rfl, e26⟩ := f26
      have h9 : d1.toInt = if d1.toInt < mlI (mtM y1.toInt m1.toInt k.toInt / 12) (mtM y1.toInt m1.toInt k.toInt % 12 + 1) then d1.toInt else mlI (mtM y1.toInt m1.toInt k.toInt / 12) (mtM y1.toInt m1.toInt k.toInt % 12 + 1) := by split <;> omega
      have h8 : v26.toInt = nuI (mtM y1.toInt m1.toInt k.toInt / 12) (mtM y1.toInt m1.toInt k.toInt % 12 + 1) (if d1.toInt < mlI (mtM y1.toInt m1.toInt k.toInt / 12) (mtM y1.toInt m1.toInt k.toInt % 12 + 1) then d1.toInt else mlI (mtM y1.toInt m1.toInt k.toInt / 12) (mtM y1.toInt m1.toInt k.toInt % 12 + 1)) := by rw [e26, show v11.toInt = mtM y1.toInt m1.toInt k.toInt / 12 by omega, show v18.toInt = mtM y1.toInt m1.toInt k.toInt % 12 + 1 by omega]; exact congrArg (nuI _ _) h9
      have h7 : -370000000 ≤ v26.toInt ∧ v26.toInt ≤ 370000000 := by rw [e26]; exact mt_bd (by omega) (by omega) (by omega) (by omega) (by omega) (by omega)
      exact W.lret hx hb hr (fun t ht hW => ⟨_, rfl, by rw [ht]; exact hh1.l0, fun q hq => by rw [ht]; exact hqq1 q hq, by rw [ht]; exact kp1, Or.inl ⟨mtV_in (by omega) (by omega) cv1 (by omega) (by omega), ⟨_, _, _, cv1, h8⟩, h7⟩⟩) hh1.2.2.1 (eX12_monthsOn (95, .lreturn, 1) (List.mem_of_getElem? (i := 49) rfl))
  · skip
    refine ff_ldc2 (n := (-9223372036854775808)) hx hb hown h2 (clX12_ok 83 (-9223372036854775808) (List.mem_of_getElem? (i := 2) rfl)) (eX12_monthsOn (57, .ldc2_w 83, 3) (List.mem_of_getElem? (i := 32) rfl)) (fun v27 e27 => ?_)
    exact W.lret hx hb hr (fun t ht hW => ⟨_, rfl, by rw [ht]; exact hh1.l0, fun q hq => by rw [ht]; exact hqq1 q hq, by rw [ht]; exact kp1, Or.inr ⟨by omega, mtV_out cv1 (by omega)⟩⟩) hh1.2.2.1 (eX12_monthsOn (60, .lreturn, 1) (List.mem_of_getElem? (i := 33) rfl))
theorem hX12_monthsOnY (l : Launch) (D : va_G) (cA : Nat → ClassId) (ro : Nat → Option Nat) (sz : Nat) (H0 : Heap) (a : Nat) (n : Int64) (k : Int64) (L : List Int) (Z : List zE) (R : List rU) (ha : ro a = some 11) (hn1 : -365961662 ≤ n.toInt) (hn2 : n.toInt ≤ 364522971) (hk1 : -2147483648 ≤ k.toInt) (hk2 : k.toInt ≤ 2147483647) : Met l yX12_monthsOn (gW yX12_monthsOn cX12_monthsOn 11 (some .long)) { frames := 2, cells := 0, slots := 0, locals := 58 } (zs_P D cA ro sz H0 (fun H => jRY D cA ro H a L (Z, R)) [.ref a, .long n, .long k]) (zg_moQ D cA ro sz H0 a n.toInt k.toInt) 0 0 (zy_fr sz) := met_weak (hX12_monthsOn l D cA ro sz H0 a n k ha hn1 hn2 hk1 hk2) (fun _ _ h => ⟨h.1, h.2.1, h.2.2.1⟩)
theorem hX12_isDayY (l : Launch) (D : va_G) (cA : Nat → ClassId) (ro : Nat → Option Nat) (sz : Nat) (H0 : Heap) (a : Nat) (n : Int64) (L : List Int) (Z : List zE) (R : List rU) (ha : ro a = some 11) : Met l yX12_isDay (gW yX12_isDay cX12_isDay 3 (some .boolean)) { frames := 1, cells := 0, slots := 0, locals := 25 } (zs_P D cA ro sz H0 (fun H => jRY D cA ro H a L (Z, R)) [.ref a, .long n]) (zg_idQ n.toInt) 0 0 (zy_fr sz) := met_weak (hX12_isDay l D cA ro sz H0 a n ha) (fun _ _ h => ⟨h.1, h.2.1, h.2.2.1⟩)
def onM : List (Nat × Nat) := [(11, 18), (11, 19), (11, 20), (11, 21), (11, 22), (11, 24), (11, 27), (11, 28), (32, 0), (33, 0), (34, 0)]
set_option maxRecDepth 100000 in
set_option maxHeartbeats 4000000 in
theorem hX12_skipped (l : Launch) (D : va_G) (cA : Nat → ClassId) (ro : Nat → Option Nat) (sz : Nat) (H0 : Heap) (a : Nat) (zi : Int32) (m0 : Int64) (s0 : Int32) (L : List Int) (Z : List zE) (R : List rU) (i0 : Nat) (ze : zE) (rr : rU) (ha : ro a = some 11) (hi0 : zi.toInt = (i0 : Int)) (hze : Z[i0]? = some ze) (hrr : R[i0]? = some rr) (hoA : oOK ze.1) (hoB : ∀ c ∈ ze.2, oOK c.2) (hm1 : -526984793280 ≤ m0.toInt) (hm2 : m0.toInt ≤ 524913079679) (hs1 : 0 ≤ s0.toInt) (hs2 : s0.toInt ≤ 59) : Met l yX12_skipped (gW yX12_skipped cX12_skipped 24 (some .long)) { frames := 8, cells := 0, slots := 0, locals := 220 } (zs_P D cA ro sz H0 (fun H => jRY D cA ro H a L (Z, R)) [.ref a, .int zi, .long m0, .int s0]) (fun _ st oc t => ∃ r : Int64, oc = .returned (some (.long r)) ∧ skR L ze rr m0.toInt s0.toInt r.toInt ∧ zh_ok D cA RTg ro sz H0 t.heap [] ∧ zc_kept D RTg ro lbM st.heap t.heap) 0 0 (zy_fr sz) := by
  refine zy_ofW (cc := cX12_skipped) (maxL := 24) (ret := (some .long)) (by decide +kernel) rfl ?_
  intro p e s m args below meth c s1 B hml hv
  obtain ⟨rfl, hh, hKn, hJ⟩ := hv
  have hx := B.exec
  have hb := B.bytes
  have hr := B.returns
  have hlk := B.notSynchronized
  have hts0 := atoms_spec (ws := gW yX12_skipped cX12_skipped 24 (some .long)) B.pre
  have h2 : ∀ w ∈ gT, w.before ([.ref a, .int zi, .long m0, .int s0] : List Value).toArray s = true := fun w hw => hts0 w (List.mem_cons_of_mem _ hw)
  have hown : s.vm.findClass RX12 = some m.cls := findClass_of_methodNamed B.named
  have hl := lv_entry [.ref a, .int zi, .long m0, .int s0] (n := 24) (Nat.le_of_ble_eq_true rfl)
  rw [lg_entry_eq]
  generalize (lg_sl [.ref a, .int zi, .long m0, .int s0] ++ List.replicate (24 - (lg_sl [.ref a, .int zi, .long m0, .int s0]).length) Slot.unset).toArray = ls at hl ⊢
  have b_zi := zn_i32 zi
  have b_m0 := zn_i64 m0
  have b_s0 := zn_i32 s0
  have hD := zD_all h2 hKn.1
  have hcl11 := fun (idx k : Nat) (t : zt_T) (h : (idx, 11, k) ∈ gfX12) (hk : fsX12[k]? = some t) => zf_clause (ro := ro) (ms := lbM) h2 hown hKn.1 gfX12_ok (by decide +kernel) idx 11 k 11 0 fsX12 t h rfl hk
  have kp0 : zc_kept D RTg ro lbM s.heap s.heap := zc_kept.refl
  obtain ⟨hJz, hJq, hRl, hsr⟩ := id hJ
  have hJz : jRZ D cA ro s.heap a L Z := hJz
  have hJq : jRQ D cA ro s.heap a R := hJq
  have hRl : R.length = Z.length := hRl
  have hsr : ∀ e ∈ Z, srt e.2 := hsr
  obtain ⟨⟨la, n, z, fq2, r0, fq1, hn, hc, hz⟩, ⟨a4, a5, a6, a7, zq4, zq5, zq6, zq7, nz, ⟨fq4, rq4, cq4⟩, ⟨fq5, rq5, cq5⟩, ⟨fq6, rq6, cq6⟩, ⟨fq7, rq7, cq7⟩, fq3, hnz, hp⟩, hjl, hzw⟩ := id hJz
  have hjr := hJz.1
  have hjL := hjl.2.1
  have hzw1 := hzw.1
  obtain ⟨n9, g9, n1, n2⟩ := zh_fT (k := 1) (t := (0, 0, 40)) hh ha (show RTg[11]? = some (0, 11, 0, fsX12) from rfl) rfl
  cases fq1.symm.trans g9
  dsimp only at n1 n2
  clear g9
  obtain ⟨n9, g9, nz1, nz2⟩ := zh_fT (k := 3) (t := (0, 0, 8)) hh ha (show RTg[11]? = some (0, 11, 0, fsX12) from rfl) rfl
  cases fq3.symm.trans g9
  dsimp only at nz1 nz2
  clear g9
  obtain ⟨-, xla, dla, hla⟩ := zh_arr hh r0 (show RTg[21]? = some (1, 1, 40, [(1, (-9223372036854775808), 9223372036854775807)]) from rfl)
  have hyla : ∀ i, i < 40 → zt_ok ro (z i) (1, (-9223372036854775808), 9223372036854775807) := zs_arr (hc.symm.trans dla) hla
  obtain ⟨-, xa4, da4, ha4⟩ := zh_arr hh rq4 (show RTg[22]? = some (1, 0, 8, [(0, (-1439), 1439)]) from rfl)
  have hya4 : ∀ i, i < 8 → zt_ok ro (zq4 i) (0, (-1439), 1439) := zs_arr (cq4.symm.trans da4) ha4
  obtain ⟨-, xa5, da5, ha5⟩ := zh_arr hh rq5 (show RTg[23]? = some (1, 0, 8, [(0, 0, 60)]) from rfl)
  have hya5 : ∀ i, i < 8 → zt_ok ro (zq5 i) (0, 0, 60) := zs_arr (cq5.symm.trans da5) ha5
  obtain ⟨-, xa6, da6, ha6⟩ := zh_arr hh rq6 (show RTg[24]? = some (1, 1, 480, [(1, (-100000000000000), 100000000000000)]) from rfl)
  have hya6 : ∀ i, i < 480 → zt_ok ro (zq6 i) (1, (-100000000000000), 100000000000000) := zs_arr (cq6.symm.trans da6) ha6
  obtain ⟨-, xa7, da7, ha7⟩ := zh_arr hh rq7 (show RTg[25]? = some (1, 0, 480, [(0, (-1439), 1439)]) from rfl)
  have hya7 : ∀ i, i < 480 → zt_ok ro (zq7 i) (0, (-1439), 1439) := zs_arr (cq7.symm.trans da7) ha7
  obtain ⟨b8, b9, bA, bB, z8, z9, zA, zB, ⟨fq8, rq8, cq8⟩, ⟨fq9, rq9, cq9⟩, ⟨fqA, rqA, cqA⟩, ⟨fqB, rqB, cqB⟩, hrp, hrw⟩ := id hJq
  obtain ⟨-, xb8, db8, hb8⟩ := zh_arr hh rq8 (show RTg[26]? = some (1, 0, 8, [(0, 0, 2)]) from rfl)
  have hyb8 : ∀ i, i < 8 → zt_ok ro (z8 i) (0, 0, 2) := zs_arr (cq8.symm.trans db8) hb8
  obtain ⟨-, xb9, db9, hb9⟩ := zh_arr hh rq9 (show RTg[27]? = some (1, 0, 8, [(0, (-1000000), 1000000)]) from rfl)
  have hyb9 : ∀ i, i < 8 → zt_ok ro (z9 i) (0, (-1000000), 1000000) := zs_arr (cq9.symm.trans db9) hb9
  obtain ⟨-, xbA, dbA, hbA⟩ := zh_arr hh rqA (show RTg[28]? = some (1, 0, 8, [(0, (-1000000), 1000000)]) from rfl)
  have hybA : ∀ i, i < 8 → zt_ok ro (zA i) (0, (-1000000), 1000000) := zs_arr (cqA.symm.trans dbA) hbA
  obtain ⟨-, xbB, dbB, hbB⟩ := zh_arr hh rqB (show RTg[29]? = some (1, 0, 80, [(0, (-1000000), 1000000)]) from rfl)
  have hybB : ∀ i, i < 80 → zt_ok ro (zB i) (0, (-1000000), 1000000) := zs_arr (cqB.symm.trans dbB) hbB
  have hwr := hrw rr (List.mem_of_getElem? hrr)
  have hst := hsr ze (List.mem_of_getElem? hze)
  have hnd := hjl.1
  have hof : ∀ t, -1439 ≤ ofF L ze rr t ∧ ofF L ze rr t ≤ 1439 := fun t => ofF_bd hwr hoA hoB
  refine ff_ldc2 (n := 60) hx hb hown h2 (clX12_ok 178 60 (List.mem_of_getElem? (i := 20) rfl)) (eX12_skipped (0, .ldc2_w 178, 3) (List.mem_of_getElem? (i := 0) rfl)) (fun v1 e1 => ?_)
  refine lv_lload_n hx hb (eX12_skipped (3, .lload_n 2, 1) (List.mem_of_getElem? (i := 1) rfl)) rfl (lv_at hl 2 rfl) ?_
  refine ff_lmulL hx hb (eX12_skipped (4, .lmul, 1) (List.mem_of_getElem? (i := 2) rfl)) (e1) (by omega) (by omega) (fun v2 e2 => ?_)
  refine lv_lstore hx hb (eX12_skipped (5, .lstore 5, 2) (List.mem_of_getElem? (i := 3) rfl)) hl (by decide) rfl (fun ls3 hl3 => ?_)
  refine lv_aload_n hx hb (eX12_skipped (7, .aload_n 0, 1) (List.mem_of_getElem? (i := 4) rfl)) rfl (lv_at hl3 1 rfl) ?_
  refine lv_iload_n hx hb (eX12_skipped (8, .iload_n 1, 1) (List.mem_of_getElem? (i := 5) rfl)) rfl (lv_at hl3 2 rfl) ?_
  refine lv_lload hx hb (eX12_skipped (9, .lload 5, 2) (List.mem_of_getElem? (i := 6) rfl)) (lv_at hl3 0 rfl) ?_
  refine ff_ldc2 (n := 400000) hx hb hown h2 (clX12_ok 273 400000 (List.mem_of_getElem? (i := 26) rfl)) (eX12_skipped (11, .ldc2_w 273, 3) (List.mem_of_getElem? (i := 7) rfl)) (fun v4 e4 => ?_)
  refine ff_lsub hx hb (eX12_skipped (14, .lsub, 1) (List.mem_of_getElem? (i := 8) rfl)) (by omega) (by omega) (fun v5 e5 => ?_)
  refine lv_lload hx hb (eX12_skipped (15, .lload 5, 2) (List.mem_of_getElem? (i := 9) rfl)) (lv_at hl3 0 rfl) ?_
  refine ff_ldc2 (n := 400000) hx hb hown h2 (clX12_ok 273 400000 (List.mem_of_getElem? (i := 26) rfl)) (eX12_skipped (17, .ldc2_w 273, 3) (List.mem_of_getElem? (i := 10) rfl)) (fun v6 e6 => ?_)
  refine ff_ladd hx hb (eX12_skipped (20, .ladd, 1) (List.mem_of_getElem? (i := 11) rfl)) (by omega) (by omega) (fun v7 e7 => ?_)
  refine tz_rowV (As := [.int zi, .long v5, .long v7]) (st := []) (b := a) (C := RX12) (Ts := gT) hx hb hml hown h2 (fun _ h => h) (hX12_listBegins l D cA ro sz H0 a zi v5 v7 L Z R i0 ze rr ha hi0 hze hrr (by omega) (by omega)) ⟨rfl, rfl⟩ ⟨by decide, by decide⟩ ⟨by decide, by decide⟩ (tb_7 203 rfl rfl) (tb_1 12 rfl rfl) (tb_7 200 rfl rfl) (tb_7 202 rfl rfl) (tb_0 22 rfl rfl) (show yX12_listBegins.cls ≠ "java/lang/invoke/MethodHandle" ∧ yX12_listBegins.cls ≠ "java/lang/invoke/VarHandle" ∧ (parseMethodDescriptor yX12_listBegins.desc).map (fun d => d.parameters.length) = some 3 by decide +kernel) zs_blind (zs_ob hh ha (show RTg[11]? = some (0, 11, 0, fsX12) from rfl) (zCX12 hKn.1)) (fun U hU hW => ⟨rfl, by rw [hU]; exact hh.l0, zKb s U hW.alike hKn, by rw [hU]; exact hJ⟩) hh.2.2.1 hl3.1 (Nat.le_of_ble_eq_true rfl) (eX12_skipped (21, .invokevirtual 265, 3) (List.mem_of_getElem? (i := 12) rfl)) (fun r8 s8 t8 lo8 g8 f8 l8 => ?_)
  obtain ⟨q8, z8, c8, B, jb, hBl, hBm⟩ := f8
  cases q8
  rw [g8] at c8
  have hh8 : zh_ok D cA RTg ro sz H0 t8.heap lo8 := ⟨z8.1, z8.2.1, l8, z8.2.2.2⟩
  have kp8 := kp0.trans (c8.mono (ms' := lbM) (by decide))
  have jy8 := hJ.kept ha c8 (by decide)
  rw [show v5.toInt = 60 * m0.toInt - 400000 by omega, show v7.toInt = 60 * m0.toInt + 400000 by omega] at hBm
  have hN : NONEI = -9223372036854775808 := rfl
  refine W.eq (g2 := F0 m 24 ls3 []) rfl ?_
  refine ff_ldc2 (n := (-9223372036854775808)) hx hb hown h2 (clX12_ok 83 (-9223372036854775808) (List.mem_of_getElem? (i := 2) rfl)) (eX12_skipped (24, .ldc2_w 83, 3) (List.mem_of_getElem? (i := 13) rfl)) (fun v9 e9 => ?_)
  refine lv_lstore hx hb (eX12_skipped (27, .lstore 7, 2) (List.mem_of_getElem? (i := 14) rfl)) hl3 (by decide) rfl (fun ls10 hl10 => ?_)
  refine ff_ldc2 (n := (-9223372036854775808)) hx hb hown h2 (clX12_ok 83 (-9223372036854775808) (List.mem_of_getElem? (i := 2) rfl)) (eX12_skipped (29, .ldc2_w 83, 3) (List.mem_of_getElem? (i := 15) rfl)) (fun v11 e11 => ?_)
  refine lv_lstore hx hb (eX12_skipped (32, .lstore 9, 2) (List.mem_of_getElem? (i := 16) rfl)) hl10 (by decide) rfl (fun ls12 hl12 => ?_)
  refine ff_iconst hx hb (eX12_skipped (34, .iconst 0, 1) (List.mem_of_getElem? (i := 17) rfl)) (by decide) (by decide) (fun v13 e13 => ?_)
  refine lv_istore hx hb (eX12_skipped (35, .istore 11, 2) (List.mem_of_getElem? (i := 18) rfl)) hl12 (by decide) rfl (fun ls14 hl14 => ?_)
  have loop : ∀ (n9 k0 : Nat) (iv : Int32) (bv fv : Int64) (ls : Array Slot) (H : Heap) (lo0 : List Loc), k0 + n9 = B.length → iv.toInt = (k0 : Int) → st9 L ze rr m0.toInt s0.toInt (B.take k0) bv.toInt fv.toInt → zh_ok D cA RTg ro sz H0 H lo0 → zc_kept D RTg ro lbM s.heap H → jRY D cA ro H a L (Z, R) → jBg D cA ro H a B → lv_has ls 24 [(11, .int iv), (7, .long bv), (9, .long fv), (0, .ref a), (1, .int zi), (2, .long m0), (4, .int s0)] → W p l e (headSpec (gW yX12_skipped cX12_skipped 24 (some .long)) { frames := 8, cells := 0, slots := 0, locals := 220 }).room s m ([.ref a, .int zi, .long m0, .int s0] : List Value).toArray below meth c H lo0 0 0 (MQ below (fun _ st oc t => ∃ r : Int64, oc = .returned (some (.long r)) ∧ skR L ze rr m0.toInt s0.toInt r.toInt ∧ zh_ok D cA RTg ro sz H0 t.heap [] ∧ zc_kept D RTg ro lbM st.heap t.heap) ([.ref a, .int zi, .long m0, .int s0] : List Value).toArray s 0 0 (zy_fr sz)) (F0 m 37 ls []) := by
    intro n9
    induction n9 with
    | zero =>
      intro k0 iv bv fv ls H lo0 hk hiv h9s hh0 kpl jyl jbl hl
      obtain ⟨ag, zg, bn, f26, rag, cag, f27, hbn, hjg⟩ := id jbl
      refine lv_iload hx hb (eX12_skipped (37, .iload 11, 2) (List.mem_of_getElem? (i := 19) rfl)) (lv_at hl 0 rfl) ?_
      refine lv_aload_n hx hb (eX12_skipped (39, .aload_n 0, 1) (List.mem_of_getElem? (i := 20) rfl)) rfl (lv_at hl 3 rfl) ?_
      refine tz_get (r := 11) (k := 27) (t := (0, 0, 128)) hx hb hh0 ha rfl rfl (hcl11 253 27 (0, 0, 128) (by decide) rfl).1 f27 (eX12_skipped (40, .getfield 253, 3) (List.mem_of_getElem? (i := 21) rfl)) ?_
      refine ff_icmp_ge hx hb (eX12_skipped (43, .if_icmp .ge 166, 3) (List.mem_of_getElem? (i := 22) rfl)) (tgt := 209) rfl (fun c15 => ?_) (fun c15 => (by exfalso; omega))
      refine lv_lload hx hb (eX12_skipped (209, .lload 9, 2) (List.mem_of_getElem? (i := 112) rfl)) (lv_at hl 2 rfl) ?_
      rw [List.take_of_length_le (by omega)] at h9s
      exact W.lret hx hb hr (fun t ht hW => ⟨_, rfl, st9_R hjL hwr hst hof hs1 hs2 hBm h9s, by rw [ht]; exact hh0.l0, by rw [ht]; exact kpl⟩) hh0.2.2.1 (eX12_skipped (211, .lreturn, 1) (List.mem_of_getElem? (i := 113) rfl))
    | succ n9 ih =>
      intro k0 iv bv fv ls H lo0 hk hiv h9s hh0 kpl jyl jbl hl
      obtain ⟨ag, zg, bn, f26, rag, cag, f27, hbn, hjg⟩ := id jbl
      obtain ⟨xv, hzx, hBx⟩ := hjg k0 (by omega)
      obtain ⟨-, -, -, hxt, hxt2, -⟩ := (hBm _).mp (List.mem_of_getElem? hBx)
      have hxb := tOK_b hjL hxt
      have hxb2 := tOK_b hjL hxt2
      refine lv_iload hx hb (eX12_skipped (37, .iload 11, 2) (List.mem_of_getElem? (i := 19) rfl)) (lv_at hl 0 rfl) ?_
      refine lv_aload_n hx hb (eX12_skipped (39, .aload_n 0, 1) (List.mem_of_getElem? (i := 20) rfl)) rfl (lv_at hl 3 rfl) ?_
      refine tz_get (r := 11) (k := 27) (t := (0, 0, 128)) hx hb hh0 ha rfl rfl (hcl11 253 27 (0, 0, 128) (by decide) rfl).1 f27 (eX12_skipped (40, .getfield 253, 3) (List.mem_of_getElem? (i := 21) rfl)) ?_
      refine ff_icmp_ge hx hb (eX12_skipped (43, .if_icmp .ge 166, 3) (List.mem_of_getElem? (i := 22) rfl)) (tgt := 209) rfl (fun c16 => (by exfalso; omega)) (fun c16 => ?_)
      refine lv_aload_n hx hb (eX12_skipped (46, .aload_n 0, 1) (List.mem_of_getElem? (i := 23) rfl)) rfl (lv_at hl 3 rfl) ?_
      refine tz_get (r := 11) (k := 26) (t := (72, 0, 0)) hx hb hh0 ha rfl rfl (hcl11 53 26 (72, 0, 0) (by decide) rfl).1 f26 (eX12_skipped (47, .getfield 53, 3) (List.mem_of_getElem? (i := 24) rfl)) ?_
      refine lv_iload hx hb (eX12_skipped (50, .iload 11, 2) (List.mem_of_getElem? (i := 25) rfl)) (lv_at hl 0 rfl) ?_
      refine tz_lald hx hb (zAr hKn.1 1 (by decide)) cag (by omega) (by omega) (eX12_skipped (52, .laload, 1) (List.mem_of_getElem? (i := 26) rfl)) ?_
      rw [show iv.toNatClampNeg = k0 by show iv.toInt.toNat = _; omega, hzx]
      refine lv_lstore hx hb (eX12_skipped (53, .lstore 12, 2) (List.mem_of_getElem? (i := 27) rfl)) hl (by decide) rfl (fun ls17 hl17 => ?_)
      refine lv_aload_n hx hb (eX12_skipped (55, .aload_n 0, 1) (List.mem_of_getElem? (i := 28) rfl)) rfl (lv_at hl17 4 rfl) ?_
      refine lv_iload_n hx hb (eX12_skipped (56, .iload_n 1, 1) (List.mem_of_getElem? (i := 29) rfl)) rfl (lv_at hl17 5 rfl) ?_
      refine lv_lload hx hb (eX12_skipped (57, .lload 12, 2) (List.mem_of_getElem? (i := 30) rfl)) (lv_at hl17 0 rfl) ?_
      refine ff_lconst hx hb (eX12_skipped (59, .lconst 1, 1) (List.mem_of_getElem? (i := 31) rfl)) rfl (fun v18 e18 => ?_)
      refine ff_lsub hx hb (eX12_skipped (60, .lsub, 1) (List.mem_of_getElem? (i := 32) rfl)) (by omega) (by omega) (fun v19 e19 => ?_)
      refine tz_rowV (As := [.int zi, .long v19]) (st := []) (b := a) (C := RX12) (Ts := gT) hx hb hml hown h2 (fun _ h => h) (hX12_offsetAt l D cA ro sz H0 a zi v19 L Z R i0 ze rr ha hi0 hze hrr (by omega) (by omega)) ⟨rfl, rfl⟩ ⟨by decide, by decide⟩ ⟨by decide, by decide⟩ (tb_7 170 rfl rfl) (tb_1 12 rfl rfl) (tb_7 167 rfl rfl) (tb_7 169 rfl rfl) (tb_0 16 rfl rfl) (show yX12_offsetAt.cls ≠ "java/lang/invoke/MethodHandle" ∧ yX12_offsetAt.cls ≠ "java/lang/invoke/VarHandle" ∧ (parseMethodDescriptor yX12_offsetAt.desc).map (fun d => d.parameters.length) = some 2 by decide +kernel) zs_blind (zs_ob hh0 ha (show RTg[11]? = some (0, 11, 0, fsX12) from rfl) (zCX12 hKn.1)) (fun U hU hW => ⟨rfl, by rw [hU]; exact hh0.l0, zKb s U hW.alike hKn, by rw [hU]; exact jyl⟩) hh0.2.2.1 hl17.1 (Nat.le_of_ble_eq_true rfl) (eX12_skipped (61, .invokevirtual 233, 3) (List.mem_of_getElem? (i := 33) rfl)) (fun r20 s20 t20 lo20 g20 f20 l20 => ?_)
      obtain ⟨v20, q20, e20, z20, c20⟩ := f20
      cases q20
      rw [g20] at c20
      have mf20_a_26 := (c20.1 a 11 26 11 0 fsX12 ha rfl (by decide) (by decide)).trans f26
      have mf20_a_27 := (c20.1 a 11 27 11 0 fsX12 ha rfl (by decide) (by decide)).trans f27
      have mc20_ag := (c20.2 ag 34 0 1 128 _ rag rfl (by decide)).trans cag
      have hh20 : zh_ok D cA RTg ro sz H0 t20.heap lo20 := ⟨z20.1, z20.2.1, l20, z20.2.2.2⟩
      have kp20 := kpl.trans (c20.mono (ms' := lbM) (by decide))
      have jy20 := jyl.kept ha c20 (by decide)
      rw [show v19.toInt = xv.toInt - 1 by omega] at e20
      have ob20 := ofF_bd (L := L) (t := xv.toInt - 1) hwr hoA hoB
      rw [← e20] at ob20
      refine W.eq (g2 := F0 m 64 ls17 [.int v20]) rfl ?_
      refine lv_istore hx hb (eX12_skipped (64, .istore 14, 2) (List.mem_of_getElem? (i := 34) rfl)) hl17 (by decide) rfl (fun ls21 hl21 => ?_)
      refine lv_aload_n hx hb (eX12_skipped (66, .aload_n 0, 1) (List.mem_of_getElem? (i := 35) rfl)) rfl (lv_at hl21 5 rfl) ?_
      refine lv_iload_n hx hb (eX12_skipped (67, .iload_n 1, 1) (List.mem_of_getElem? (i := 36) rfl)) rfl (lv_at hl21 6 rfl) ?_
      refine lv_lload hx hb (eX12_skipped (68, .lload 12, 2) (List.mem_of_getElem? (i := 37) rfl)) (lv_at hl21 1 rfl) ?_
      refine tz_rowV (As := [.int zi, .long xv]) (st := []) (b := a) (C := RX12) (Ts := gT) hx hb hml hown h2 (fun _ h => h) (hX12_offsetAt l D cA ro sz H0 a zi xv L Z R i0 ze rr ha hi0 hze hrr (by omega) (by omega)) ⟨rfl, rfl⟩ ⟨by decide, by decide⟩ ⟨by decide, by decide⟩ (tb_7 170 rfl rfl) (tb_1 12 rfl rfl) (tb_7 167 rfl rfl) (tb_7 169 rfl rfl) (tb_0 16 rfl rfl) (show yX12_offsetAt.cls ≠ "java/lang/invoke/MethodHandle" ∧ yX12_offsetAt.cls ≠ "java/lang/invoke/VarHandle" ∧ (parseMethodDescriptor yX12_offsetAt.desc).map (fun d => d.parameters.length) = some 2 by decide +kernel) zs_blind (zs_ob hh20 ha (show RTg[11]? = some (0, 11, 0, fsX12) from rfl) (zCX12 hKn.1)) (fun U hU hW => ⟨rfl, by rw [hU]; exact hh20.l0, zKb s U hW.alike hKn, by rw [hU]; exact jy20⟩) hh20.2.2.1 hl21.1 (Nat.le_of_ble_eq_true rfl) (eX12_skipped (70, .invokevirtual 233, 3) (List.mem_of_getElem? (i := 38) rfl)) (fun r22 s22 t22 lo22 g22 f22 l22 => ?_)
      obtain ⟨v22, q22, e22, z22, c22⟩ := f22
      cases q22
      rw [g22] at c22
      have mf22_a_26 := (c22.1 a 11 26 11 0 fsX12 ha rfl (by decide) (by decide)).trans mf20_a_26
      have mf22_a_27 := (c22.1 a 11 27 11 0 fsX12 ha rfl (by decide) (by decide)).trans mf20_a_27
      have mc22_ag := (c22.2 ag 34 0 1 128 _ rag rfl (by decide)).trans mc20_ag
      have hh22 : zh_ok D cA RTg ro sz H0 t22.heap lo22 := ⟨z22.1, z22.2.1, l22, z22.2.2.2⟩
      have kp22 := kp20.trans (c22.mono (ms' := lbM) (by decide))
      have jy22 := jy20.kept ha c22 (by decide)
      have ob22 := ofF_bd (L := L) (t := xv.toInt) hwr hoA hoB
      rw [← e22] at ob22
      refine W.eq (g2 := F0 m 73 ls21 [.int v22]) rfl ?_
      refine lv_istore hx hb (eX12_skipped (73, .istore 15, 2) (List.mem_of_getElem? (i := 39) rfl)) hl21 (by decide) rfl (fun ls23 hl23 => ?_)
      refine lv_aload_n hx hb (eX12_skipped (75, .aload_n 0, 1) (List.mem_of_getElem? (i := 40) rfl)) rfl (lv_at hl23 6 rfl) ?_
      refine lv_lload hx hb (eX12_skipped (76, .lload 12, 2) (List.mem_of_getElem? (i := 41) rfl)) (lv_at hl23 2 rfl) ?_
      refine tz_rowV (As := [.long xv]) (st := []) (b := a) (C := RX12) (Ts := gT) hx hb hml hown h2 (fun _ h => h) (hX12_read0 l D cA ro sz H0 a xv L ha (by omega) (by omega)) ⟨rfl, rfl⟩ ⟨by decide, by decide⟩ ⟨by decide, by decide⟩ (tb_7 145 rfl rfl) (tb_1 12 rfl rfl) (tb_7 142 rfl rfl) (tb_7 144 rfl rfl) (tb_0 14 rfl rfl) (show yX12_read0.cls ≠ "java/lang/invoke/MethodHandle" ∧ yX12_read0.cls ≠ "java/lang/invoke/VarHandle" ∧ (parseMethodDescriptor yX12_read0.desc).map (fun d => d.parameters.length) = some 1 by decide +kernel) zs_blind (zs_ob hh22 ha (show RTg[11]? = some (0, 11, 0, fsX12) from rfl) (zCX12 hKn.1)) (fun U hU hW => ⟨rfl, by rw [hU]; exact hh22.l0, zKb s U hW.alike hKn, by rw [hU]; exact jy22.1.1⟩) hh22.2.2.1 hl23.1 (Nat.le_of_ble_eq_true rfl) (eX12_skipped (78, .invokevirtual 210, 3) (List.mem_of_getElem? (i := 42) rfl)) (fun r24 s24 t24 lo24 g24 f24 l24 => ?_)
      obtain ⟨q24, z24, c24, M7, S7, fM, fS, hrd, hS7⟩ := f24
      cases q24
      rw [g24] at c24
      have hmm := mtI_eq hjL hrd
      have hmb := mtI_bd hjL (t := xv.toInt) (by omega) (by omega)
      rw [← hmm] at hmb
      have hsx := sec60 hnd hrd
      have mf24_a_26 := (c24.1 a 11 26 11 0 fsX12 ha rfl (by decide) (by decide)).trans mf22_a_26
      have mf24_a_27 := (c24.1 a 11 27 11 0 fsX12 ha rfl (by decide) (by decide)).trans mf22_a_27
      have mc24_ag := (c24.2 ag 34 0 1 128 _ rag rfl (by decide)).trans mc22_ag
      have hh24 : zh_ok D cA RTg ro sz H0 t24.heap lo24 := ⟨z24.1, z24.2.1, l24, z24.2.2.2⟩
      have kp24 := kp22.trans (c24.mono (ms' := lbM) (by decide))
      have jy24 := jy22.kept ha c24 (by decide)
      refine W.eq (g2 := F0 m 81 ls23 []) rfl ?_
      refine lv_aload_n hx hb (eX12_skipped (81, .aload_n 0, 1) (List.mem_of_getElem? (i := 43) rfl)) rfl (lv_at hl23 6 rfl) ?_
      refine tz_get (r := 11) (k := 21) (t := (1, (-9223372036854775808), 9223372036854775807)) hx hb hh24 ha rfl rfl (hcl11 195 21 (1, (-9223372036854775808), 9223372036854775807) (by decide) rfl).1 fM (eX12_skipped (82, .getfield 195, 3) (List.mem_of_getElem? (i := 44) rfl)) ?_
      refine lv_iload hx hb (eX12_skipped (85, .iload 14, 2) (List.mem_of_getElem? (i := 45) rfl)) (lv_at hl23 1 rfl) ?_
      refine ff_i2l hx hb (eX12_skipped (87, .i2l, 1) (List.mem_of_getElem? (i := 46) rfl)) (fun v25 e25 => ?_)
      refine ff_ladd hx hb (eX12_skipped (88, .ladd, 1) (List.mem_of_getElem? (i := 47) rfl)) (by omega) (by omega) (fun v26 e26 => ?_)
      refine ff_ldc2 (n := 64) hx hb hown h2 (clX12_ok 275 64 (List.mem_of_getElem? (i := 27) rfl)) (eX12_skipped (89, .ldc2_w 275, 3) (List.mem_of_getElem? (i := 48) rfl)) (fun v27 e27 => ?_)
      refine ff_lmulR hx hb (eX12_skipped (92, .lmul, 1) (List.mem_of_getElem? (i := 49) rfl)) (e27) (by omega) (by omega) (fun v28 e28 => ?_)
      refine lv_aload_n hx hb (eX12_skipped (93, .aload_n 0, 1) (List.mem_of_getElem? (i := 50) rfl)) rfl (lv_at hl23 6 rfl) ?_
      refine tz_get (r := 11) (k := 22) (t := (0, (-2147483648), 2147483647)) hx hb hh24 ha rfl rfl (hcl11 198 22 (0, (-2147483648), 2147483647) (by decide) rfl).1 fS (eX12_skipped (94, .getfield 198, 3) (List.mem_of_getElem? (i := 51) rfl)) ?_
      refine ff_i2l hx hb (eX12_skipped (97, .i2l, 1) (List.mem_of_getElem? (i := 52) rfl)) (fun v29 e29 => ?_)
      refine ff_ladd hx hb (eX12_skipped (98, .ladd, 1) (List.mem_of_getElem? (i := 53) rfl)) (by omega) (by omega) (fun v30 e30 => ?_)
      refine lv_lstore hx hb (eX12_skipped (99, .lstore 16, 2) (List.mem_of_getElem? (i := 54) rfl)) hl23 (by decide) rfl (fun ls31 hl31 => ?_)
      refine lv_aload_n hx hb (eX12_skipped (101, .aload_n 0, 1) (List.mem_of_getElem? (i := 55) rfl)) rfl (lv_at hl31 7 rfl) ?_
      refine tz_get (r := 11) (k := 21) (t := (1, (-9223372036854775808), 9223372036854775807)) hx hb hh24 ha rfl rfl (hcl11 195 21 (1, (-9223372036854775808), 9223372036854775807) (by decide) rfl).1 fM (eX12_skipped (102, .getfield 195, 3) (List.mem_of_getElem? (i := 56) rfl)) ?_
      refine lv_iload hx hb (eX12_skipped (105, .iload 15, 2) (List.mem_of_getElem? (i := 57) rfl)) (lv_at hl31 1 rfl) ?_
      refine ff_i2l hx hb (eX12_skipped (107, .i2l, 1) (List.mem_of_getElem? (i := 58) rfl)) (fun v32 e32 => ?_)
      refine ff_ladd hx hb (eX12_skipped (108, .ladd, 1) (List.mem_of_getElem? (i := 59) rfl)) (by omega) (by omega) (fun v33 e33 => ?_)
      refine ff_ldc2 (n := 64) hx hb hown h2 (clX12_ok 275 64 (List.mem_of_getElem? (i := 27) rfl)) (eX12_skipped (109, .ldc2_w 275, 3) (List.mem_of_getElem? (i := 60) rfl)) (fun v34 e34 => ?_)
      refine ff_lmulR hx hb (eX12_skipped (112, .lmul, 1) (List.mem_of_getElem? (i := 61) rfl)) (e34) (by omega) (by omega) (fun v35 e35 => ?_)
      refine lv_aload_n hx hb (eX12_skipped (113, .aload_n 0, 1) (List.mem_of_getElem? (i := 62) rfl)) rfl (lv_at hl31 7 rfl) ?_
      refine tz_get (r := 11) (k := 22) (t := (0, (-2147483648), 2147483647)) hx hb hh24 ha rfl rfl (hcl11 198 22 (0, (-2147483648), 2147483647) (by decide) rfl).1 fS (eX12_skipped (114, .getfield 198, 3) (List.mem_of_getElem? (i := 63) rfl)) ?_
      refine ff_i2l hx hb (eX12_skipped (117, .i2l, 1) (List.mem_of_getElem? (i := 64) rfl)) (fun v36 e36 => ?_)
      refine ff_ladd hx hb (eX12_skipped (118, .ladd, 1) (List.mem_of_getElem? (i := 65) rfl)) (by omega) (by omega) (fun v37 e37 => ?_)
      refine lv_lstore hx hb (eX12_skipped (119, .lstore 18, 2) (List.mem_of_getElem? (i := 66) rfl)) hl31 (by decide) rfl (fun ls38 hl38 => ?_)
      refine lv_lload_n hx hb (eX12_skipped (121, .lload_n 2, 1) (List.mem_of_getElem? (i := 67) rfl)) rfl (lv_at hl38 10 rfl) ?_
      refine ff_ldc2 (n := 64) hx hb hown h2 (clX12_ok 275 64 (List.mem_of_getElem? (i := 27) rfl)) (eX12_skipped (122, .ldc2_w 275, 3) (List.mem_of_getElem? (i := 68) rfl)) (fun v39 e39 => ?_)
      refine ff_lmulR hx hb (eX12_skipped (125, .lmul, 1) (List.mem_of_getElem? (i := 69) rfl)) (e39) (by omega) (by omega) (fun v40 e40 => ?_)
      refine lv_iload hx hb (eX12_skipped (126, .iload 4, 2) (List.mem_of_getElem? (i := 70) rfl)) (lv_at hl38 11 rfl) ?_
      refine ff_i2l hx hb (eX12_skipped (128, .i2l, 1) (List.mem_of_getElem? (i := 71) rfl)) (fun v41 e41 => ?_)
      refine ff_ladd hx hb (eX12_skipped (129, .ladd, 1) (List.mem_of_getElem? (i := 72) rfl)) (by omega) (by omega) (fun v42 e42 => ?_)
      refine lv_lstore hx hb (eX12_skipped (130, .lstore 20, 2) (List.mem_of_getElem? (i := 73) rfl)) hl38 (by decide) rfl (fun ls43 hl43 => ?_)
      have hA9 : xv.toInt ≤ stI L (m0.toInt - ofF L ze rr (xv.toInt - 1)) + s0.toInt ↔ v30.toInt ≤ v42.toInt := by rw [sk_cmp hjL hnd hs1 hs2, ← hmm, ← e20]; constructor <;> intro h9 <;> omega
      have hB9 : xv.toInt ≤ stI L (m0.toInt - ofF L ze rr xv.toInt) + s0.toInt ↔ v37.toInt ≤ v42.toInt := by rw [sk_cmp hjL hnd hs1 hs2, ← hmm, ← e22]; constructor <;> intro h9 <;> omega
      refine lv_lload hx hb (eX12_skipped (132, .lload 20, 2) (List.mem_of_getElem? (i := 74) rfl)) (lv_at hl43 0 rfl) ?_
      refine lv_lload hx hb (eX12_skipped (134, .lload 16, 2) (List.mem_of_getElem? (i := 75) rfl)) (lv_at hl43 2 rfl) ?_
      refine ff_lcmp hx hb (eX12_skipped (136, .lcmp, 1) (List.mem_of_getElem? (i := 76) rfl)) (fun v44 e44 => ?_)
      refine ff_if_lt hx hb (eX12_skipped (137, .ifCond .lt 66, 3) (List.mem_of_getElem? (i := 77) rfl)) (tgt := 203) rfl (fun c45 => ?_) (fun c45 => ?_)
      · skip
        refine ff_iinc (k := 6) hx hb (eX12_skipped (203, .iinc 11 1, 3) (List.mem_of_getElem? (i := 110) rfl)) hl43 rfl (by decide) (by decide) (by decide) (by omega) (by omega) (fun v46 e46 ls46 hl46 => ?_)
        refine lv_goto hx hb (eX12_skipped (206, .goto (-169), 3) (List.mem_of_getElem? (i := 111) rfl)) (tgt := 37) rfl ?_
        have jbn : jBg D cA ro t24.heap a B := ⟨ag, zg, bn, mf24_a_26, rag, mc24_ag, mf24_a_27, hbn, hjg⟩
        exact ih (k0 + 1) v46 bv fv ls46 _ _ (by omega) (by omega) (by rw [tk_one hBx]; exact st9_no h9s (fun g9 => by have g1 := hA9.mp g9.1.1; have g2 : ¬ v37.toInt ≤ v42.toInt := (fun q9 => by have q8 := hB9.mpr q9; have q7 := g9.1.2; omega); have g3 := g9.2; omega)) hh24 kp24 jy24 jbn (lv_sub hl46 [0, 7, 8, 9, 10, 11, 12] rfl)
      · skip
        refine lv_lload hx hb (eX12_skipped (140, .lload 20, 2) (List.mem_of_getElem? (i := 78) rfl)) (lv_at hl43 0 rfl) ?_
        refine lv_lload hx hb (eX12_skipped (142, .lload 18, 2) (List.mem_of_getElem? (i := 79) rfl)) (lv_at hl43 1 rfl) ?_
        refine ff_lcmp hx hb (eX12_skipped (144, .lcmp, 1) (List.mem_of_getElem? (i := 80) rfl)) (fun v47 e47 => ?_)
        refine ff_if_ge hx hb (eX12_skipped (145, .ifCond .ge 58, 3) (List.mem_of_getElem? (i := 81) rfl)) (tgt := 203) rfl (fun c48 => ?_) (fun c48 => ?_)
        · skip
          refine ff_iinc (k := 6) hx hb (eX12_skipped (203, .iinc 11 1, 3) (List.mem_of_getElem? (i := 110) rfl)) hl43 rfl (by decide) (by decide) (by decide) (by omega) (by omega) (fun v49 e49 ls49 hl49 => ?_)
          refine lv_goto hx hb (eX12_skipped (206, .goto (-169), 3) (List.mem_of_getElem? (i := 111) rfl)) (tgt := 37) rfl ?_
          have jbn : jBg D cA ro t24.heap a B := ⟨ag, zg, bn, mf24_a_26, rag, mc24_ag, mf24_a_27, hbn, hjg⟩
          exact ih (k0 + 1) v49 bv fv ls49 _ _ (by omega) (by omega) (by rw [tk_one hBx]; exact st9_no h9s (fun g9 => by have g1 := hA9.mp g9.1.1; have g2 : ¬ v37.toInt ≤ v42.toInt := (fun q9 => by have q8 := hB9.mpr q9; have q7 := g9.1.2; omega); have g3 := g9.2; omega)) hh24 kp24 jy24 jbn (lv_sub hl49 [0, 7, 8, 9, 10, 11, 12] rfl)
        · skip
          refine lv_lload hx hb (eX12_skipped (148, .lload 7, 2) (List.mem_of_getElem? (i := 82) rfl)) (lv_at hl43 7 rfl) ?_
          refine ff_ldc2 (n := (-9223372036854775808)) hx hb hown h2 (clX12_ok 83 (-9223372036854775808) (List.mem_of_getElem? (i := 2) rfl)) (eX12_skipped (150, .ldc2_w 83, 3) (List.mem_of_getElem? (i := 83) rfl)) (fun v50 e50 => ?_)
          refine ff_lcmp hx hb (eX12_skipped (153, .lcmp, 1) (List.mem_of_getElem? (i := 84) rfl)) (fun v51 e51 => ?_)
          refine ff_if_eq hx hb (eX12_skipped (154, .ifCond .eq 11, 3) (List.mem_of_getElem? (i := 85) rfl)) (tgt := 165) rfl (fun c52 => ?_) (fun c52 => ?_)
          · skip
            have hc9 : skC L ze rr m0.toInt s0.toInt xv.toInt := ⟨hA9.mpr (by omega), by apply Decidable.byContradiction; intro q9; have q8 := hB9.mp (by omega); omega⟩
            refine lv_lload hx hb (eX12_skipped (165, .lload 12, 2) (List.mem_of_getElem? (i := 90) rfl)) (lv_at hl43 5 rfl) ?_
            refine lv_lstore hx hb (eX12_skipped (167, .lstore 7, 2) (List.mem_of_getElem? (i := 91) rfl)) hl43 (by decide) rfl (fun ls53 hl53 => ?_)
            refine lv_lload_n hx hb (eX12_skipped (169, .lload_n 2, 1) (List.mem_of_getElem? (i := 92) rfl)) rfl (lv_at hl53 11 rfl) ?_
            refine lv_iload hx hb (eX12_skipped (170, .iload 14, 2) (List.mem_of_getElem? (i := 93) rfl)) (lv_at hl53 5 rfl) ?_
            refine ff_i2l hx hb (eX12_skipped (172, .i2l, 1) (List.mem_of_getElem? (i := 94) rfl)) (fun v54 e54 => ?_)
            refine ff_lsub hx hb (eX12_skipped (173, .lsub, 1) (List.mem_of_getElem? (i := 95) rfl)) (by omega) (by omega) (fun v55 e55 => ?_)
            refine lv_lstore hx hb (eX12_skipped (174, .lstore 22, 2) (List.mem_of_getElem? (i := 96) rfl)) hl53 (by decide) rfl (fun ls56 hl56 => ?_)
            refine lv_aload_n hx hb (eX12_skipped (176, .aload_n 0, 1) (List.mem_of_getElem? (i := 97) rfl)) rfl (lv_at hl56 10 rfl) ?_
            refine lv_lload hx hb (eX12_skipped (177, .lload 22, 2) (List.mem_of_getElem? (i := 98) rfl)) (lv_at hl56 0 rfl) ?_
            refine tz_rowV (As := [.long v55]) (st := []) (b := a) (C := RX12) (Ts := gT) hx hb hml hown h2 (fun _ h => h) (hX12_isMinute l D cA ro sz H0 a v55 L ha) ⟨rfl, rfl⟩ ⟨by decide, by decide⟩ ⟨by decide, by decide⟩ (tb_7 117 rfl rfl) (tb_1 12 rfl rfl) (tb_7 114 rfl rfl) (tb_7 116 rfl rfl) (tb_0 9 rfl rfl) (show yX12_isMinute.cls ≠ "java/lang/invoke/MethodHandle" ∧ yX12_isMinute.cls ≠ "java/lang/invoke/VarHandle" ∧ (parseMethodDescriptor yX12_isMinute.desc).map (fun d => d.parameters.length) = some 1 by decide +kernel) zs_blind (zs_ob hh24 ha (show RTg[11]? = some (0, 11, 0, fsX12) from rfl) (zCX12 hKn.1)) (fun U hU hW => ⟨rfl, by rw [hU]; exact hh24.l0, zKb s U hW.alike hKn, by rw [hU]; exact jy24.1.1⟩) hh24.2.2.1 hl56.1 (Nat.le_of_ble_eq_true rfl) (eX12_skipped (179, .invokevirtual 201, 3) (List.mem_of_getElem? (i := 99) rfl)) (fun r57 s57 t57 lo57 g57 f57 l57 => ?_)
            obtain ⟨z57, v57, q57, e57⟩ := f57
            cases q57
            rw [z57, g57]
            have hh57 : zh_ok D cA RTg ro sz H0 t24.heap lo57 := ⟨hh24.1, hh24.2.1, l57, hh24.2.2.2⟩
            refine W.eq (g2 := F0 m 182 ls56 [.int v57]) rfl ?_
            refine ff_if_eq hx hb (eX12_skipped (182, .ifCond .eq 16, 3) (List.mem_of_getElem? (i := 100) rfl)) (tgt := 198) rfl (fun c58 => ?_) (fun c58 => ?_)
            · skip
              refine ff_ldc2 (n := (-9223372036854775808)) hx hb hown h2 (clX12_ok 83 (-9223372036854775808) (List.mem_of_getElem? (i := 2) rfl)) (eX12_skipped (198, .ldc2_w 83, 3) (List.mem_of_getElem? (i := 108) rfl)) (fun v59 e59 => ?_)
              refine lv_lstore hx hb (eX12_skipped (201, .lstore 9, 2) (List.mem_of_getElem? (i := 109) rfl)) hl56 (by decide) rfl (fun ls60 hl60 => ?_)
              refine ff_iinc (k := 9) hx hb (eX12_skipped (203, .iinc 11 1, 3) (List.mem_of_getElem? (i := 110) rfl)) hl60 rfl (by decide) (by decide) (by decide) (by omega) (by omega) (fun v61 e61 ls61 hl61 => ?_)
              refine lv_goto hx hb (eX12_skipped (206, .goto (-169), 3) (List.mem_of_getElem? (i := 111) rfl)) (tgt := 37) rfl ?_
              have jbn : jBg D cA ro t24.heap a B := ⟨ag, zg, bn, mf24_a_26, rag, mc24_ag, mf24_a_27, hbn, hjg⟩
              exact ih (k0 + 1) v61 xv v59 ls61 _ _ (by omega) (by omega) (by rw [tk_one hBx]; have h8 := st9_yes (x := xv.toInt) (by omega) h9s hc9 (by omega); rw [show skV L ze rr m0.toInt s0.toInt xv.toInt = v59.toInt by unfold skV; rw [← e20, ← show v55.toInt = m0.toInt - v20.toInt by omega]; rcases e57 with g9 | g9; (rw [if_pos (show mIn v55.toInt from g9.2)]; first | omega | (exfalso; omega)); (rw [if_neg (show ¬ mIn v55.toInt from g9.2)]; first | omega | (exfalso; omega))] at h8; exact h8) hh57 kp24 jy24 jbn (lv_sub hl61 [0, 3, 1, 10, 11, 12, 13] rfl)
            · skip
              have hmi : mOK v55.toInt := by rcases e57 with h | h; exact h.2; exfalso; omega
              have hmi2 := hmi
              unfold mOK at hmi2
              refine lv_aload_n hx hb (eX12_skipped (185, .aload_n 0, 1) (List.mem_of_getElem? (i := 101) rfl)) rfl (lv_at hl56 10 rfl) ?_
              refine lv_lload hx hb (eX12_skipped (186, .lload 22, 2) (List.mem_of_getElem? (i := 102) rfl)) (lv_at hl56 0 rfl) ?_
              refine tz_rowV (As := [.long v55]) (st := []) (b := a) (C := RX12) (Ts := gT) hx hb hml hown h2 (fun _ h => h) (hX12_startOf l D cA ro sz H0 a v55 L ha (by omega) (by omega)) ⟨rfl, rfl⟩ ⟨by decide, by decide⟩ ⟨by decide, by decide⟩ (tb_7 127 rfl rfl) (tb_1 12 rfl rfl) (tb_7 124 rfl rfl) (tb_7 126 rfl rfl) (tb_0 11 rfl rfl) (show yX12_startOf.cls ≠ "java/lang/invoke/MethodHandle" ∧ yX12_startOf.cls ≠ "java/lang/invoke/VarHandle" ∧ (parseMethodDescriptor yX12_startOf.desc).map (fun d => d.parameters.length) = some 1 by decide +kernel) zs_blind (zs_ob hh57 ha (show RTg[11]? = some (0, 11, 0, fsX12) from rfl) (zCX12 hKn.1)) (fun U hU hW => ⟨rfl, by rw [hU]; exact hh57.l0, zKb s U hW.alike hKn, by rw [hU]; exact jy24.1.1⟩) hh57.2.2.1 hl56.1 (Nat.le_of_ble_eq_true rfl) (eX12_skipped (188, .invokevirtual 190, 3) (List.mem_of_getElem? (i := 103) rfl)) (fun r62 s62 t62 lo62 g62 f62 l62 => ?_)
              obtain ⟨z62, v62, q62, e62⟩ := f62
              cases q62
              rw [z62, g62]
              have hh62 : zh_ok D cA RTg ro sz H0 t24.heap lo62 := ⟨hh57.1, hh57.2.1, l62, hh57.2.2.2⟩
              have hib := lsI_b hjL (v55.toInt / 1440)
              have hie := e62
              unfold stI at hie
              refine W.eq (g2 := F0 m 191 ls56 [.long v62]) rfl ?_
              refine lv_iload hx hb (eX12_skipped (191, .iload 4, 2) (List.mem_of_getElem? (i := 104) rfl)) (lv_at hl56 13 rfl) ?_
              refine ff_i2l hx hb (eX12_skipped (193, .i2l, 1) (List.mem_of_getElem? (i := 105) rfl)) (fun v63 e63 => ?_)
              refine ff_ladd hx hb (eX12_skipped (194, .ladd, 1) (List.mem_of_getElem? (i := 106) rfl)) (by omega) (by omega) (fun v64 e64 => ?_)
              refine lv_goto hx hb (eX12_skipped (195, .goto 6, 3) (List.mem_of_getElem? (i := 107) rfl)) (tgt := 201) rfl ?_
              refine lv_lstore hx hb (eX12_skipped (201, .lstore 9, 2) (List.mem_of_getElem? (i := 109) rfl)) hl56 (by decide) rfl (fun ls65 hl65 => ?_)
              refine ff_iinc (k := 9) hx hb (eX12_skipped (203, .iinc 11 1, 3) (List.mem_of_getElem? (i := 110) rfl)) hl65 rfl (by decide) (by decide) (by decide) (by omega) (by omega) (fun v66 e66 ls66 hl66 => ?_)
              refine lv_goto hx hb (eX12_skipped (206, .goto (-169), 3) (List.mem_of_getElem? (i := 111) rfl)) (tgt := 37) rfl ?_
              have jbn : jBg D cA ro t24.heap a B := ⟨ag, zg, bn, mf24_a_26, rag, mc24_ag, mf24_a_27, hbn, hjg⟩
              exact ih (k0 + 1) v66 xv v64 ls66 _ _ (by omega) (by omega) (by rw [tk_one hBx]; have h8 := st9_yes (x := xv.toInt) (by omega) h9s hc9 (by omega); rw [show skV L ze rr m0.toInt s0.toInt xv.toInt = v64.toInt by unfold skV; rw [← e20, ← show v55.toInt = m0.toInt - v20.toInt by omega]; rcases e57 with g9 | g9; (rw [if_pos (show mIn v55.toInt from g9.2)]; first | omega | (exfalso; omega)); (rw [if_neg (show ¬ mIn v55.toInt from g9.2)]; first | omega | (exfalso; omega))] at h8; exact h8) hh62 kp24 jy24 jbn (lv_sub hl66 [0, 3, 1, 10, 11, 12, 13] rfl)
          · skip
            refine lv_lload hx hb (eX12_skipped (157, .lload 12, 2) (List.mem_of_getElem? (i := 86) rfl)) (lv_at hl43 5 rfl) ?_
            refine lv_lload hx hb (eX12_skipped (159, .lload 7, 2) (List.mem_of_getElem? (i := 87) rfl)) (lv_at hl43 7 rfl) ?_
            refine ff_lcmp hx hb (eX12_skipped (161, .lcmp, 1) (List.mem_of_getElem? (i := 88) rfl)) (fun v67 e67 => ?_)
            refine ff_if_ge hx hb (eX12_skipped (162, .ifCond .ge 41, 3) (List.mem_of_getElem? (i := 89) rfl)) (tgt := 203) rfl (fun c68 => ?_) (fun c68 => ?_)
            · skip
              refine ff_iinc (k := 6) hx hb (eX12_skipped (203, .iinc 11 1, 3) (List.mem_of_getElem? (i := 110) rfl)) hl43 rfl (by decide) (by decide) (by decide) (by omega) (by omega) (fun v69 e69 ls69 hl69 => ?_)
              refine lv_goto hx hb (eX12_skipped (206, .goto (-169), 3) (List.mem_of_getElem? (i := 111) rfl)) (tgt := 37) rfl ?_
              have jbn : jBg D cA ro t24.heap a B := ⟨ag, zg, bn, mf24_a_26, rag, mc24_ag, mf24_a_27, hbn, hjg⟩
              exact ih (k0 + 1) v69 bv fv ls69 _ _ (by omega) (by omega) (by rw [tk_one hBx]; exact st9_no h9s (fun g9 => by have g1 := hA9.mp g9.1.1; have g2 : ¬ v37.toInt ≤ v42.toInt := (fun q9 => by have q8 := hB9.mpr q9; have q7 := g9.1.2; omega); have g3 := g9.2; omega)) hh24 kp24 jy24 jbn (lv_sub hl69 [0, 7, 8, 9, 10, 11, 12] rfl)
            · skip
              have hc9 : skC L ze rr m0.toInt s0.toInt xv.toInt := ⟨hA9.mpr (by omega), by apply Decidable.byContradiction; intro q9; have q8 := hB9.mp (by omega); omega⟩
              refine lv_lload hx hb (eX12_skipped (165, .lload 12, 2) (List.mem_of_getElem? (i := 90) rfl)) (lv_at hl43 5 rfl) ?_
              refine lv_lstore hx hb (eX12_skipped (167, .lstore 7, 2) (List.mem_of_getElem? (i := 91) rfl)) hl43 (by decide) rfl (fun ls70 hl70 => ?_)
              refine lv_lload_n hx hb (eX12_skipped (169, .lload_n 2, 1) (List.mem_of_getElem? (i := 92) rfl)) rfl (lv_at hl70 11 rfl) ?_
              refine lv_iload hx hb (eX12_skipped (170, .iload 14, 2) (List.mem_of_getElem? (i := 93) rfl)) (lv_at hl70 5 rfl) ?_
              refine ff_i2l hx hb (eX12_skipped (172, .i2l, 1) (List.mem_of_getElem? (i := 94) rfl)) (fun v71 e71 => ?_)
              refine ff_lsub hx hb (eX12_skipped (173, .lsub, 1) (List.mem_of_getElem? (i := 95) rfl)) (by omega) (by omega) (fun v72 e72 => ?_)
              refine lv_lstore hx hb (eX12_skipped (174, .lstore 22, 2) (List.mem_of_getElem? (i := 96) rfl)) hl70 (by decide) rfl (fun ls73 hl73 => ?_)
              refine lv_aload_n hx hb (eX12_skipped (176, .aload_n 0, 1) (List.mem_of_getElem? (i := 97) rfl)) rfl (lv_at hl73 10 rfl) ?_
              refine lv_lload hx hb (eX12_skipped (177, .lload 22, 2) (List.mem_of_getElem? (i := 98) rfl)) (lv_at hl73 0 rfl) ?_
              refine tz_rowV (As := [.long v72]) (st := []) (b := a) (C := RX12) (Ts := gT) hx hb hml hown h2 (fun _ h => h) (hX12_isMinute l D cA ro sz H0 a v72 L ha) ⟨rfl, rfl⟩ ⟨by decide, by decide⟩ ⟨by decide, by decide⟩ (tb_7 117 rfl rfl) (tb_1 12 rfl rfl) (tb_7 114 rfl rfl) (tb_7 116 rfl rfl) (tb_0 9 rfl rfl) (show yX12_isMinute.cls ≠ "java/lang/invoke/MethodHandle" ∧ yX12_isMinute.cls ≠ "java/lang/invoke/VarHandle" ∧ (parseMethodDescriptor yX12_isMinute.desc).map (fun d => d.parameters.length) = some 1 by decide +kernel) zs_blind (zs_ob hh24 ha (show RTg[11]? = some (0, 11, 0, fsX12) from rfl) (zCX12 hKn.1)) (fun U hU hW => ⟨rfl, by rw [hU]; exact hh24.l0, zKb s U hW.alike hKn, by rw [hU]; exact jy24.1.1⟩) hh24.2.2.1 hl73.1 (Nat.le_of_ble_eq_true rfl) (eX12_skipped (179, .invokevirtual 201, 3) (List.mem_of_getElem? (i := 99) rfl)) (fun r74 s74 t74 lo74 g74 f74 l74 => ?_)
              obtain ⟨z74, v74, q74, e74⟩ := f74
              cases q74
              rw [z74, g74]
              have hh74 : zh_ok D cA RTg ro sz H0 t24.heap lo74 := ⟨hh24.1, hh24.2.1, l74, hh24.2.2.2⟩
              refine W.eq (g2 := F0 m 182 ls73 [.int v74]) rfl ?_
              refine ff_if_eq hx hb (eX12_skipped (182, .ifCond .eq 16, 3) (List.mem_of_getElem? (i := 100) rfl)) (tgt := 198) rfl (fun c75 => ?_) (fun c75 => ?_)
              · skip
                refine ff_ldc2 (n := (-9223372036854775808)) hx hb hown h2 (clX12_ok 83 (-9223372036854775808) (List.mem_of_getElem? (i := 2) rfl)) (eX12_skipped (198, .ldc2_w 83, 3) (List.mem_of_getElem? (i := 108) rfl)) (fun v76 e76 => ?_)
                refine lv_lstore hx hb (eX12_skipped (201, .lstore 9, 2) (List.mem_of_getElem? (i := 109) rfl)) hl73 (by decide) rfl (fun ls77 hl77 => ?_)
                refine ff_iinc (k := 9) hx hb (eX12_skipped (203, .iinc 11 1, 3) (List.mem_of_getElem? (i := 110) rfl)) hl77 rfl (by decide) (by decide) (by decide) (by omega) (by omega) (fun v78 e78 ls78 hl78 => ?_)
                refine lv_goto hx hb (eX12_skipped (206, .goto (-169), 3) (List.mem_of_getElem? (i := 111) rfl)) (tgt := 37) rfl ?_
                have jbn : jBg D cA ro t24.heap a B := ⟨ag, zg, bn, mf24_a_26, rag, mc24_ag, mf24_a_27, hbn, hjg⟩
                exact ih (k0 + 1) v78 xv v76 ls78 _ _ (by omega) (by omega) (by rw [tk_one hBx]; have h8 := st9_yes (x := xv.toInt) (by omega) h9s hc9 (by omega); rw [show skV L ze rr m0.toInt s0.toInt xv.toInt = v76.toInt by unfold skV; rw [← e20, ← show v72.toInt = m0.toInt - v20.toInt by omega]; rcases e74 with g9 | g9; (rw [if_pos (show mIn v72.toInt from g9.2)]; first | omega | (exfalso; omega)); (rw [if_neg (show ¬ mIn v72.toInt from g9.2)]; first | omega | (exfalso; omega))] at h8; exact h8) hh74 kp24 jy24 jbn (lv_sub hl78 [0, 3, 1, 10, 11, 12, 13] rfl)
              · skip
                have hmi : mOK v72.toInt := by rcases e74 with h | h; exact h.2; exfalso; omega
                have hmi2 := hmi
                unfold mOK at hmi2
                refine lv_aload_n hx hb (eX12_skipped (185, .aload_n 0, 1) (List.mem_of_getElem? (i := 101) rfl)) rfl (lv_at hl73 10 rfl) ?_
                refine lv_lload hx hb (eX12_skipped (186, .lload 22, 2) (List.mem_of_getElem? (i := 102) rfl)) (lv_at hl73 0 rfl) ?_
                refine tz_rowV (As := [.long v72]) (st := []) (b := a) (C := RX12) (Ts := gT) hx hb hml hown h2 (fun _ h => h) (hX12_startOf l D cA ro sz H0 a v72 L ha (by omega) (by omega)) ⟨rfl, rfl⟩ ⟨by decide, by decide⟩ ⟨by decide, by decide⟩ (tb_7 127 rfl rfl) (tb_1 12 rfl rfl) (tb_7 124 rfl rfl) (tb_7 126 rfl rfl) (tb_0 11 rfl rfl) (show yX12_startOf.cls ≠ "java/lang/invoke/MethodHandle" ∧ yX12_startOf.cls ≠ "java/lang/invoke/VarHandle" ∧ (parseMethodDescriptor yX12_startOf.desc).map (fun d => d.parameters.length) = some 1 by decide +kernel) zs_blind (zs_ob hh74 ha (show RTg[11]? = some (0, 11, 0, fsX12) from rfl) (zCX12 hKn.1)) (fun U hU hW => ⟨rfl, by rw [hU]; exact hh74.l0, zKb s U hW.alike hKn, by rw [hU]; exact jy24.1.1⟩) hh74.2.2.1 hl73.1 (Nat.le_of_ble_eq_true rfl) (eX12_skipped (188, .invokevirtual 190, 3) (List.mem_of_getElem? (i := 103) rfl)) (fun r79 s79 t79 lo79 g79 f79 l79 => ?_)
                obtain ⟨z79, v79, q79, e79⟩ := f79
                cases q79
                rw [z79, g79]
                have hh79 : zh_ok D cA RTg ro sz H0 t24.heap lo79 := ⟨hh74.1, hh74.2.1, l79, hh74.2.2.2⟩
                have hib := lsI_b hjL (v72.toInt / 1440)
                have hie := e79
                unfold stI at hie
                refine W.eq (g2 := F0 m 191 ls73 [.long v79]) rfl ?_
                refine lv_iload hx hb (eX12_skipped (191, .iload 4, 2) (List.mem_of_getElem? (i := 104) rfl)) (lv_at hl73 13 rfl) ?_
                refine ff_i2l hx hb (eX12_skipped (193, .i2l, 1) (List.mem_of_getElem? (i := 105) rfl)) (fun v80 e80 => ?_)
                refine ff_ladd hx hb (eX12_skipped (194, .ladd, 1) (List.mem_of_getElem? (i := 106) rfl)) (by omega) (by omega) (fun v81 e81 => ?_)
                refine lv_goto hx hb (eX12_skipped (195, .goto 6, 3) (List.mem_of_getElem? (i := 107) rfl)) (tgt := 201) rfl ?_
                refine lv_lstore hx hb (eX12_skipped (201, .lstore 9, 2) (List.mem_of_getElem? (i := 109) rfl)) hl73 (by decide) rfl (fun ls82 hl82 => ?_)
                refine ff_iinc (k := 9) hx hb (eX12_skipped (203, .iinc 11 1, 3) (List.mem_of_getElem? (i := 110) rfl)) hl82 rfl (by decide) (by decide) (by decide) (by omega) (by omega) (fun v83 e83 ls83 hl83 => ?_)
                refine lv_goto hx hb (eX12_skipped (206, .goto (-169), 3) (List.mem_of_getElem? (i := 111) rfl)) (tgt := 37) rfl ?_
                have jbn : jBg D cA ro t24.heap a B := ⟨ag, zg, bn, mf24_a_26, rag, mc24_ag, mf24_a_27, hbn, hjg⟩
                exact ih (k0 + 1) v83 xv v81 ls83 _ _ (by omega) (by omega) (by rw [tk_one hBx]; have h8 := st9_yes (x := xv.toInt) (by omega) h9s hc9 (by omega); rw [show skV L ze rr m0.toInt s0.toInt xv.toInt = v81.toInt by unfold skV; rw [← e20, ← show v72.toInt = m0.toInt - v20.toInt by omega]; rcases e74 with g9 | g9; (rw [if_pos (show mIn v72.toInt from g9.2)]; first | omega | (exfalso; omega)); (rw [if_neg (show ¬ mIn v72.toInt from g9.2)]; first | omega | (exfalso; omega))] at h8; exact h8) hh79 kp24 jy24 jbn (lv_sub hl83 [0, 3, 1, 10, 11, 12, 13] rfl)
  exact loop B.length 0 v13 v9 v11 ls14 _ _ (by omega) (by omega) (Or.inl ⟨by omega, by omega, by rw [List.take_zero]; exact fun x hx => by cases hx⟩) hh8 kp8 jy8 jb (lv_sub hl14 [0, 2, 1, 4, 5, 6, 7] rfl)
set_option maxRecDepth 100000 in
set_option maxHeartbeats 4000000 in
theorem hX12_on (l : Launch) (D : va_G) (cA : Nat → ClassId) (ro : Nat → Option Nat) (sz : Nat) (H0 : Heap) (a : Nat) (zi : Int32) (t0 : Int64) (k0 : Int64) (d0 : Int64) (L : List Int) (Z : List zE) (R : List rU) (i0 : Nat) (ze : zE) (rr : rU) (ha : ro a = some 11) (hi0 : zi.toInt = (i0 : Int)) (hze : Z[i0]? = some ze) (hrr : R[i0]? = some rr) (hoA : oOK ze.1) (hoB : ∀ c ∈ ze.2, oOK c.2) (htk : tOK t0.toInt L) (hk1 : -2147483648 ≤ k0.toInt) (hk2 : k0.toInt ≤ 2147483647) (hd1 : -2147483648 ≤ d0.toInt) (hd2 : d0.toInt ≤ 2147483647) : Met l yX12_on (gW yX12_on cX12_on 16 (some .long)) { frames := 9, cells := 0, slots := 0, locals := 263 } (zs_P D cA ro sz H0 (fun H => jRY D cA ro H a L (Z, R)) [.ref a, .int zi, .long t0, .long k0, .long d0]) (fun _ st oc t => ∃ r : Int64, oc = .returned (some (.long r)) ∧ goR L ze rr t0.toInt k0.toInt d0.toInt r.toInt ∧ zh_ok D cA RTg ro sz H0 t.heap [] ∧ zc_kept D RTg ro onM st.heap t.heap) 0 0 (zy_fr sz) := by
  refine zy_ofW (cc := cX12_on) (maxL := 16) (ret := (some .long)) (by decide +kernel) rfl ?_
  intro p e s m args below meth c s1 B hml hv
  obtain ⟨rfl, hh, hKn, hJ⟩ := hv
  have hx := B.exec
  have hb := B.bytes
  have hr := B.returns
  have hlk := B.notSynchronized
  have hts0 := atoms_spec (ws := gW yX12_on cX12_on 16 (some .long)) B.pre
  have h2 : ∀ w ∈ gT, w.before ([.ref a, .int zi, .long t0, .long k0, .long d0] : List Value).toArray s = true := fun w hw => hts0 w (List.mem_cons_of_mem _ hw)
  have hown : s.vm.findClass RX12 = some m.cls := findClass_of_methodNamed B.named
  have hl := lv_entry [.ref a, .int zi, .long t0, .long k0, .long d0] (n := 16) (Nat.le_of_ble_eq_true rfl)
  rw [lg_entry_eq]
  generalize (lg_sl [.ref a, .int zi, .long t0, .long k0, .long d0] ++ List.replicate (16 - (lg_sl [.ref a, .int zi, .long t0, .long k0, .long d0]).length) Slot.unset).toArray = ls at hl ⊢
  have b_zi := zn_i32 zi
  have b_t0 := zn_i64 t0
  have b_k0 := zn_i64 k0
  have b_d0 := zn_i64 d0
  have hD := zD_all h2 hKn.1
  have hcl11 := fun (idx k : Nat) (t : zt_T) (h : (idx, 11, k) ∈ gfX12) (hk : fsX12[k]? = some t) => zf_clause (ro := ro) (ms := onM) h2 hown hKn.1 gfX12_ok (by decide +kernel) idx 11 k 11 0 fsX12 t h rfl hk
  have kp0 : zc_kept D RTg ro onM s.heap s.heap := zc_kept.refl
  obtain ⟨hJz, hJq, hRl, hsr⟩ := id hJ
  have hJz : jRZ D cA ro s.heap a L Z := hJz
  have hJq : jRQ D cA ro s.heap a R := hJq
  have hRl : R.length = Z.length := hRl
  have hsr : ∀ e ∈ Z, srt e.2 := hsr
  obtain ⟨⟨la, n, z, fq2, r0, fq1, hn, hc, hz⟩, ⟨a4, a5, a6, a7, zq4, zq5, zq6, zq7, nz, ⟨fq4, rq4, cq4⟩, ⟨fq5, rq5, cq5⟩, ⟨fq6, rq6, cq6⟩, ⟨fq7, rq7, cq7⟩, fq3, hnz, hp⟩, hjl, hzw⟩ := id hJz
  have hjr := hJz.1
  have hjL := hjl.2.1
  have hzw1 := hzw.1
  obtain ⟨n9, g9, n1, n2⟩ := zh_fT (k := 1) (t := (0, 0, 40)) hh ha (show RTg[11]? = some (0, 11, 0, fsX12) from rfl) rfl
  cases fq1.symm.trans g9
  dsimp only at n1 n2
  clear g9
  obtain ⟨n9, g9, nz1, nz2⟩ := zh_fT (k := 3) (t := (0, 0, 8)) hh ha (show RTg[11]? = some (0, 11, 0, fsX12) from rfl) rfl
  cases fq3.symm.trans g9
  dsimp only at nz1 nz2
  clear g9
  obtain ⟨-, xla, dla, hla⟩ := zh_arr hh r0 (show RTg[21]? = some (1, 1, 40, [(1, (-9223372036854775808), 9223372036854775807)]) from rfl)
  have hyla : ∀ i, i < 40 → zt_ok ro (z i) (1, (-9223372036854775808), 9223372036854775807) := zs_arr (hc.symm.trans dla) hla
  obtain ⟨-, xa4, da4, ha4⟩ := zh_arr hh rq4 (show RTg[22]? = some (1, 0, 8, [(0, (-1439), 1439)]) from rfl)
  have hya4 : ∀ i, i < 8 → zt_ok ro (zq4 i) (0, (-1439), 1439) := zs_arr (cq4.symm.trans da4) ha4
  obtain ⟨-, xa5, da5, ha5⟩ := zh_arr hh rq5 (show RTg[23]? = some (1, 0, 8, [(0, 0, 60)]) from rfl)
  have hya5 : ∀ i, i < 8 → zt_ok ro (zq5 i) (0, 0, 60) := zs_arr (cq5.symm.trans da5) ha5
  obtain ⟨-, xa6, da6, ha6⟩ := zh_arr hh rq6 (show RTg[24]? = some (1, 1, 480, [(1, (-100000000000000), 100000000000000)]) from rfl)
  have hya6 : ∀ i, i < 480 → zt_ok ro (zq6 i) (1, (-100000000000000), 100000000000000) := zs_arr (cq6.symm.trans da6) ha6
  obtain ⟨-, xa7, da7, ha7⟩ := zh_arr hh rq7 (show RTg[25]? = some (1, 0, 480, [(0, (-1439), 1439)]) from rfl)
  have hya7 : ∀ i, i < 480 → zt_ok ro (zq7 i) (0, (-1439), 1439) := zs_arr (cq7.symm.trans da7) ha7
  obtain ⟨b8, b9, bA, bB, z8, z9, zA, zB, ⟨fq8, rq8, cq8⟩, ⟨fq9, rq9, cq9⟩, ⟨fqA, rqA, cqA⟩, ⟨fqB, rqB, cqB⟩, hrp, hrw⟩ := id hJq
  obtain ⟨-, xb8, db8, hb8⟩ := zh_arr hh rq8 (show RTg[26]? = some (1, 0, 8, [(0, 0, 2)]) from rfl)
  have hyb8 : ∀ i, i < 8 → zt_ok ro (z8 i) (0, 0, 2) := zs_arr (cq8.symm.trans db8) hb8
  obtain ⟨-, xb9, db9, hb9⟩ := zh_arr hh rq9 (show RTg[27]? = some (1, 0, 8, [(0, (-1000000), 1000000)]) from rfl)
  have hyb9 : ∀ i, i < 8 → zt_ok ro (z9 i) (0, (-1000000), 1000000) := zs_arr (cq9.symm.trans db9) hb9
  obtain ⟨-, xbA, dbA, hbA⟩ := zh_arr hh rqA (show RTg[28]? = some (1, 0, 8, [(0, (-1000000), 1000000)]) from rfl)
  have hybA : ∀ i, i < 8 → zt_ok ro (zA i) (0, (-1000000), 1000000) := zs_arr (cqA.symm.trans dbA) hbA
  obtain ⟨-, xbB, dbB, hbB⟩ := zh_arr hh rqB (show RTg[29]? = some (1, 0, 80, [(0, (-1000000), 1000000)]) from rfl)
  have hybB : ∀ i, i < 80 → zt_ok ro (zB i) (0, (-1000000), 1000000) := zs_arr (cqB.symm.trans dbB) hbB
  have hwr := hrw rr (List.mem_of_getElem? hrr)
  have hnd := hjl.1
  have htb := tOK_b hjL htk
  refine lv_aload_n hx hb (eX12_on (0, .aload_n 0, 1) (List.mem_of_getElem? (i := 0) rfl)) rfl (lv_at hl 0 rfl) ?_
  refine lv_iload_n hx hb (eX12_on (1, .iload_n 1, 1) (List.mem_of_getElem? (i := 1) rfl)) rfl (lv_at hl 1 rfl) ?_
  refine lv_lload_n hx hb (eX12_on (2, .lload_n 2, 1) (List.mem_of_getElem? (i := 2) rfl)) rfl (lv_at hl 2 rfl) ?_
  refine tz_rowV (As := [.int zi, .long t0]) (st := []) (b := a) (C := RX12) (Ts := gT) hx hb hml hown h2 (fun _ h => h) (hX12_offsetAt l D cA ro sz H0 a zi t0 L Z R i0 ze rr ha hi0 hze hrr (by omega) (by omega)) ⟨rfl, rfl⟩ ⟨by decide, by decide⟩ ⟨by decide, by decide⟩ (tb_7 170 rfl rfl) (tb_1 12 rfl rfl) (tb_7 167 rfl rfl) (tb_7 169 rfl rfl) (tb_0 16 rfl rfl) (show yX12_offsetAt.cls ≠ "java/lang/invoke/MethodHandle" ∧ yX12_offsetAt.cls ≠ "java/lang/invoke/VarHandle" ∧ (parseMethodDescriptor yX12_offsetAt.desc).map (fun d => d.parameters.length) = some 2 by decide +kernel) zs_blind (zs_ob hh ha (show RTg[11]? = some (0, 11, 0, fsX12) from rfl) (zCX12 hKn.1)) (fun U hU hW => ⟨rfl, by rw [hU]; exact hh.l0, zKb s U hW.alike hKn, by rw [hU]; exact hJ⟩) hh.2.2.1 hl.1 (Nat.le_of_ble_eq_true rfl) (eX12_on (3, .invokevirtual 233, 3) (List.mem_of_getElem? (i := 3) rfl)) (fun r1 s1 t1 lo1 g1 f1 l1 => ?_)
  obtain ⟨v1, q1, e1, z1, c1⟩ := f1
  cases q1
  rw [g1] at c1
  have hh1 : zh_ok D cA RTg ro sz H0 t1.heap lo1 := ⟨z1.1, z1.2.1, l1, z1.2.2.2⟩
  have kp1 := kp0.trans (c1.mono (ms' := onM) (by decide))
  have jy1 := hJ.kept ha c1 (by decide)
  have ob1 := ofF_bd (L := L) (t := t0.toInt) hwr hoA hoB
  rw [← e1] at ob1
  refine W.eq (g2 := F0 m 6 ls [.int v1]) rfl ?_
  refine lv_istore hx hb (eX12_on (6, .istore 8, 2) (List.mem_of_getElem? (i := 4) rfl)) hl (by decide) rfl (fun ls2 hl2 => ?_)
  refine lv_aload_n hx hb (eX12_on (8, .aload_n 0, 1) (List.mem_of_getElem? (i := 5) rfl)) rfl (lv_at hl2 1 rfl) ?_
  refine lv_lload_n hx hb (eX12_on (9, .lload_n 2, 1) (List.mem_of_getElem? (i := 6) rfl)) rfl (lv_at hl2 3 rfl) ?_
  refine tz_rowV (As := [.long t0]) (st := []) (b := a) (C := RX12) (Ts := gT) hx hb hml hown h2 (fun _ h => h) (hX12_read0 l D cA ro sz H0 a t0 L ha (by omega) (by omega)) ⟨rfl, rfl⟩ ⟨by decide, by decide⟩ ⟨by decide, by decide⟩ (tb_7 145 rfl rfl) (tb_1 12 rfl rfl) (tb_7 142 rfl rfl) (tb_7 144 rfl rfl) (tb_0 14 rfl rfl) (show yX12_read0.cls ≠ "java/lang/invoke/MethodHandle" ∧ yX12_read0.cls ≠ "java/lang/invoke/VarHandle" ∧ (parseMethodDescriptor yX12_read0.desc).map (fun d => d.parameters.length) = some 1 by decide +kernel) zs_blind (zs_ob hh1 ha (show RTg[11]? = some (0, 11, 0, fsX12) from rfl) (zCX12 hKn.1)) (fun U hU hW => ⟨rfl, by rw [hU]; exact hh1.l0, zKb s U hW.alike hKn, by rw [hU]; exact jy1.1.1⟩) hh1.2.2.1 hl2.1 (Nat.le_of_ble_eq_true rfl) (eX12_on (10, .invokevirtual 210, 3) (List.mem_of_getElem? (i := 7) rfl)) (fun r3 s3 t3 lo3 g3 f3 l3 => ?_)
  obtain ⟨q3, z3, c3, M7, S7, fM, fS, hrd, hS7⟩ := f3
  cases q3
  rw [g3] at c3
  have hmm := mtI_eq hjL hrd
  have hmb := mtI_bd hjL (t := t0.toInt) (by omega) (by omega)
  rw [← hmm] at hmb
  have hsx := sec60 hnd hrd
  have hh3 : zh_ok D cA RTg ro sz H0 t3.heap lo3 := ⟨z3.1, z3.2.1, l3, z3.2.2.2⟩
  have kp3 := kp1.trans (c3.mono (ms' := onM) (by decide))
  have jy3 := jy1.kept ha c3 (by decide)
  refine W.eq (g2 := F0 m 13 ls2 []) rfl ?_
  refine lv_aload_n hx hb (eX12_on (13, .aload_n 0, 1) (List.mem_of_getElem? (i := 8) rfl)) rfl (lv_at hl2 1 rfl) ?_
  refine tz_get (r := 11) (k := 21) (t := (1, (-9223372036854775808), 9223372036854775807)) hx hb hh3 ha rfl rfl (hcl11 195 21 (1, (-9223372036854775808), 9223372036854775807) (by decide) rfl).1 fM (eX12_on (14, .getfield 195, 3) (List.mem_of_getElem? (i := 9) rfl)) ?_
  refine lv_iload hx hb (eX12_on (17, .iload 8, 2) (List.mem_of_getElem? (i := 10) rfl)) (lv_at hl2 0 rfl) ?_
  refine ff_i2l hx hb (eX12_on (19, .i2l, 1) (List.mem_of_getElem? (i := 11) rfl)) (fun v4 e4 => ?_)
  refine ff_ladd hx hb (eX12_on (20, .ladd, 1) (List.mem_of_getElem? (i := 12) rfl)) (by omega) (by omega) (fun v5 e5 => ?_)
  refine lv_lstore hx hb (eX12_on (21, .lstore 9, 2) (List.mem_of_getElem? (i := 13) rfl)) hl2 (by decide) rfl (fun ls6 hl6 => ?_)
  have hlm : v5.toInt = lmM L ze rr t0.toInt := by unfold lmM; rw [← hmm, ← e1]; omega
  refine lv_aload_n hx hb (eX12_on (23, .aload_n 0, 1) (List.mem_of_getElem? (i := 14) rfl)) rfl (lv_at hl6 2 rfl) ?_
  refine tz_get (r := 11) (k := 22) (t := (0, (-2147483648), 2147483647)) hx hb hh3 ha rfl rfl (hcl11 198 22 (0, (-2147483648), 2147483647) (by decide) rfl).1 fS (eX12_on (24, .getfield 198, 3) (List.mem_of_getElem? (i := 15) rfl)) ?_
  refine lv_istore hx hb (eX12_on (27, .istore 11, 2) (List.mem_of_getElem? (i := 16) rfl)) hl6 (by decide) rfl (fun ls7 hl7 => ?_)
  have hse : S7.toInt = seI L t0.toInt := by unfold seI; rw [← hmm]; exact hS7
  refine lv_lload hx hb (eX12_on (29, .lload 9, 2) (List.mem_of_getElem? (i := 17) rfl)) (lv_at hl7 1 rfl) ?_
  refine ff_ldc2 (n := 1440) hx hb hown h2 (clX12_ok 180 1440 (List.mem_of_getElem? (i := 21) rfl)) (eX12_on (31, .ldc2_w 180, 3) (List.mem_of_getElem? (i := 18) rfl)) (fun v8 e8 => ?_)
  refine zu_S (vs := [.long v5, .long v8]) (rest := []) hx hb hml hown hts0 zu_BT (hX12_down1440 l v5 v8 (by omega) (by omega) (by omega)) ⟨rfl, rfl⟩ ⟨by decide, by decide⟩ ⟨by decide, by decide⟩ (tb_6 139 rfl rfl) (tb_1 12 rfl rfl) (tb_6 137 rfl rfl) (tb_6 138 rfl rfl) (show yX12_down.cls ≠ "java/lang/invoke/MethodHandle" ∧ yX12_down.cls ≠ "java/lang/invoke/VarHandle" ∧ (parseMethodDescriptor yX12_down.desc).map (fun d => d.parameters.length) = some 2 by decide +kernel) rfl (fun _ _ _ => trivial) hl7.1 (Nat.le_of_ble_eq_true rfl) (eX12_on (34, .invokestatic 99, 3) (List.mem_of_getElem? (i := 19) rfl)) (fun w9 f9 => ?_)
  obtain ⟨v9, rfl, e9⟩ := f9
  refine lv_lstore hx hb (eX12_on (37, .lstore 12, 2) (List.mem_of_getElem? (i := 20) rfl)) hl7 (by decide) rfl (fun ls10 hl10 => ?_)
  refine lv_lload hx hb (eX12_on (39, .lload 9, 2) (List.mem_of_getElem? (i := 21) rfl)) (lv_at hl10 2 rfl) ?_
  refine lv_lload hx hb (eX12_on (41, .lload 12, 2) (List.mem_of_getElem? (i := 22) rfl)) (lv_at hl10 0 rfl) ?_
  refine ff_ldc2 (n := 1440) hx hb hown h2 (clX12_ok 180 1440 (List.mem_of_getElem? (i := 21) rfl)) (eX12_on (43, .ldc2_w 180, 3) (List.mem_of_getElem? (i := 23) rfl)) (fun v11 e11 => ?_)
  refine ff_lmulR hx hb (eX12_on (46, .lmul, 1) (List.mem_of_getElem? (i := 24) rfl)) (e11) (by omega) (by omega) (fun v12 e12 => ?_)
  refine ff_lsub hx hb (eX12_on (47, .lsub, 1) (List.mem_of_getElem? (i := 25) rfl)) (by omega) (by omega) (fun v13 e13 => ?_)
  refine lv_lstore hx hb (eX12_on (48, .lstore 14, 2) (List.mem_of_getElem? (i := 26) rfl)) hl10 (by decide) rfl (fun ls14 hl14 => ?_)
  refine lv_aload_n hx hb (eX12_on (50, .aload_n 0, 1) (List.mem_of_getElem? (i := 27) rfl)) rfl (lv_at hl14 5 rfl) ?_
  refine lv_lload hx hb (eX12_on (51, .lload 12, 2) (List.mem_of_getElem? (i := 28) rfl)) (lv_at hl14 1 rfl) ?_
  refine tz_rowV (As := [.long v9]) (st := []) (b := a) (C := RX12) (Ts := gT) hx hb hml hown h2 (fun _ h => h) (hX12_isDayY l D cA ro sz H0 a v9 L Z R ha) ⟨rfl, rfl⟩ ⟨by decide, by decide⟩ ⟨by decide, by decide⟩ (tb_7 62 rfl rfl) (tb_1 12 rfl rfl) (tb_7 59 rfl rfl) (tb_7 61 rfl rfl) (tb_0 4 rfl rfl) (show yX12_isDay.cls ≠ "java/lang/invoke/MethodHandle" ∧ yX12_isDay.cls ≠ "java/lang/invoke/VarHandle" ∧ (parseMethodDescriptor yX12_isDay.desc).map (fun d => d.parameters.length) = some 1 by decide +kernel) zs_blind (zs_ob hh3 ha (show RTg[11]? = some (0, 11, 0, fsX12) from rfl) (zCX12 hKn.1)) (fun U hU hW => ⟨rfl, by rw [hU]; exact hh3.l0, zKb s U hW.alike hKn, by rw [hU]; exact jy3⟩) hh3.2.2.1 hl14.1 (Nat.le_of_ble_eq_true rfl) (eX12_on (53, .invokevirtual 159, 3) (List.mem_of_getElem? (i := 29) rfl)) (fun r15 s15 t15 lo15 g15 f15 l15 => ?_)
  obtain ⟨z15, v15, q15, e15⟩ := f15
  cases q15
  rw [z15, g15]
  have hh15 : zh_ok D cA RTg ro sz H0 t3.heap lo15 := ⟨hh3.1, hh3.2.1, l15, hh3.2.2.2⟩
  refine W.eq (g2 := F0 m 56 ls14 [.int v15]) rfl ?_
  refine ff_if_ne hx hb (eX12_on (56, .ifCond .ne 7, 3) (List.mem_of_getElem? (i := 30) rfl)) (tgt := 63) rfl (fun c16 => ?_) (fun c16 => ?_)
  · skip
    refine lv_aload_n hx hb (eX12_on (63, .aload_n 0, 1) (List.mem_of_getElem? (i := 33) rfl)) rfl (lv_at hl14 5 rfl) ?_
    refine lv_lload hx hb (eX12_on (64, .lload 12, 2) (List.mem_of_getElem? (i := 34) rfl)) (lv_at hl14 1 rfl) ?_
    refine lv_lload hx hb (eX12_on (66, .lload 4, 2) (List.mem_of_getElem? (i := 35) rfl)) (lv_at hl14 8 rfl) ?_
    refine tz_rowV (As := [.long v9, .long k0]) (st := []) (b := a) (C := RX12) (Ts := gT) hx hb hml hown h2 (fun _ h => h) (hX12_monthsOnY l D cA ro sz H0 a v9 k0 L Z R ha (by omega) (by omega) (by omega) (by omega)) ⟨rfl, rfl⟩ ⟨by decide, by decide⟩ ⟨by decide, by decide⟩ (tb_7 97 rfl rfl) (tb_1 12 rfl rfl) (tb_7 94 rfl rfl) (tb_7 96 rfl rfl) (tb_0 7 rfl rfl) (show yX12_monthsOn.cls ≠ "java/lang/invoke/MethodHandle" ∧ yX12_monthsOn.cls ≠ "java/lang/invoke/VarHandle" ∧ (parseMethodDescriptor yX12_monthsOn.desc).map (fun d => d.parameters.length) = some 2 by decide +kernel) zs_blind (zs_ob hh15 ha (show RTg[11]? = some (0, 11, 0, fsX12) from rfl) (zCX12 hKn.1)) (fun U hU hW => ⟨rfl, by rw [hU]; exact hh15.l0, zKb s U hW.alike hKn, by rw [hU]; exact jy3⟩) hh15.2.2.1 hl14.1 (Nat.le_of_ble_eq_true rfl) (eX12_on (68, .invokevirtual 170, 3) (List.mem_of_getElem? (i := 36) rfl)) (fun r17 s17 t17 lo17 g17 f17 l17 => ?_)
    obtain ⟨v17, q17, z17, -, c17, e17⟩ := f17
    cases q17
    rw [g17] at c17
    have hh17 : zh_ok D cA RTg ro sz H0 t17.heap lo17 := ⟨z17.1, z17.2.1, l17, z17.2.2.2⟩
    have kp17 := kp3.trans (c17.mono (ms' := onM) (by decide))
    have jy17 := jy3.kept ha c17 (by decide)
    rw [show v9.toInt = lmM L ze rr t0.toInt / 1440 by omega] at e17
    have eb17 : (-370000000 ≤ v17.toInt ∧ v17.toInt ≤ 370000000) ∨ v17.toInt = -9223372036854775808 := by rcases e17 with h | h; exact Or.inl h.2.2; exact Or.inr h.1
    refine W.eq (g2 := F0 m 71 ls14 [.long v17]) rfl ?_
    refine lv_lstore hx hb (eX12_on (71, .lstore 12, 2) (List.mem_of_getElem? (i := 37) rfl)) hl14 (by decide) rfl (fun ls18 hl18 => ?_)
    refine lv_lload hx hb (eX12_on (73, .lload 12, 2) (List.mem_of_getElem? (i := 38) rfl)) (lv_at hl18 0 rfl) ?_
    refine ff_ldc2 (n := (-9223372036854775808)) hx hb hown h2 (clX12_ok 83 (-9223372036854775808) (List.mem_of_getElem? (i := 2) rfl)) (eX12_on (75, .ldc2_w 83, 3) (List.mem_of_getElem? (i := 39) rfl)) (fun v19 e19 => ?_)
    refine ff_lcmp hx hb (eX12_on (78, .lcmp, 1) (List.mem_of_getElem? (i := 40) rfl)) (fun v20 e20 => ?_)
    refine ff_if_eq hx hb (eX12_on (79, .ifCond .eq 15, 3) (List.mem_of_getElem? (i := 41) rfl)) (tgt := 94) rfl (fun c21 => ?_) (fun c21 => ?_)
    · skip
      refine ff_ldc2 (n := (-9223372036854775808)) hx hb hown h2 (clX12_ok 83 (-9223372036854775808) (List.mem_of_getElem? (i := 2) rfl)) (eX12_on (94, .ldc2_w 83, 3) (List.mem_of_getElem? (i := 48) rfl)) (fun v22 e22 => ?_)
      exact W.lret hx hb hr (fun t ht hW => ⟨_, rfl, Or.inl ⟨by rcases e17 with h | h; (exfalso; omega); exact h.2, by unfold NONEI; omega⟩, by rw [ht]; exact hh17.l0, by rw [ht]; exact kp17⟩) hh17.2.2.1 (eX12_on (97, .lreturn, 1) (List.mem_of_getElem? (i := 49) rfl))
    · skip
      obtain ⟨hv9, hg9, hb9⟩ : mtV (lmM L ze rr t0.toInt / 1440) k0.toInt ∧ mtG (lmM L ze rr t0.toInt / 1440) k0.toInt v17.toInt ∧ (-370000000 ≤ v17.toInt ∧ v17.toInt ≤ 370000000) := by rcases e17 with h | h; exact ⟨h.1, h.2.1, h.2.2⟩; exfalso; omega
      refine lv_aload_n hx hb (eX12_on (82, .aload_n 0, 1) (List.mem_of_getElem? (i := 42) rfl)) rfl (lv_at hl18 5 rfl) ?_
      refine lv_lload hx hb (eX12_on (83, .lload 12, 2) (List.mem_of_getElem? (i := 43) rfl)) (lv_at hl18 0 rfl) ?_
      refine lv_lload hx hb (eX12_on (85, .lload 6, 2) (List.mem_of_getElem? (i := 44) rfl)) (lv_at hl18 9 rfl) ?_
      refine ff_ladd hx hb (eX12_on (87, .ladd, 1) (List.mem_of_getElem? (i := 45) rfl)) (by omega) (by omega) (fun v23 e23 => ?_)
      refine tz_rowV (As := [.long v23]) (st := []) (b := a) (C := RX12) (Ts := gT) hx hb hml hown h2 (fun _ h => h) (hX12_isDayY l D cA ro sz H0 a v23 L Z R ha) ⟨rfl, rfl⟩ ⟨by decide, by decide⟩ ⟨by decide, by decide⟩ (tb_7 62 rfl rfl) (tb_1 12 rfl rfl) (tb_7 59 rfl rfl) (tb_7 61 rfl rfl) (tb_0 4 rfl rfl) (show yX12_isDay.cls ≠ "java/lang/invoke/MethodHandle" ∧ yX12_isDay.cls ≠ "java/lang/invoke/VarHandle" ∧ (parseMethodDescriptor yX12_isDay.desc).map (fun d => d.parameters.length) = some 1 by decide +kernel) zs_blind (zs_ob hh17 ha (show RTg[11]? = some (0, 11, 0, fsX12) from rfl) (zCX12 hKn.1)) (fun U hU hW => ⟨rfl, by rw [hU]; exact hh17.l0, zKb s U hW.alike hKn, by rw [hU]; exact jy17⟩) hh17.2.2.1 hl18.1 (Nat.le_of_ble_eq_true rfl) (eX12_on (88, .invokevirtual 159, 3) (List.mem_of_getElem? (i := 46) rfl)) (fun r24 s24 t24 lo24 g24 f24 l24 => ?_)
      obtain ⟨z24, v24, q24, e24⟩ := f24
      cases q24
      rw [z24, g24]
      have hh24 : zh_ok D cA RTg ro sz H0 t17.heap lo24 := ⟨hh17.1, hh17.2.1, l24, hh17.2.2.2⟩
      refine W.eq (g2 := F0 m 91 ls18 [.int v24]) rfl ?_
      refine ff_if_ne hx hb (eX12_on (91, .ifCond .ne 7, 3) (List.mem_of_getElem? (i := 47) rfl)) (tgt := 98) rfl (fun c25 => ?_) (fun c25 => ?_)
      · skip
        have hdk : dOK (v17.toInt + d0.toInt) := by unfold dOK; omega
        refine lv_lload hx hb (eX12_on (98, .lload 12, 2) (List.mem_of_getElem? (i := 50) rfl)) (lv_at hl18 0 rfl) ?_
        refine lv_lload hx hb (eX12_on (100, .lload 6, 2) (List.mem_of_getElem? (i := 51) rfl)) (lv_at hl18 9 rfl) ?_
        refine ff_ladd hx hb (eX12_on (102, .ladd, 1) (List.mem_of_getElem? (i := 52) rfl)) (by omega) (by omega) (fun v26 e26 => ?_)
        refine lv_lstore hx hb (eX12_on (103, .lstore 12, 2) (List.mem_of_getElem? (i := 53) rfl)) hl18 (by decide) rfl (fun ls27 hl27 => ?_)
        refine lv_lload hx hb (eX12_on (105, .lload 12, 2) (List.mem_of_getElem? (i := 54) rfl)) (lv_at hl27 0 rfl) ?_
        refine ff_ldc2 (n := 1440) hx hb hown h2 (clX12_ok 180 1440 (List.mem_of_getElem? (i := 21) rfl)) (eX12_on (107, .ldc2_w 180, 3) (List.mem_of_getElem? (i := 55) rfl)) (fun v28 e28 => ?_)
        refine ff_lmulR hx hb (eX12_on (110, .lmul, 1) (List.mem_of_getElem? (i := 56) rfl)) (e28) (by omega) (by omega) (fun v29 e29 => ?_)
        refine lv_lload hx hb (eX12_on (111, .lload 14, 2) (List.mem_of_getElem? (i := 57) rfl)) (lv_at hl27 1 rfl) ?_
        refine ff_ladd hx hb (eX12_on (113, .ladd, 1) (List.mem_of_getElem? (i := 58) rfl)) (by omega) (by omega) (fun v30 e30 => ?_)
        refine lv_lstore hx hb (eX12_on (114, .lstore 9, 2) (List.mem_of_getElem? (i := 59) rfl)) hl27 (by decide) rfl (fun ls31 hl31 => ?_)
        have hgl : v30.toInt = (v17.toInt + d0.toInt) * 1440 + (lmM L ze rr t0.toInt - lmM L ze rr t0.toInt / 1440 * 1440) := by omega
        have hgb : -526984793280 ≤ v30.toInt ∧ v30.toInt ≤ 524913079679 := by unfold dOK at hdk; omega
        refine lv_aload_n hx hb (eX12_on (116, .aload_n 0, 1) (List.mem_of_getElem? (i := 60) rfl)) rfl (lv_at hl31 5 rfl) ?_
        refine lv_iload_n hx hb (eX12_on (117, .iload_n 1, 1) (List.mem_of_getElem? (i := 61) rfl)) rfl (lv_at hl31 6 rfl) ?_
        refine lv_lload hx hb (eX12_on (118, .lload 9, 2) (List.mem_of_getElem? (i := 62) rfl)) (lv_at hl31 0 rfl) ?_
        refine lv_iload hx hb (eX12_on (120, .iload 11, 2) (List.mem_of_getElem? (i := 63) rfl)) (lv_at hl31 3 rfl) ?_
        refine tz_rowV (As := [.int zi, .long v30, .int S7]) (st := []) (b := a) (C := RX12) (Ts := gT) hx hb hml hown h2 (fun _ h => h) (hX12_locals l D cA ro sz H0 a zi v30 S7 L Z R i0 ze rr ha hi0 hze hrr (by omega) (by omega) (by omega) (by omega)) ⟨rfl, rfl⟩ ⟨by decide, by decide⟩ ⟨by decide, by decide⟩ (tb_7 186 rfl rfl) (tb_1 12 rfl rfl) (tb_7 183 rfl rfl) (tb_7 185 rfl rfl) (tb_0 19 rfl rfl) (show yX12_locals.cls ≠ "java/lang/invoke/MethodHandle" ∧ yX12_locals.cls ≠ "java/lang/invoke/VarHandle" ∧ (parseMethodDescriptor yX12_locals.desc).map (fun d => d.parameters.length) = some 3 by decide +kernel) zs_blind (zs_ob hh24 ha (show RTg[11]? = some (0, 11, 0, fsX12) from rfl) (zCX12 hKn.1)) (fun U hU hW => ⟨rfl, by rw [hU]; exact hh24.l0, zKb s U hW.alike hKn, by rw [hU]; exact jy17⟩) hh24.2.2.1 hl31.1 (Nat.le_of_ble_eq_true rfl) (eX12_on (122, .invokevirtual 246, 3) (List.mem_of_getElem? (i := 64) rfl)) (fun r32 s32 t32 lo32 g32 f32 l32 => ?_)
        obtain ⟨v32, q32, e32, z32, c32, ⟨al32, zl32, fal32, ral32, cal32, hjn32⟩⟩ := f32
        cases q32
        rw [g32] at c32
        have hh32 : zh_ok D cA RTg ro sz H0 t32.heap lo32 := ⟨z32.1, z32.2.1, l32, z32.2.2.2⟩
        have kp32 := kp17.trans (c32.mono (ms' := onM) (by decide))
        have jy32 := jy17.kept ha c32 (by decide)
        refine W.eq (g2 := F0 m 125 ls31 [.int v32]) rfl ?_
        refine ff_if_le hx hb (eX12_on (125, .ifCond .le 10, 3) (List.mem_of_getElem? (i := 65) rfl)) (tgt := 135) rfl (fun c33 => ?_) (fun c33 => ?_)
        · skip
          refine lv_iload hx hb (eX12_on (135, .iload 11, 2) (List.mem_of_getElem? (i := 71) rfl)) (lv_at hl31 3 rfl) ?_
          refine ff_bipush hx hb (eX12_on (137, .bipush 60, 2) (List.mem_of_getElem? (i := 72) rfl)) (by decide) (by decide) (fun v34 e34 => ?_)
          refine ff_icmp_ne hx hb (eX12_on (139, .if_icmp .ne 26, 3) (List.mem_of_getElem? (i := 73) rfl)) (tgt := 165) rfl (fun c35 => ?_) (fun c35 => ?_)
          · skip
            rw [hse, hgl] at e32
            refine lv_aload_n hx hb (eX12_on (165, .aload_n 0, 1) (List.mem_of_getElem? (i := 87) rfl)) rfl (lv_at hl31 5 rfl) ?_
            refine lv_iload_n hx hb (eX12_on (166, .iload_n 1, 1) (List.mem_of_getElem? (i := 88) rfl)) rfl (lv_at hl31 6 rfl) ?_
            refine lv_lload hx hb (eX12_on (167, .lload 9, 2) (List.mem_of_getElem? (i := 89) rfl)) (lv_at hl31 0 rfl) ?_
            refine lv_iload hx hb (eX12_on (169, .iload 11, 2) (List.mem_of_getElem? (i := 90) rfl)) (lv_at hl31 3 rfl) ?_
            refine tz_rowV (As := [.int zi, .long v30, .int S7]) (st := []) (b := a) (C := RX12) (Ts := gT) hx hb hml hown h2 (fun _ h => h) (hX12_skipped l D cA ro sz H0 a zi v30 S7 L Z R i0 ze rr ha hi0 hze hrr hoA hoB (by omega) (by omega) (by omega) (by omega)) ⟨rfl, rfl⟩ ⟨by decide, by decide⟩ ⟨by decide, by decide⟩ (tb_7 223 rfl rfl) (tb_1 12 rfl rfl) (tb_7 220 rfl rfl) (tb_7 222 rfl rfl) (tb_0 26 rfl rfl) (show yX12_skipped.cls ≠ "java/lang/invoke/MethodHandle" ∧ yX12_skipped.cls ≠ "java/lang/invoke/VarHandle" ∧ (parseMethodDescriptor yX12_skipped.desc).map (fun d => d.parameters.length) = some 3 by decide +kernel) zs_blind (zs_ob hh32 ha (show RTg[11]? = some (0, 11, 0, fsX12) from rfl) (zCX12 hKn.1)) (fun U hU hW => ⟨rfl, by rw [hU]; exact hh32.l0, zKb s U hW.alike hKn, by rw [hU]; exact jy32⟩) hh32.2.2.1 hl31.1 (Nat.le_of_ble_eq_true rfl) (eX12_on (171, .invokevirtual 269, 3) (List.mem_of_getElem? (i := 91) rfl)) (fun r36 s36 t36 lo36 g36 f36 l36 => ?_)
            obtain ⟨v36, q36, e36, z36, c36⟩ := f36
            cases q36
            rw [g36] at c36
            have hh36 : zh_ok D cA RTg ro sz H0 t36.heap lo36 := ⟨z36.1, z36.2.1, l36, z36.2.2.2⟩
            have kp36 := kp32.trans (c36.mono (ms' := onM) (by decide))
            have jy36 := jy32.kept ha c36 (by decide)
            refine W.eq (g2 := F0 m 174 ls31 [.long v36]) rfl ?_
            exact W.lret hx hb hr (fun t ht hW => ⟨_, rfl, Or.inr ⟨hv9, _, hg9, Or.inr ⟨hdk, Or.inr ⟨by omega, Or.inr ⟨by omega, by have h9 := e36; rw [hse, hgl] at h9; exact h9⟩⟩⟩⟩, by rw [ht]; exact hh36.l0, by rw [ht]; exact kp36⟩) hh36.2.2.1 (eX12_on (174, .lreturn, 1) (List.mem_of_getElem? (i := 92) rfl))
          · skip
            refine ff_bipush hx hb (eX12_on (142, .bipush 59, 2) (List.mem_of_getElem? (i := 74) rfl)) (by decide) (by decide) (fun v37 e37 => ?_)
            refine lv_istore hx hb (eX12_on (144, .istore 11, 2) (List.mem_of_getElem? (i := 75) rfl)) hl31 (by decide) rfl (fun ls38 hl38 => ?_)
            have h59 : v37.toInt = 59 := by omega
            refine lv_aload_n hx hb (eX12_on (146, .aload_n 0, 1) (List.mem_of_getElem? (i := 76) rfl)) rfl (lv_at hl38 5 rfl) ?_
            refine lv_iload_n hx hb (eX12_on (147, .iload_n 1, 1) (List.mem_of_getElem? (i := 77) rfl)) rfl (lv_at hl38 6 rfl) ?_
            refine lv_lload hx hb (eX12_on (148, .lload 9, 2) (List.mem_of_getElem? (i := 78) rfl)) (lv_at hl38 1 rfl) ?_
            refine lv_iload hx hb (eX12_on (150, .iload 11, 2) (List.mem_of_getElem? (i := 79) rfl)) (lv_at hl38 0 rfl) ?_
            refine tz_rowV (As := [.int zi, .long v30, .int v37]) (st := []) (b := a) (C := RX12) (Ts := gT) hx hb hml hown h2 (fun _ h => h) (hX12_locals l D cA ro sz H0 a zi v30 v37 L Z R i0 ze rr ha hi0 hze hrr (by omega) (by omega) (by omega) (by omega)) ⟨rfl, rfl⟩ ⟨by decide, by decide⟩ ⟨by decide, by decide⟩ (tb_7 186 rfl rfl) (tb_1 12 rfl rfl) (tb_7 183 rfl rfl) (tb_7 185 rfl rfl) (tb_0 19 rfl rfl) (show yX12_locals.cls ≠ "java/lang/invoke/MethodHandle" ∧ yX12_locals.cls ≠ "java/lang/invoke/VarHandle" ∧ (parseMethodDescriptor yX12_locals.desc).map (fun d => d.parameters.length) = some 3 by decide +kernel) zs_blind (zs_ob hh32 ha (show RTg[11]? = some (0, 11, 0, fsX12) from rfl) (zCX12 hKn.1)) (fun U hU hW => ⟨rfl, by rw [hU]; exact hh32.l0, zKb s U hW.alike hKn, by rw [hU]; exact jy32⟩) hh32.2.2.1 hl38.1 (Nat.le_of_ble_eq_true rfl) (eX12_on (152, .invokevirtual 246, 3) (List.mem_of_getElem? (i := 80) rfl)) (fun r39 s39 t39 lo39 g39 f39 l39 => ?_)
            obtain ⟨v39, q39, e39, z39, c39, ⟨al39, zl39, fal39, ral39, cal39, hjn39⟩⟩ := f39
            cases q39
            rw [g39] at c39
            have hh39 : zh_ok D cA RTg ro sz H0 t39.heap lo39 := ⟨z39.1, z39.2.1, l39, z39.2.2.2⟩
            have kp39 := kp32.trans (c39.mono (ms' := onM) (by decide))
            have jy39 := jy32.kept ha c39 (by decide)
            refine W.eq (g2 := F0 m 155 ls38 [.int v39]) rfl ?_
            refine ff_if_le hx hb (eX12_on (155, .ifCond .le 10, 3) (List.mem_of_getElem? (i := 81) rfl)) (tgt := 165) rfl (fun c40 => ?_) (fun c40 => ?_)
            · skip
              rw [hse, hgl] at e32
              rw [h59, hgl] at e39
              refine lv_aload_n hx hb (eX12_on (165, .aload_n 0, 1) (List.mem_of_getElem? (i := 87) rfl)) rfl (lv_at hl38 5 rfl) ?_
              refine lv_iload_n hx hb (eX12_on (166, .iload_n 1, 1) (List.mem_of_getElem? (i := 88) rfl)) rfl (lv_at hl38 6 rfl) ?_
              refine lv_lload hx hb (eX12_on (167, .lload 9, 2) (List.mem_of_getElem? (i := 89) rfl)) (lv_at hl38 1 rfl) ?_
              refine lv_iload hx hb (eX12_on (169, .iload 11, 2) (List.mem_of_getElem? (i := 90) rfl)) (lv_at hl38 0 rfl) ?_
              refine tz_rowV (As := [.int zi, .long v30, .int v37]) (st := []) (b := a) (C := RX12) (Ts := gT) hx hb hml hown h2 (fun _ h => h) (hX12_skipped l D cA ro sz H0 a zi v30 v37 L Z R i0 ze rr ha hi0 hze hrr hoA hoB (by omega) (by omega) (by omega) (by omega)) ⟨rfl, rfl⟩ ⟨by decide, by decide⟩ ⟨by decide, by decide⟩ (tb_7 223 rfl rfl) (tb_1 12 rfl rfl) (tb_7 220 rfl rfl) (tb_7 222 rfl rfl) (tb_0 26 rfl rfl) (show yX12_skipped.cls ≠ "java/lang/invoke/MethodHandle" ∧ yX12_skipped.cls ≠ "java/lang/invoke/VarHandle" ∧ (parseMethodDescriptor yX12_skipped.desc).map (fun d => d.parameters.length) = some 3 by decide +kernel) zs_blind (zs_ob hh39 ha (show RTg[11]? = some (0, 11, 0, fsX12) from rfl) (zCX12 hKn.1)) (fun U hU hW => ⟨rfl, by rw [hU]; exact hh39.l0, zKb s U hW.alike hKn, by rw [hU]; exact jy39⟩) hh39.2.2.1 hl38.1 (Nat.le_of_ble_eq_true rfl) (eX12_on (171, .invokevirtual 269, 3) (List.mem_of_getElem? (i := 91) rfl)) (fun r41 s41 t41 lo41 g41 f41 l41 => ?_)
              obtain ⟨v41, q41, e41, z41, c41⟩ := f41
              cases q41
              rw [g41] at c41
              have hh41 : zh_ok D cA RTg ro sz H0 t41.heap lo41 := ⟨z41.1, z41.2.1, l41, z41.2.2.2⟩
              have kp41 := kp39.trans (c41.mono (ms' := onM) (by decide))
              have jy41 := jy39.kept ha c41 (by decide)
              refine W.eq (g2 := F0 m 174 ls38 [.long v41]) rfl ?_
              exact W.lret hx hb hr (fun t ht hW => ⟨_, rfl, Or.inr ⟨hv9, _, hg9, Or.inr ⟨hdk, Or.inr ⟨by omega, Or.inl ⟨by omega, Or.inr ⟨by omega, by have h9 := e41; rw [h59, hgl] at h9; exact h9⟩⟩⟩⟩⟩, by rw [ht]; exact hh41.l0, by rw [ht]; exact kp41⟩) hh41.2.2.1 (eX12_on (174, .lreturn, 1) (List.mem_of_getElem? (i := 92) rfl))
            · skip
              refine lv_aload_n hx hb (eX12_on (158, .aload_n 0, 1) (List.mem_of_getElem? (i := 82) rfl)) rfl (lv_at hl38 5 rfl) ?_
              refine tz_get (r := 11) (k := 25) (t := (70, 0, 0)) hx hb hh39 ha rfl rfl (hcl11 50 25 (70, 0, 0) (by decide) rfl).1 fal39 (eX12_on (159, .getfield 50, 3) (List.mem_of_getElem? (i := 83) rfl)) ?_
              refine ff_iconst hx hb (eX12_on (162, .iconst 0, 1) (List.mem_of_getElem? (i := 84) rfl)) (by decide) (by decide) (fun v42 e42 => ?_)
              obtain ⟨xv, hzx, hAx⟩ := hjn39 0 (by omega)
              refine tz_lald hx hb (zAr hKn.1 1 (by decide)) cal39 (by omega) (by omega) (eX12_on (163, .laload, 1) (List.mem_of_getElem? (i := 85) rfl)) ?_
              rw [show v42.toNatClampNeg = 0 by show v42.toInt.toNat = 0; omega, hzx]
              exact W.lret hx hb hr (fun t ht hW => ⟨_, rfl, Or.inr ⟨hv9, _, hg9, Or.inr ⟨hdk, by rw [← hgl]; exact Or.inr ⟨by rw [← hse]; exact (by omega), Or.inl ⟨by omega, Or.inl (by rw [← h59]; exact hAx)⟩⟩⟩⟩, by rw [ht]; exact hh39.l0, by rw [ht]; exact kp39⟩) hh39.2.2.1 (eX12_on (164, .lreturn, 1) (List.mem_of_getElem? (i := 86) rfl))
        · skip
          refine lv_aload_n hx hb (eX12_on (128, .aload_n 0, 1) (List.mem_of_getElem? (i := 66) rfl)) rfl (lv_at hl31 5 rfl) ?_
          refine tz_get (r := 11) (k := 25) (t := (70, 0, 0)) hx hb hh32 ha rfl rfl (hcl11 50 25 (70, 0, 0) (by decide) rfl).1 fal32 (eX12_on (129, .getfield 50, 3) (List.mem_of_getElem? (i := 67) rfl)) ?_
          refine ff_iconst hx hb (eX12_on (132, .iconst 0, 1) (List.mem_of_getElem? (i := 68) rfl)) (by decide) (by decide) (fun v43 e43 => ?_)
          obtain ⟨xv, hzx, hAx⟩ := hjn32 0 (by omega)
          refine tz_lald hx hb (zAr hKn.1 1 (by decide)) cal32 (by omega) (by omega) (eX12_on (133, .laload, 1) (List.mem_of_getElem? (i := 69) rfl)) ?_
          rw [show v43.toNatClampNeg = 0 by show v43.toInt.toNat = 0; omega, hzx]
          exact W.lret hx hb hr (fun t ht hW => ⟨_, rfl, Or.inr ⟨hv9, _, hg9, Or.inr ⟨hdk, by rw [← hgl, ← hse]; exact Or.inl hAx⟩⟩, by rw [ht]; exact hh32.l0, by rw [ht]; exact kp32⟩) hh32.2.2.1 (eX12_on (134, .lreturn, 1) (List.mem_of_getElem? (i := 70) rfl))
      · skip
        refine ff_ldc2 (n := (-9223372036854775808)) hx hb hown h2 (clX12_ok 83 (-9223372036854775808) (List.mem_of_getElem? (i := 2) rfl)) (eX12_on (94, .ldc2_w 83, 3) (List.mem_of_getElem? (i := 48) rfl)) (fun v44 e44 => ?_)
        exact W.lret hx hb hr (fun t ht hW => ⟨_, rfl, Or.inr ⟨hv9, _, hg9, Or.inl ⟨by unfold dOK; omega, by unfold NONEI; omega⟩⟩, by rw [ht]; exact hh24.l0, by rw [ht]; exact kp17⟩) hh24.2.2.1 (eX12_on (97, .lreturn, 1) (List.mem_of_getElem? (i := 49) rfl))
  · skip
    refine ff_ldc2 (n := (-9223372036854775808)) hx hb hown h2 (clX12_ok 83 (-9223372036854775808) (List.mem_of_getElem? (i := 2) rfl)) (eX12_on (59, .ldc2_w 83, 3) (List.mem_of_getElem? (i := 31) rfl)) (fun v45 e45 => ?_)
    exact W.lret hx hb hr (fun t ht hW => ⟨_, rfl, Or.inl ⟨fun g9 => by have g1 := g9.1; have g2 := g9.2.1; omega, by unfold NONEI; omega⟩, by rw [ht]; exact hh15.l0, by rw [ht]; exact kp3⟩) hh15.2.2.1 (eX12_on (62, .lreturn, 1) (List.mem_of_getElem? (i := 32) rfl))
