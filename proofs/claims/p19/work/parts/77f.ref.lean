def zg_cvQ (D : va_G) (cA : Nat → ClassId) (ro : Nat → Option Nat) (sz : Nat) (H0 : Heap) (a : Nat) (n : Int) : Array Value → State → Outcome → State → Prop := fun _ st oc t => oc = .returned none ∧ zh_ok D cA RTg ro sz H0 t.heap [] ∧ (∀ q : Nat, q ≠ a → t.heap[q]? = st.heap[q]?) ∧ zc_kept D RTg ro [(11, 18), (11, 19), (11, 20)] st.heap t.heap ∧ ∃ (y : Int64) (m d : Int32), zh_f D t.heap a 11 18 = .long y ∧ zh_f D t.heap a 11 19 = .int m ∧ zh_f D t.heap a 11 20 = .int d ∧ cvP n y.toInt m.toInt d.toInt
def zg_wyQ (D : va_G) (cA : Nat → ClassId) (ro : Nat → Option Nat) (sz : Nat) (H0 : Heap) (a : Nat) (n : Int) : Array Value → State → Outcome → State → Prop := fun _ st oc t => ∃ r : Int64, oc = .returned (some (.long r)) ∧ zh_ok D cA RTg ro sz H0 t.heap [] ∧ (∀ q : Nat, q ≠ a → t.heap[q]? = st.heap[q]?) ∧ zc_kept D RTg ro [(11, 18), (11, 19), (11, 20)] st.heap t.heap ∧ isY (thI n) r.toInt ∧ -1000000 ≤ r.toInt ∧ r.toInt ≤ 1000000
def zg_idQ (n : Int) : Array Value → State → Outcome → State → Prop := fun _ st oc t => t.heap = st.heap ∧ ∃ r : Int32, oc = .returned (some (.int r)) ∧ ((r.toInt = 1 ∧ -365961662 ≤ n ∧ n ≤ 364522971) ∨ (r.toInt = 0 ∧ (n < -365961662 ∨ 364522971 < n)))
set_option maxRecDepth 100000 in
set_option maxHeartbeats 4000000 in
theorem hX12_dayOfW (l : Launch) (y : Int64) (mo : Int32) (dd : Int32) (hy1 : -2147483650 ≤ y.toInt) (hy2 : y.toInt ≤ 2147483650) (hm1 : 1 ≤ mo.toInt) (hm2 : mo.toInt ≤ 12) (hd1 : 1 ≤ dd.toInt) (hd2 : dd.toInt ≤ 31) : zu_M l yX12_dayOf (gW yX12_dayOf cX12_dayOf 12 (some .long)) { frames := 1, cells := 0, slots := 0, locals := 25 } (fun vs => vs = [.long y, .int mo, .int dd]) zT (fun _ w => ∃ r : Int64, w = .long r ∧ r.toInt = nuI y.toInt mo.toInt dd.toInt) := by
  refine zy_ofW (cc := cX12_dayOf) (maxL := 12) (ret := (some .long)) (by decide +kernel) rfl ?_
  intro p e s m args below meth c s1 B hml hv
  obtain ⟨vs, rfl, rfl, hKp⟩ := hv
  have hx := B.exec
  have hb := B.bytes
  have hr := B.returns
  have hlk := B.notSynchronized
  have hts0 := atoms_spec (ws := gW yX12_dayOf cX12_dayOf 12 (some .long)) B.pre
  have h2 : ∀ w ∈ gT, w.before ([.long y, .int mo, .int dd] : List Value).toArray s = true := fun w hw => hts0 w (List.mem_cons_of_mem _ hw)
  have hown : s.vm.findClass RX12 = some m.cls := findClass_of_methodNamed B.named
  have hl := lv_entry [.long y, .int mo, .int dd] (n := 12) (Nat.le_of_ble_eq_true rfl)
  rw [lg_entry_eq]
  generalize (lg_sl [.long y, .int mo, .int dd] ++ List.replicate (12 - (lg_sl [.long y, .int mo, .int dd]).length) Slot.unset).toArray = ls at hl ⊢
  have b_y := zn_i64 y
  have b_mo := zn_i32 mo
  have b_dd := zn_i32 dd
  refine lv_iload_n hx hb (eX12_dayOf (0, .iload_n 2, 1) (List.mem_of_getElem? (i := 0) rfl)) rfl (lv_at hl 1 rfl) ?_
  refine ff_iconst hx hb (eX12_dayOf (1, .iconst 2, 1) (List.mem_of_getElem? (i := 1) rfl)) (by decide) (by decide) (fun v1 e1 => ?_)
  refine ff_icmp_gt hx hb (eX12_dayOf (2, .if_icmp .gt 9, 3) (List.mem_of_getElem? (i := 2) rfl)) (tgt := 11) rfl (fun c2 => ?_) (fun c2 => ?_)
  · skip
    refine lv_lload_n hx hb (eX12_dayOf (11, .lload_n 0, 1) (List.mem_of_getElem? (i := 7) rfl)) rfl (lv_at hl 0 rfl) ?_
    refine lv_lstore hx hb (eX12_dayOf (12, .lstore 4, 2) (List.mem_of_getElem? (i := 8) rfl)) hl (by decide) rfl (fun ls3 hl3 => ?_)
    refine lv_lload hx hb (eX12_dayOf (14, .lload 4, 2) (List.mem_of_getElem? (i := 9) rfl)) (lv_at hl3 0 rfl) ?_
    refine ff_ldc2 (n := 400) hx hb hown h2 (clX12_ok 93 400 (List.mem_of_getElem? (i := 5) rfl)) (eX12_dayOf (16, .ldc2_w 93, 3) (List.mem_of_getElem? (i := 10) rfl)) (fun v4 e4 => ?_)
    refine zu_S (vs := [.long y, .long v4]) (rest := []) hx hb hml hown hts0 zu_BT (hX12_down l y v4 (by omega) (by omega) (by omega)) ⟨rfl, rfl⟩ ⟨by decide, by decide⟩ ⟨by decide, by decide⟩ (tb_6 139 rfl rfl) (tb_1 12 rfl rfl) (tb_6 137 rfl rfl) (tb_6 138 rfl rfl) (show yX12_down.cls ≠ "java/lang/invoke/MethodHandle" ∧ yX12_down.cls ≠ "java/lang/invoke/VarHandle" ∧ (parseMethodDescriptor yX12_down.desc).map (fun d => d.parameters.length) = some 2 by decide +kernel) rfl (fun _ _ _ => trivial) hl3.1 (Nat.le_of_ble_eq_true rfl) (eX12_dayOf (19, .invokestatic 99, 3) (List.mem_of_getElem? (i := 11) rfl)) (fun w5 f5 => ?_)
    obtain ⟨v5, rfl, e5⟩ := f5
    refine lv_lstore hx hb (eX12_dayOf (22, .lstore 6, 2) (List.mem_of_getElem? (i := 12) rfl)) hl3 (by decide) rfl (fun ls6 hl6 => ?_)
    refine lv_lload hx hb (eX12_dayOf (24, .lload 4, 2) (List.mem_of_getElem? (i := 13) rfl)) (lv_at hl6 1 rfl) ?_
    refine lv_lload hx hb (eX12_dayOf (26, .lload 6, 2) (List.mem_of_getElem? (i := 14) rfl)) (lv_at hl6 0 rfl) ?_
    refine ff_ldc2 (n := 400) hx hb hown h2 (clX12_ok 93 400 (List.mem_of_getElem? (i := 5) rfl)) (eX12_dayOf (28, .ldc2_w 93, 3) (List.mem_of_getElem? (i := 15) rfl)) (fun v7 e7 => ?_)
    refine ff_lmulR hx hb (eX12_dayOf (31, .lmul, 1) (List.mem_of_getElem? (i := 16) rfl)) (e7) (by omega) (by omega) (fun v8 e8 => ?_)
    refine ff_lsub hx hb (eX12_dayOf (32, .lsub, 1) (List.mem_of_getElem? (i := 17) rfl)) (by omega) (by omega) (fun v9 e9 => ?_)
    refine lv_lstore hx hb (eX12_dayOf (33, .lstore 8, 2) (List.mem_of_getElem? (i := 18) rfl)) hl6 (by decide) rfl (fun ls10 hl10 => ?_)
    refine ff_ldc2 (n := 153) hx hb hown h2 (clX12_ok 103 153 (List.mem_of_getElem? (i := 6) rfl)) (eX12_dayOf (35, .ldc2_w 103, 3) (List.mem_of_getElem? (i := 19) rfl)) (fun v11 e11 => ?_)
    refine lv_iload_n hx hb (eX12_dayOf (38, .iload_n 2, 1) (List.mem_of_getElem? (i := 20) rfl)) rfl (lv_at hl10 4 rfl) ?_
    refine lv_iload_n hx hb (eX12_dayOf (39, .iload_n 2, 1) (List.mem_of_getElem? (i := 21) rfl)) rfl (lv_at hl10 4 rfl) ?_
    refine ff_iconst hx hb (eX12_dayOf (40, .iconst 2, 1) (List.mem_of_getElem? (i := 22) rfl)) (by decide) (by decide) (fun v12 e12 => ?_)
    refine ff_icmp_le hx hb (eX12_dayOf (41, .if_icmp .le 8, 3) (List.mem_of_getElem? (i := 23) rfl)) (tgt := 49) rfl (fun c13 => ?_) (fun c13 => ?_)
    · skip
      refine ff_bipush hx hb (eX12_dayOf (49, .bipush 9, 2) (List.mem_of_getElem? (i := 26) rfl)) (by decide) (by decide) (fun v14 e14 => ?_)
      refine ff_iadd hx hb (eX12_dayOf (51, .iadd, 1) (List.mem_of_getElem? (i := 27) rfl)) (by omega) (by omega) (fun v15 e15 => ?_)
      refine ff_i2l hx hb (eX12_dayOf (52, .i2l, 1) (List.mem_of_getElem? (i := 28) rfl)) (fun v16 e16 => ?_)
      refine ff_lmulL hx hb (eX12_dayOf (53, .lmul, 1) (List.mem_of_getElem? (i := 29) rfl)) (e11) (by omega) (by omega) (fun v17 e17 => ?_)
      refine ff_ldc2 (n := 2) hx hb hown h2 (clX12_ok 105 2 (List.mem_of_getElem? (i := 7) rfl)) (eX12_dayOf (54, .ldc2_w 105, 3) (List.mem_of_getElem? (i := 30) rfl)) (fun v18 e18 => ?_)
      refine ff_ladd hx hb (eX12_dayOf (57, .ladd, 1) (List.mem_of_getElem? (i := 31) rfl)) (by omega) (by omega) (fun v19 e19 => ?_)
      refine ff_ldc2 (n := 5) hx hb hown h2 (clX12_ok 107 5 (List.mem_of_getElem? (i := 8) rfl)) (eX12_dayOf (58, .ldc2_w 107, 3) (List.mem_of_getElem? (i := 32) rfl)) (fun v20 e20 => ?_)
      refine ff_ldivP hx hb (eX12_dayOf (61, .ldiv, 1) (List.mem_of_getElem? (i := 33) rfl)) (by omega) (e20) (by decide) (fun v21 e21 => ?_)
      refine lv_iload_n hx hb (eX12_dayOf (62, .iload_n 3, 1) (List.mem_of_getElem? (i := 34) rfl)) rfl (lv_at hl10 5 rfl) ?_
      refine ff_i2l hx hb (eX12_dayOf (63, .i2l, 1) (List.mem_of_getElem? (i := 35) rfl)) (fun v22 e22 => ?_)
      refine ff_ladd hx hb (eX12_dayOf (64, .ladd, 1) (List.mem_of_getElem? (i := 36) rfl)) (by omega) (by omega) (fun v23 e23 => ?_)
      refine ff_lconst hx hb (eX12_dayOf (65, .lconst 1, 1) (List.mem_of_getElem? (i := 37) rfl)) rfl (fun v24 e24 => ?_)
      refine ff_lsub hx hb (eX12_dayOf (66, .lsub, 1) (List.mem_of_getElem? (i := 38) rfl)) (by omega) (by omega) (fun v25 e25 => ?_)
      refine lv_lstore hx hb (eX12_dayOf (67, .lstore 10, 2) (List.mem_of_getElem? (i := 39) rfl)) hl10 (by decide) rfl (fun ls26 hl26 => ?_)
      refine lv_lload hx hb (eX12_dayOf (69, .lload 6, 2) (List.mem_of_getElem? (i := 40) rfl)) (lv_at hl26 2 rfl) ?_
      refine ff_ldc2 (n := 146097) hx hb hown h2 (clX12_ok 109 146097 (List.mem_of_getElem? (i := 9) rfl)) (eX12_dayOf (71, .ldc2_w 109, 3) (List.mem_of_getElem? (i := 41) rfl)) (fun v27 e27 => ?_)
      refine ff_lmulR hx hb (eX12_dayOf (74, .lmul, 1) (List.mem_of_getElem? (i := 42) rfl)) (e27) (by omega) (by omega) (fun v28 e28 => ?_)
      refine lv_lload hx hb (eX12_dayOf (75, .lload 8, 2) (List.mem_of_getElem? (i := 43) rfl)) (lv_at hl26 1 rfl) ?_
      refine ff_ldc2 (n := 365) hx hb hown h2 (clX12_ok 111 365 (List.mem_of_getElem? (i := 10) rfl)) (eX12_dayOf (77, .ldc2_w 111, 3) (List.mem_of_getElem? (i := 44) rfl)) (fun v29 e29 => ?_)
      refine ff_lmulR hx hb (eX12_dayOf (80, .lmul, 1) (List.mem_of_getElem? (i := 45) rfl)) (e29) (by omega) (by omega) (fun v30 e30 => ?_)
      refine ff_ladd hx hb (eX12_dayOf (81, .ladd, 1) (List.mem_of_getElem? (i := 46) rfl)) (by omega) (by omega) (fun v31 e31 => ?_)
      refine lv_lload hx hb (eX12_dayOf (82, .lload 8, 2) (List.mem_of_getElem? (i := 47) rfl)) (lv_at hl26 1 rfl) ?_
      refine ff_ldc2 (n := 4) hx hb hown h2 (clX12_ok 89 4 (List.mem_of_getElem? (i := 3) rfl)) (eX12_dayOf (84, .ldc2_w 89, 3) (List.mem_of_getElem? (i := 48) rfl)) (fun v32 e32 => ?_)
      refine ff_ldivP hx hb (eX12_dayOf (87, .ldiv, 1) (List.mem_of_getElem? (i := 49) rfl)) (by omega) (e32) (by decide) (fun v33 e33 => ?_)
      refine ff_ladd hx hb (eX12_dayOf (88, .ladd, 1) (List.mem_of_getElem? (i := 50) rfl)) (by omega) (by omega) (fun v34 e34 => ?_)
      refine lv_lload hx hb (eX12_dayOf (89, .lload 8, 2) (List.mem_of_getElem? (i := 51) rfl)) (lv_at hl26 1 rfl) ?_
      refine ff_ldc2 (n := 100) hx hb hown h2 (clX12_ok 91 100 (List.mem_of_getElem? (i := 4) rfl)) (eX12_dayOf (91, .ldc2_w 91, 3) (List.mem_of_getElem? (i := 52) rfl)) (fun v35 e35 => ?_)
      refine ff_ldivP hx hb (eX12_dayOf (94, .ldiv, 1) (List.mem_of_getElem? (i := 53) rfl)) (by omega) (e35) (by decide) (fun v36 e36 => ?_)
      refine ff_lsub hx hb (eX12_dayOf (95, .lsub, 1) (List.mem_of_getElem? (i := 54) rfl)) (by omega) (by omega) (fun v37 e37 => ?_)
      refine lv_lload hx hb (eX12_dayOf (96, .lload 10, 2) (List.mem_of_getElem? (i := 55) rfl)) (lv_at hl26 0 rfl) ?_
      refine ff_ladd hx hb (eX12_dayOf (98, .ladd, 1) (List.mem_of_getElem? (i := 56) rfl)) (by omega) (by omega) (fun v38 e38 => ?_)
      refine ff_ldc2 (n := 719468) hx hb hown h2 (clX12_ok 113 719468 (List.mem_of_getElem? (i := 11) rfl)) (eX12_dayOf (99, .ldc2_w 113, 3) (List.mem_of_getElem? (i := 57) rfl)) (fun v39 e39 => ?_)
      refine ff_lsub hx hb (eX12_dayOf (102, .lsub, 1) (List.mem_of_getElem? (i := 58) rfl)) (by omega) (by omega) (fun v40 e40 => ?_)
      exact zu_lret (y := yX12_dayOf) (ws := []) (rm := {}) hx hb hr hlk ⟨_, rfl, by (have h9 := nu_ref (y := y.toInt) (m := mo.toInt) (d := dd.toInt) (era := v5.toInt) (yo := v9.toInt) (pl := v25.toInt) hm1 hm2 (by omega) (by omega) (fun _ => ⟨by omega, by omega⟩) (fun _ => ⟨by omega, by omega⟩); omega)⟩ (eX12_dayOf (103, .lreturn, 1) (List.mem_of_getElem? (i := 59) rfl))
    · skip
      refine ff_bipush hx hb (eX12_dayOf (44, .bipush (-3), 2) (List.mem_of_getElem? (i := 24) rfl)) (by decide) (by decide) (fun v41 e41 => ?_)
      refine lv_goto hx hb (eX12_dayOf (46, .goto 5, 3) (List.mem_of_getElem? (i := 25) rfl)) (tgt := 51) rfl ?_
      refine ff_iadd hx hb (eX12_dayOf (51, .iadd, 1) (List.mem_of_getElem? (i := 27) rfl)) (by omega) (by omega) (fun v42 e42 => ?_)
      refine ff_i2l hx hb (eX12_dayOf (52, .i2l, 1) (List.mem_of_getElem? (i := 28) rfl)) (fun v43 e43 => ?_)
      refine ff_lmulL hx hb (eX12_dayOf (53, .lmul, 1) (List.mem_of_getElem? (i := 29) rfl)) (e11) (by omega) (by omega) (fun v44 e44 => ?_)
      refine ff_ldc2 (n := 2) hx hb hown h2 (clX12_ok 105 2 (List.mem_of_getElem? (i := 7) rfl)) (eX12_dayOf (54, .ldc2_w 105, 3) (List.mem_of_getElem? (i := 30) rfl)) (fun v45 e45 => ?_)
      refine ff_ladd hx hb (eX12_dayOf (57, .ladd, 1) (List.mem_of_getElem? (i := 31) rfl)) (by omega) (by omega) (fun v46 e46 => ?_)
      refine ff_ldc2 (n := 5) hx hb hown h2 (clX12_ok 107 5 (List.mem_of_getElem? (i := 8) rfl)) (eX12_dayOf (58, .ldc2_w 107, 3) (List.mem_of_getElem? (i := 32) rfl)) (fun v47 e47 => ?_)
      refine ff_ldivP hx hb (eX12_dayOf (61, .ldiv, 1) (List.mem_of_getElem? (i := 33) rfl)) (by omega) (e47) (by decide) (fun v48 e48 => ?_)
      refine lv_iload_n hx hb (eX12_dayOf (62, .iload_n 3, 1) (List.mem_of_getElem? (i := 34) rfl)) rfl (lv_at hl10 5 rfl) ?_
      refine ff_i2l hx hb (eX12_dayOf (63, .i2l, 1) (List.mem_of_getElem? (i := 35) rfl)) (fun v49 e49 => ?_)
      refine ff_ladd hx hb (eX12_dayOf (64, .ladd, 1) (List.mem_of_getElem? (i := 36) rfl)) (by omega) (by omega) (fun v50 e50 => ?_)
      refine ff_lconst hx hb (eX12_dayOf (65, .lconst 1, 1) (List.mem_of_getElem? (i := 37) rfl)) rfl (fun v51 e51 => ?_)
      refine ff_lsub hx hb (eX12_dayOf (66, .lsub, 1) (List.mem_of_getElem? (i := 38) rfl)) (by omega) (by omega) (fun v52 e52 => ?_)
      refine lv_lstore hx hb (eX12_dayOf (67, .lstore 10, 2) (List.mem_of_getElem? (i := 39) rfl)) hl10 (by decide) rfl (fun ls53 hl53 => ?_)
      refine lv_lload hx hb (eX12_dayOf (69, .lload 6, 2) (List.mem_of_getElem? (i := 40) rfl)) (lv_at hl53 2 rfl) ?_
      refine ff_ldc2 (n := 146097) hx hb hown h2 (clX12_ok 109 146097 (List.mem_of_getElem? (i := 9) rfl)) (eX12_dayOf (71, .ldc2_w 109, 3) (List.mem_of_getElem? (i := 41) rfl)) (fun v54 e54 => ?_)
      refine ff_lmulR hx hb (eX12_dayOf (74, .lmul, 1) (List.mem_of_getElem? (i := 42) rfl)) (e54) (by omega) (by omega) (fun v55 e55 => ?_)
      refine lv_lload hx hb (eX12_dayOf (75, .lload 8, 2) (List.mem_of_getElem? (i := 43) rfl)) (lv_at hl53 1 rfl) ?_
      refine ff_ldc2 (n := 365) hx hb hown h2 (clX12_ok 111 365 (List.mem_of_getElem? (i := 10) rfl)) (eX12_dayOf (77, .ldc2_w 111, 3) (List.mem_of_getElem? (i := 44) rfl)) (fun v56 e56 => ?_)
      refine ff_lmulR hx hb (eX12_dayOf (80, .lmul, 1) (List.mem_of_getElem? (i := 45) rfl)) (e56) (by omega) (by omega) (fun v57 e57 => ?_)
      refine ff_ladd hx hb (eX12_dayOf (81, .ladd, 1) (List.mem_of_getElem? (i := 46) rfl)) (by omega) (by omega) (fun v58 e58 => ?_)
      refine lv_lload hx hb (eX12_dayOf (82, .lload 8, 2) (List.mem_of_getElem? (i := 47) rfl)) (lv_at hl53 1 rfl) ?_
      refine ff_ldc2 (n := 4) hx hb hown h2 (clX12_ok 89 4 (List.mem_of_getElem? (i := 3) rfl)) (eX12_dayOf (84, .ldc2_w 89, 3) (List.mem_of_getElem? (i := 48) rfl)) (fun v59 e59 => ?_)
      refine ff_ldivP hx hb (eX12_dayOf (87, .ldiv, 1) (List.mem_of_getElem? (i := 49) rfl)) (by omega) (e59) (by decide) (fun v60 e60 => ?_)
      refine ff_ladd hx hb (eX12_dayOf (88, .ladd, 1) (List.mem_of_getElem? (i := 50) rfl)) (by omega) (by omega) (fun v61 e61 => ?_)
      refine lv_lload hx hb (eX12_dayOf (89, .lload 8, 2) (List.mem_of_getElem? (i := 51) rfl)) (lv_at hl53 1 rfl) ?_
      refine ff_ldc2 (n := 100) hx hb hown h2 (clX12_ok 91 100 (List.mem_of_getElem? (i := 4) rfl)) (eX12_dayOf (91, .ldc2_w 91, 3) (List.mem_of_getElem? (i := 52) rfl)) (fun v62 e62 => ?_)
      refine ff_ldivP hx hb (eX12_dayOf (94, .ldiv, 1) (List.mem_of_getElem? (i := 53) rfl)) (by omega) (e62) (by decide) (fun v63 e63 => ?_)
      refine ff_lsub hx hb (eX12_dayOf (95, .lsub, 1) (List.mem_of_getElem? (i := 54) rfl)) (by omega) (by omega) (fun v64 e64 => ?_)
      refine lv_lload hx hb (eX12_dayOf (96, .lload 10, 2) (List.mem_of_getElem? (i := 55) rfl)) (lv_at hl53 0 rfl) ?_
      refine ff_ladd hx hb (eX12_dayOf (98, .ladd, 1) (List.mem_of_getElem? (i := 56) rfl)) (by omega) (by omega) (fun v65 e65 => ?_)
      refine ff_ldc2 (n := 719468) hx hb hown h2 (clX12_ok 113 719468 (List.mem_of_getElem? (i := 11) rfl)) (eX12_dayOf (99, .ldc2_w 113, 3) (List.mem_of_getElem? (i := 57) rfl)) (fun v66 e66 => ?_)
      refine ff_lsub hx hb (eX12_dayOf (102, .lsub, 1) (List.mem_of_getElem? (i := 58) rfl)) (by omega) (by omega) (fun v67 e67 => ?_)
      exact zu_lret (y := yX12_dayOf) (ws := []) (rm := {}) hx hb hr hlk ⟨_, rfl, by (have h9 := nu_ref (y := y.toInt) (m := mo.toInt) (d := dd.toInt) (era := v5.toInt) (yo := v9.toInt) (pl := v52.toInt) hm1 hm2 (by omega) (by omega) (fun _ => ⟨by omega, by omega⟩) (fun _ => ⟨by omega, by omega⟩); omega)⟩ (eX12_dayOf (103, .lreturn, 1) (List.mem_of_getElem? (i := 59) rfl))
  · skip
    refine lv_lload_n hx hb (eX12_dayOf (5, .lload_n 0, 1) (List.mem_of_getElem? (i := 3) rfl)) rfl (lv_at hl 0 rfl) ?_
    refine ff_lconst hx hb (eX12_dayOf (6, .lconst 1, 1) (List.mem_of_getElem? (i := 4) rfl)) rfl (fun v68 e68 => ?_)
    refine ff_lsub hx hb (eX12_dayOf (7, .lsub, 1) (List.mem_of_getElem? (i := 5) rfl)) (by omega) (by omega) (fun v69 e69 => ?_)
    refine lv_goto hx hb (eX12_dayOf (8, .goto 4, 3) (List.mem_of_getElem? (i := 6) rfl)) (tgt := 12) rfl ?_
    refine lv_lstore hx hb (eX12_dayOf (12, .lstore 4, 2) (List.mem_of_getElem? (i := 8) rfl)) hl (by decide) rfl (fun ls70 hl70 => ?_)
    refine lv_lload hx hb (eX12_dayOf (14, .lload 4, 2) (List.mem_of_getElem? (i := 9) rfl)) (lv_at hl70 0 rfl) ?_
    refine ff_ldc2 (n := 400) hx hb hown h2 (clX12_ok 93 400 (List.mem_of_getElem? (i := 5) rfl)) (eX12_dayOf (16, .ldc2_w 93, 3) (List.mem_of_getElem? (i := 10) rfl)) (fun v71 e71 => ?_)
    refine zu_S (vs := [.long v69, .long v71]) (rest := []) hx hb hml hown hts0 zu_BT (hX12_down l v69 v71 (by omega) (by omega) (by omega)) ⟨rfl, rfl⟩ ⟨by decide, by decide⟩ ⟨by decide, by decide⟩ (tb_6 139 rfl rfl) (tb_1 12 rfl rfl) (tb_6 137 rfl rfl) (tb_6 138 rfl rfl) (show yX12_down.cls ≠ "java/lang/invoke/MethodHandle" ∧ yX12_down.cls ≠ "java/lang/invoke/VarHandle" ∧ (parseMethodDescriptor yX12_down.desc).map (fun d => d.parameters.length) = some 2 by decide +kernel) rfl (fun _ _ _ => trivial) hl70.1 (Nat.le_of_ble_eq_true rfl) (eX12_dayOf (19, .invokestatic 99, 3) (List.mem_of_getElem? (i := 11) rfl)) (fun w72 f72 => ?_)
    obtain ⟨v72, rfl, e72⟩ := f72
    refine lv_lstore hx hb (eX12_dayOf (22, .lstore 6, 2) (List.mem_of_getElem? (i := 12) rfl)) hl70 (by decide) rfl (fun ls73 hl73 => ?_)
    refine lv_lload hx hb (eX12_dayOf (24, .lload 4, 2) (List.mem_of_getElem? (i := 13) rfl)) (lv_at hl73 1 rfl) ?_
    refine lv_lload hx hb (eX12_dayOf (26, .lload 6, 2) (List.mem_of_getElem? (i := 14) rfl)) (lv_at hl73 0 rfl) ?_
    refine ff_ldc2 (n := 400) hx hb hown h2 (clX12_ok 93 400 (List.mem_of_getElem? (i := 5) rfl)) (eX12_dayOf (28, .ldc2_w 93, 3) (List.mem_of_getElem? (i := 15) rfl)) (fun v74 e74 => ?_)
    refine ff_lmulR hx hb (eX12_dayOf (31, .lmul, 1) (List.mem_of_getElem? (i := 16) rfl)) (e74) (by omega) (by omega) (fun v75 e75 => ?_)
    refine ff_lsub hx hb (eX12_dayOf (32, .lsub, 1) (List.mem_of_getElem? (i := 17) rfl)) (by omega) (by omega) (fun v76 e76 => ?_)
    refine lv_lstore hx hb (eX12_dayOf (33, .lstore 8, 2) (List.mem_of_getElem? (i := 18) rfl)) hl73 (by decide) rfl (fun ls77 hl77 => ?_)
    refine ff_ldc2 (n := 153) hx hb hown h2 (clX12_ok 103 153 (List.mem_of_getElem? (i := 6) rfl)) (eX12_dayOf (35, .ldc2_w 103, 3) (List.mem_of_getElem? (i := 19) rfl)) (fun v78 e78 => ?_)
    refine lv_iload_n hx hb (eX12_dayOf (38, .iload_n 2, 1) (List.mem_of_getElem? (i := 20) rfl)) rfl (lv_at hl77 4 rfl) ?_
    refine lv_iload_n hx hb (eX12_dayOf (39, .iload_n 2, 1) (List.mem_of_getElem? (i := 21) rfl)) rfl (lv_at hl77 4 rfl) ?_
    refine ff_iconst hx hb (eX12_dayOf (40, .iconst 2, 1) (List.mem_of_getElem? (i := 22) rfl)) (by decide) (by decide) (fun v79 e79 => ?_)
    refine ff_icmp_le hx hb (eX12_dayOf (41, .if_icmp .le 8, 3) (List.mem_of_getElem? (i := 23) rfl)) (tgt := 49) rfl (fun c80 => ?_) (fun c80 => ?_)
    · skip
      refine ff_bipush hx hb (eX12_dayOf (49, .bipush 9, 2) (List.mem_of_getElem? (i := 26) rfl)) (by decide) (by decide) (fun v81 e81 => ?_)
      refine ff_iadd hx hb (eX12_dayOf (51, .iadd, 1) (List.mem_of_getElem? (i := 27) rfl)) (by omega) (by omega) (fun v82 e82 => ?_)
      refine ff_i2l hx hb (eX12_dayOf (52, .i2l, 1) (List.mem_of_getElem? (i := 28) rfl)) (fun v83 e83 => ?_)
      refine ff_lmulL hx hb (eX12_dayOf (53, .lmul, 1) (List.mem_of_getElem? (i := 29) rfl)) (e78) (by omega) (by omega) (fun v84 e84 => ?_)
      refine ff_ldc2 (n := 2) hx hb hown h2 (clX12_ok 105 2 (List.mem_of_getElem? (i := 7) rfl)) (eX12_dayOf (54, .ldc2_w 105, 3) (List.mem_of_getElem? (i := 30) rfl)) (fun v85 e85 => ?_)
      refine ff_ladd hx hb (eX12_dayOf (57, .ladd, 1) (List.mem_of_getElem? (i := 31) rfl)) (by omega) (by omega) (fun v86 e86 => ?_)
      refine ff_ldc2 (n := 5) hx hb hown h2 (clX12_ok 107 5 (List.mem_of_getElem? (i := 8) rfl)) (eX12_dayOf (58, .ldc2_w 107, 3) (List.mem_of_getElem? (i := 32) rfl)) (fun v87 e87 => ?_)
      refine ff_ldivP hx hb (eX12_dayOf (61, .ldiv, 1) (List.mem_of_getElem? (i := 33) rfl)) (by omega) (e87) (by decide) (fun v88 e88 => ?_)
      refine lv_iload_n hx hb (eX12_dayOf (62, .iload_n 3, 1) (List.mem_of_getElem? (i := 34) rfl)) rfl (lv_at hl77 5 rfl) ?_
      refine ff_i2l hx hb (eX12_dayOf (63, .i2l, 1) (List.mem_of_getElem? (i := 35) rfl)) (fun v89 e89 => ?_)
      refine ff_ladd hx hb (eX12_dayOf (64, .ladd, 1) (List.mem_of_getElem? (i := 36) rfl)) (by omega) (by omega) (fun v90 e90 => ?_)
      refine ff_lconst hx hb (eX12_dayOf (65, .lconst 1, 1) (List.mem_of_getElem? (i := 37) rfl)) rfl (fun v91 e91 => ?_)
      refine ff_lsub hx hb (eX12_dayOf (66, .lsub, 1) (List.mem_of_getElem? (i := 38) rfl)) (by omega) (by omega) (fun v92 e92 => ?_)
      refine lv_lstore hx hb (eX12_dayOf (67, .lstore 10, 2) (List.mem_of_getElem? (i := 39) rfl)) hl77 (by decide) rfl (fun ls93 hl93 => ?_)
      refine lv_lload hx hb (eX12_dayOf (69, .lload 6, 2) (List.mem_of_getElem? (i := 40) rfl)) (lv_at hl93 2 rfl) ?_
      refine ff_ldc2 (n := 146097) hx hb hown h2 (clX12_ok 109 146097 (List.mem_of_getElem? (i := 9) rfl)) (eX12_dayOf (71, .ldc2_w 109, 3) (List.mem_of_getElem? (i := 41) rfl)) (fun v94 e94 => ?_)
      refine ff_lmulR hx hb (eX12_dayOf (74, .lmul, 1) (List.mem_of_getElem? (i := 42) rfl)) (e94) (by omega) (by omega) (fun v95 e95 => ?_)
      refine lv_lload hx hb (eX12_dayOf (75, .lload 8, 2) (List.mem_of_getElem? (i := 43) rfl)) (lv_at hl93 1 rfl) ?_
      refine ff_ldc2 (n := 365) hx hb hown h2 (clX12_ok 111 365 (List.mem_of_getElem? (i := 10) rfl)) (eX12_dayOf (77, .ldc2_w 111, 3) (List.mem_of_getElem? (i := 44) rfl)) (fun v96 e96 => ?_)
      refine ff_lmulR hx hb (eX12_dayOf (80, .lmul, 1) (List.mem_of_getElem? (i := 45) rfl)) (e96) (by omega) (by omega) (fun v97 e97 => ?_)
      refine ff_ladd hx hb (eX12_dayOf (81, .ladd, 1) (List.mem_of_getElem? (i := 46) rfl)) (by omega) (by omega) (fun v98 e98 => ?_)
      refine lv_lload hx hb (eX12_dayOf (82, .lload 8, 2) (List.mem_of_getElem? (i := 47) rfl)) (lv_at hl93 1 rfl) ?_
      refine ff_ldc2 (n := 4) hx hb hown h2 (clX12_ok 89 4 (List.mem_of_getElem? (i := 3) rfl)) (eX12_dayOf (84, .ldc2_w 89, 3) (List.mem_of_getElem? (i := 48) rfl)) (fun v99 e99 => ?_)
      refine ff_ldivP hx hb (eX12_dayOf (87, .ldiv, 1) (List.mem_of_getElem? (i := 49) rfl)) (by omega) (e99) (by decide) (fun v100 e100 => ?_)
      refine ff_ladd hx hb (eX12_dayOf (88, .ladd, 1) (List.mem_of_getElem? (i := 50) rfl)) (by omega) (by omega) (fun v101 e101 => ?_)
      refine lv_lload hx hb (eX12_dayOf (89, .lload 8, 2) (List.mem_of_getElem? (i := 51) rfl)) (lv_at hl93 1 rfl) ?_
      refine ff_ldc2 (n := 100) hx hb hown h2 (clX12_ok 91 100 (List.mem_of_getElem? (i := 4) rfl)) (eX12_dayOf (91, .ldc2_w 91, 3) (List.mem_of_getElem? (i := 52) rfl)) (fun v102 e102 => ?_)
      refine ff_ldivP hx hb (eX12_dayOf (94, .ldiv, 1) (List.mem_of_getElem? (i := 53) rfl)) (by omega) (e102) (by decide) (fun v103 e103 => ?_)
      refine ff_lsub hx hb (eX12_dayOf (95, .lsub, 1) (List.mem_of_getElem? (i := 54) rfl)) (by omega) (by omega) (fun v104 e104 => ?_)
      refine lv_lload hx hb (eX12_dayOf (96, .lload 10, 2) (List.mem_of_getElem? (i := 55) rfl)) (lv_at hl93 0 rfl) ?_
      refine ff_ladd hx hb (eX12_dayOf (98, .ladd, 1) (List.mem_of_getElem? (i := 56) rfl)) (by omega) (by omega) (fun v105 e105 => ?_)
      refine ff_ldc2 (n := 719468) hx hb hown h2 (clX12_ok 113 719468 (List.mem_of_getElem? (i := 11) rfl)) (eX12_dayOf (99, .ldc2_w 113, 3) (List.mem_of_getElem? (i := 57) rfl)) (fun v106 e106 => ?_)
      refine ff_lsub hx hb (eX12_dayOf (102, .lsub, 1) (List.mem_of_getElem? (i := 58) rfl)) (by omega) (by omega) (fun v107 e107 => ?_)
      exact zu_lret (y := yX12_dayOf) (ws := []) (rm := {}) hx hb hr hlk ⟨_, rfl, by (have h9 := nu_ref (y := y.toInt) (m := mo.toInt) (d := dd.toInt) (era := v72.toInt) (yo := v76.toInt) (pl := v92.toInt) hm1 hm2 (by omega) (by omega) (fun _ => ⟨by omega, by omega⟩) (fun _ => ⟨by omega, by omega⟩); omega)⟩ (eX12_dayOf (103, .lreturn, 1) (List.mem_of_getElem? (i := 59) rfl))
    · skip
      refine ff_bipush hx hb (eX12_dayOf (44, .bipush (-3), 2) (List.mem_of_getElem? (i := 24) rfl)) (by decide) (by decide) (fun v108 e108 => ?_)
      refine lv_goto hx hb (eX12_dayOf (46, .goto 5, 3) (List.mem_of_getElem? (i := 25) rfl)) (tgt := 51) rfl ?_
      refine ff_iadd hx hb (eX12_dayOf (51, .iadd, 1) (List.mem_of_getElem? (i := 27) rfl)) (by omega) (by omega) (fun v109 e109 => ?_)
      refine ff_i2l hx hb (eX12_dayOf (52, .i2l, 1) (List.mem_of_getElem? (i := 28) rfl)) (fun v110 e110 => ?_)
      refine ff_lmulL hx hb (eX12_dayOf (53, .lmul, 1) (List.mem_of_getElem? (i := 29) rfl)) (e78) (by omega) (by omega) (fun v111 e111 => ?_)
      refine ff_ldc2 (n := 2) hx hb hown h2 (clX12_ok 105 2 (List.mem_of_getElem? (i := 7) rfl)) (eX12_dayOf (54, .ldc2_w 105, 3) (List.mem_of_getElem? (i := 30) rfl)) (fun v112 e112 => ?_)
      refine ff_ladd hx hb (eX12_dayOf (57, .ladd, 1) (List.mem_of_getElem? (i := 31) rfl)) (by omega) (by omega) (fun v113 e113 => ?_)
      refine ff_ldc2 (n := 5) hx hb hown h2 (clX12_ok 107 5 (List.mem_of_getElem? (i := 8) rfl)) (eX12_dayOf (58, .ldc2_w 107, 3) (List.mem_of_getElem? (i := 32) rfl)) (fun v114 e114 => ?_)
      refine ff_ldivP hx hb (eX12_dayOf (61, .ldiv, 1) (List.mem_of_getElem? (i := 33) rfl)) (by omega) (e114) (by decide) (fun v115 e115 => ?_)
      refine lv_iload_n hx hb (eX12_dayOf (62, .iload_n 3, 1) (List.mem_of_getElem? (i := 34) rfl)) rfl (lv_at hl77 5 rfl) ?_
      refine ff_i2l hx hb (eX12_dayOf (63, .i2l, 1) (List.mem_of_getElem? (i := 35) rfl)) (fun v116 e116 => ?_)
      refine ff_ladd hx hb (eX12_dayOf (64, .ladd, 1) (List.mem_of_getElem? (i := 36) rfl)) (by omega) (by omega) (fun v117 e117 => ?_)
      refine ff_lconst hx hb (eX12_dayOf (65, .lconst 1, 1) (List.mem_of_getElem? (i := 37) rfl)) rfl (fun v118 e118 => ?_)
      refine ff_lsub hx hb (eX12_dayOf (66, .lsub, 1) (List.mem_of_getElem? (i := 38) rfl)) (by omega) (by omega) (fun v119 e119 => ?_)
      refine lv_lstore hx hb (eX12_dayOf (67, .lstore 10, 2) (List.mem_of_getElem? (i := 39) rfl)) hl77 (by decide) rfl (fun ls120 hl120 => ?_)
      refine lv_lload hx hb (eX12_dayOf (69, .lload 6, 2) (List.mem_of_getElem? (i := 40) rfl)) (lv_at hl120 2 rfl) ?_
      refine ff_ldc2 (n := 146097) hx hb hown h2 (clX12_ok 109 146097 (List.mem_of_getElem? (i := 9) rfl)) (eX12_dayOf (71, .ldc2_w 109, 3) (List.mem_of_getElem? (i := 41) rfl)) (fun v121 e121 => ?_)
      refine ff_lmulR hx hb (eX12_dayOf (74, .lmul, 1) (List.mem_of_getElem? (i := 42) rfl)) (e121) (by omega) (by omega) (fun v122 e122 => ?_)
      refine lv_lload hx hb (eX12_dayOf (75, .lload 8, 2) (List.mem_of_getElem? (i := 43) rfl)) (lv_at hl120 1 rfl) ?_
      refine ff_ldc2 (n := 365) hx hb hown h2 (clX12_ok 111 365 (List.mem_of_getElem? (i := 10) rfl)) (eX12_dayOf (77, .ldc2_w 111, 3) (List.mem_of_getElem? (i := 44) rfl)) (fun v123 e123 => ?_)
      refine ff_lmulR hx hb (eX12_dayOf (80, .lmul, 1) (List.mem_of_getElem? (i := 45) rfl)) (e123) (by omega) (by omega) (fun v124 e124 => ?_)
      refine ff_ladd hx hb (eX12_dayOf (81, .ladd, 1) (List.mem_of_getElem? (i := 46) rfl)) (by omega) (by omega) (fun v125 e125 => ?_)
      refine lv_lload hx hb (eX12_dayOf (82, .lload 8, 2) (List.mem_of_getElem? (i := 47) rfl)) (lv_at hl120 1 rfl) ?_
      refine ff_ldc2 (n := 4) hx hb hown h2 (clX12_ok 89 4 (List.mem_of_getElem? (i := 3) rfl)) (eX12_dayOf (84, .ldc2_w 89, 3) (List.mem_of_getElem? (i := 48) rfl)) (fun v126 e126 => ?_)
      refine ff_ldivP hx hb (eX12_dayOf (87, .ldiv, 1) (List.mem_of_getElem? (i := 49) rfl)) (by omega) (e126) (by decide) (fun v127 e127 => ?_)
      refine ff_ladd hx hb (eX12_dayOf (88, .ladd, 1) (List.mem_of_getElem? (i := 50) rfl)) (by omega) (by omega) (fun v128 e128 => ?_)
      refine lv_lload hx hb (eX12_dayOf (89, .lload 8, 2) (List.mem_of_getElem? (i := 51) rfl)) (lv_at hl120 1 rfl) ?_
      refine ff_ldc2 (n := 100) hx hb hown h2 (clX12_ok 91 100 (List.mem_of_getElem? (i := 4) rfl)) (eX12_dayOf (91, .ldc2_w 91, 3) (List.mem_of_getElem? (i := 52) rfl)) (fun v129 e129 => ?_)
      refine ff_ldivP hx hb (eX12_dayOf (94, .ldiv, 1) (List.mem_of_getElem? (i := 53) rfl)) (by omega) (e129) (by decide) (fun v130 e130 => ?_)
      refine ff_lsub hx hb (eX12_dayOf (95, .lsub, 1) (List.mem_of_getElem? (i := 54) rfl)) (by omega) (by omega) (fun v131 e131 => ?_)
      refine lv_lload hx hb (eX12_dayOf (96, .lload 10, 2) (List.mem_of_getElem? (i := 55) rfl)) (lv_at hl120 0 rfl) ?_
      refine ff_ladd hx hb (eX12_dayOf (98, .ladd, 1) (List.mem_of_getElem? (i := 56) rfl)) (by omega) (by omega) (fun v132 e132 => ?_)
      refine ff_ldc2 (n := 719468) hx hb hown h2 (clX12_ok 113 719468 (List.mem_of_getElem? (i := 11) rfl)) (eX12_dayOf (99, .ldc2_w 113, 3) (List.mem_of_getElem? (i := 57) rfl)) (fun v133 e133 => ?_)
      refine ff_lsub hx hb (eX12_dayOf (102, .lsub, 1) (List.mem_of_getElem? (i := 58) rfl)) (by omega) (by omega) (fun v134 e134 => ?_)
      exact zu_lret (y := yX12_dayOf) (ws := []) (rm := {}) hx hb hr hlk ⟨_, rfl, by (have h9 := nu_ref (y := y.toInt) (m := mo.toInt) (d := dd.toInt) (era := v72.toInt) (yo := v76.toInt) (pl := v119.toInt) hm1 hm2 (by omega) (by omega) (fun _ => ⟨by omega, by omega⟩) (fun _ => ⟨by omega, by omega⟩); omega)⟩ (eX12_dayOf (103, .lreturn, 1) (List.mem_of_getElem? (i := 59) rfl))
set_option maxRecDepth 100000 in
set_option maxHeartbeats 4000000 in
theorem hX12_weekdayOf (l : Launch) (n : Int64) (hn1 : -10000000000000 ≤ n.toInt) (hn2 : n.toInt ≤ 10000000000000) : zu_M l yX12_weekdayOf (gW yX12_weekdayOf cX12_weekdayOf 4 (some .int)) { frames := 0, cells := 0, slots := 0, locals := 0 } (fun vs => vs = [.long n]) zT (fun _ w => ∃ r : Int32, w = .int r ∧ r.toInt = (n.toInt + 3) % 7 + 1) := by
  refine zy_ofW (cc := cX12_weekdayOf) (maxL := 4) (ret := (some .int)) (by decide +kernel) rfl ?_
  intro p e s m args below meth c s1 B hml hv
  obtain ⟨vs, rfl, rfl, hKp⟩ := hv
  have hx := B.exec
  have hb := B.bytes
  have hr := B.returns
  have hlk := B.notSynchronized
  have hts0 := atoms_spec (ws := gW yX12_weekdayOf cX12_weekdayOf 4 (some .int)) B.pre
  have h2 : ∀ w ∈ gT, w.before ([.long n] : List Value).toArray s = true := fun w hw => hts0 w (List.mem_cons_of_mem _ hw)
  have hown : s.vm.findClass RX12 = some m.cls := findClass_of_methodNamed B.named
  have hl := lv_entry [.long n] (n := 4) (Nat.le_of_ble_eq_true rfl)
  rw [lg_entry_eq]
  generalize (lg_sl [.long n] ++ List.replicate (4 - (lg_sl [.long n]).length) Slot.unset).toArray = ls at hl ⊢
  have b_n := zn_i64 n
  refine lv_lload_n hx hb (eX12_weekdayOf (0, .lload_n 0, 1) (List.mem_of_getElem? (i := 0) rfl)) rfl (lv_at hl 0 rfl) ?_
  refine ff_ldc2 (n := 3) hx hb hown h2 (clX12_ok 134 3 (List.mem_of_getElem? (i := 15) rfl)) (eX12_weekdayOf (1, .ldc2_w 134, 3) (List.mem_of_getElem? (i := 1) rfl)) (fun v1 e1 => ?_)
  refine ff_ladd hx hb (eX12_weekdayOf (4, .ladd, 1) (List.mem_of_getElem? (i := 2) rfl)) (by omega) (by omega) (fun v2 e2 => ?_)
  refine ff_ldc2 (n := 7) hx hb hown h2 (clX12_ok 136 7 (List.mem_of_getElem? (i := 16) rfl)) (eX12_weekdayOf (5, .ldc2_w 136, 3) (List.mem_of_getElem? (i := 3) rfl)) (fun v3 e3 => ?_)
  refine ff_lrem hx hb (eX12_weekdayOf (8, .lrem, 1) (List.mem_of_getElem? (i := 4) rfl)) (e3) (by decide) (fun v4 e4 => ?_)
  refine lv_lstore_n hx hb (eX12_weekdayOf (9, .lstore_n 2, 1) (List.mem_of_getElem? (i := 5) rfl)) rfl hl (by decide) rfl (fun ls5 hl5 => ?_)
  refine lv_lload_n hx hb (eX12_weekdayOf (10, .lload_n 2, 1) (List.mem_of_getElem? (i := 6) rfl)) rfl (lv_at hl5 0 rfl) ?_
  refine ff_lconst hx hb (eX12_weekdayOf (11, .lconst 0, 1) (List.mem_of_getElem? (i := 7) rfl)) rfl (fun v6 e6 => ?_)
  refine ff_lcmp hx hb (eX12_weekdayOf (12, .lcmp, 1) (List.mem_of_getElem? (i := 8) rfl)) (fun v7 e7 => ?_)
  refine ff_if_ge hx hb (eX12_weekdayOf (13, .ifCond .ge 11, 3) (List.mem_of_getElem? (i := 9) rfl)) (tgt := 24) rfl (fun c8 => ?_) (fun c8 => ?_)
  · skip
    refine lv_lload_n hx hb (eX12_weekdayOf (24, .lload_n 2, 1) (List.mem_of_getElem? (i := 14) rfl)) rfl (lv_at hl5 0 rfl) ?_
    refine ff_l2i hx hb (eX12_weekdayOf (25, .l2i, 1) (List.mem_of_getElem? (i := 15) rfl)) (by omega) (by omega) (fun v9 e9 => ?_)
    refine ff_iconst hx hb (eX12_weekdayOf (26, .iconst 1, 1) (List.mem_of_getElem? (i := 16) rfl)) (by decide) (by decide) (fun v10 e10 => ?_)
    refine ff_iadd hx hb (eX12_weekdayOf (27, .iadd, 1) (List.mem_of_getElem? (i := 17) rfl)) (by omega) (by omega) (fun v11 e11 => ?_)
    exact zu_iret (y := yX12_weekdayOf) (ws := []) (rm := {}) hx hb hr hlk rfl ⟨_, rfl, by omega⟩ (eX12_weekdayOf (28, .ireturn, 1) (List.mem_of_getElem? (i := 18) rfl))
  · skip
    refine lv_lload_n hx hb (eX12_weekdayOf (16, .lload_n 2, 1) (List.mem_of_getElem? (i := 10) rfl)) rfl (lv_at hl5 0 rfl) ?_
    refine ff_ldc2 (n := 7) hx hb hown h2 (clX12_ok 136 7 (List.mem_of_getElem? (i := 16) rfl)) (eX12_weekdayOf (17, .ldc2_w 136, 3) (List.mem_of_getElem? (i := 11) rfl)) (fun v12 e12 => ?_)
    refine ff_ladd hx hb (eX12_weekdayOf (20, .ladd, 1) (List.mem_of_getElem? (i := 12) rfl)) (by omega) (by omega) (fun v13 e13 => ?_)
    refine lv_goto hx hb (eX12_weekdayOf (21, .goto 4, 3) (List.mem_of_getElem? (i := 13) rfl)) (tgt := 25) rfl ?_
    refine ff_l2i hx hb (eX12_weekdayOf (25, .l2i, 1) (List.mem_of_getElem? (i := 15) rfl)) (by omega) (by omega) (fun v14 e14 => ?_)
    refine ff_iconst hx hb (eX12_weekdayOf (26, .iconst 1, 1) (List.mem_of_getElem? (i := 16) rfl)) (by decide) (by decide) (fun v15 e15 => ?_)
    refine ff_iadd hx hb (eX12_weekdayOf (27, .iadd, 1) (List.mem_of_getElem? (i := 17) rfl)) (by omega) (by omega) (fun v16 e16 => ?_)
    exact zu_iret (y := yX12_weekdayOf) (ws := []) (rm := {}) hx hb hr hlk rfl ⟨_, rfl, by omega⟩ (eX12_weekdayOf (28, .ireturn, 1) (List.mem_of_getElem? (i := 18) rfl))
set_option maxRecDepth 100000 in
set_option maxHeartbeats 4000000 in
theorem hX12_firstWeek (l : Launch) (y : Int64) (hy1 : -2147483650 ≤ y.toInt) (hy2 : y.toInt ≤ 2147483650) : zu_M l yX12_firstWeek (gW yX12_firstWeek cX12_firstWeek 4 (some .long)) { frames := 2, cells := 0, slots := 0, locals := 56 } (fun vs => vs = [.long y]) zT (fun _ w => ∃ r : Int64, w = .long r ∧ r.toInt = fwI y.toInt) := by
  refine zy_ofW (cc := cX12_firstWeek) (maxL := 4) (ret := (some .long)) (by decide +kernel) rfl ?_
  intro p e s m args below meth c s1 B hml hv
  obtain ⟨vs, rfl, rfl, hKp⟩ := hv
  have hx := B.exec
  have hb := B.bytes
  have hr := B.returns
  have hlk := B.notSynchronized
  have hts0 := atoms_spec (ws := gW yX12_firstWeek cX12_firstWeek 4 (some .long)) B.pre
  have h2 : ∀ w ∈ gT, w.before ([.long y] : List Value).toArray s = true := fun w hw => hts0 w (List.mem_cons_of_mem _ hw)
  have hown : s.vm.findClass RX12 = some m.cls := findClass_of_methodNamed B.named
  have hl := lv_entry [.long y] (n := 4) (Nat.le_of_ble_eq_true rfl)
  rw [lg_entry_eq]
  generalize (lg_sl [.long y] ++ List.replicate (4 - (lg_sl [.long y]).length) Slot.unset).toArray = ls at hl ⊢
  have b_y := zn_i64 y
  refine lv_lload_n hx hb (eX12_firstWeek (0, .lload_n 0, 1) (List.mem_of_getElem? (i := 0) rfl)) rfl (lv_at hl 0 rfl) ?_
  refine ff_iconst hx hb (eX12_firstWeek (1, .iconst 1, 1) (List.mem_of_getElem? (i := 1) rfl)) (by decide) (by decide) (fun v1 e1 => ?_)
  refine ff_iconst hx hb (eX12_firstWeek (2, .iconst 4, 1) (List.mem_of_getElem? (i := 2) rfl)) (by decide) (by decide) (fun v2 e2 => ?_)
  refine zu_S (vs := [.long y, .int v1, .int v2]) (rest := []) hx hb hml hown hts0 zu_BT (hX12_dayOfW l y v1 v2 (by omega) (by omega) (by omega) (by omega) (by omega) (by omega)) ⟨rfl, rfl⟩ ⟨by decide, by decide⟩ ⟨by decide, by decide⟩ (tb_6 135 rfl rfl) (tb_1 12 rfl rfl) (tb_6 133 rfl rfl) (tb_6 134 rfl rfl) (show yX12_dayOf.cls ≠ "java/lang/invoke/MethodHandle" ∧ yX12_dayOf.cls ≠ "java/lang/invoke/VarHandle" ∧ (parseMethodDescriptor yX12_dayOf.desc).map (fun d => d.parameters.length) = some 3 by decide +kernel) rfl (fun _ _ _ => trivial) hl.1 (Nat.le_of_ble_eq_true rfl) (eX12_firstWeek (3, .invokestatic 70, 3) (List.mem_of_getElem? (i := 3) rfl)) (fun w3 f3 => ?_)
  obtain ⟨v3, rfl, e3⟩ := f3
  have g3 := (show v3.toInt = ysI y.toInt + 3 ∧ -1000000000000 ≤ ysI y.toInt ∧ ysI y.toInt ≤ 1000000000000 from ⟨by rw [e3, show v1.toInt = 1 by omega, show v2.toInt = 4 by omega, nu_fourth], ys_bd3 (by omega) (by omega)⟩)
  refine lv_lstore_n hx hb (eX12_firstWeek (6, .lstore_n 2, 1) (List.mem_of_getElem? (i := 4) rfl)) rfl hl (by decide) rfl (fun ls4 hl4 => ?_)
  refine lv_lload_n hx hb (eX12_firstWeek (7, .lload_n 2, 1) (List.mem_of_getElem? (i := 5) rfl)) rfl (lv_at hl4 0 rfl) ?_
  refine lv_lload_n hx hb (eX12_firstWeek (8, .lload_n 2, 1) (List.mem_of_getElem? (i := 6) rfl)) rfl (lv_at hl4 0 rfl) ?_
  refine zu_S (vs := [.long v3]) (rest := [.long v3]) hx hb hml hown hts0 zu_BT (hX12_weekdayOf l v3 (by omega) (by omega)) ⟨rfl, rfl⟩ ⟨by decide, by decide⟩ ⟨by decide, by decide⟩ (tb_7 80 rfl rfl) (tb_1 12 rfl rfl) (tb_7 78 rfl rfl) (tb_7 79 rfl rfl) (show yX12_weekdayOf.cls ≠ "java/lang/invoke/MethodHandle" ∧ yX12_weekdayOf.cls ≠ "java/lang/invoke/VarHandle" ∧ (parseMethodDescriptor yX12_weekdayOf.desc).map (fun d => d.parameters.length) = some 1 by decide +kernel) rfl (fun _ _ _ => trivial) hl4.1 (Nat.le_of_ble_eq_true rfl) (eX12_firstWeek (9, .invokestatic 138, 3) (List.mem_of_getElem? (i := 7) rfl)) (fun w5 f5 => ?_)
  obtain ⟨v5, rfl, e5⟩ := f5
  refine ff_i2l hx hb (eX12_firstWeek (12, .i2l, 1) (List.mem_of_getElem? (i := 8) rfl)) (fun v6 e6 => ?_)
  refine ff_lsub hx hb (eX12_firstWeek (13, .lsub, 1) (List.mem_of_getElem? (i := 9) rfl)) (by omega) (by omega) (fun v7 e7 => ?_)
  refine ff_lconst hx hb (eX12_firstWeek (14, .lconst 1, 1) (List.mem_of_getElem? (i := 10) rfl)) rfl (fun v8 e8 => ?_)
  refine ff_ladd hx hb (eX12_firstWeek (15, .ladd, 1) (List.mem_of_getElem? (i := 11) rfl)) (by omega) (by omega) (fun v9 e9 => ?_)
  exact zu_lret (y := yX12_firstWeek) (ws := []) (rm := {}) hx hb hr hlk ⟨_, rfl, by (unfold fwI; omega)⟩ (eX12_firstWeek (16, .lreturn, 1) (List.mem_of_getElem? (i := 12) rfl))
set_option maxRecDepth 100000 in
set_option maxHeartbeats 4000000 in
theorem hX12_weeksOf (l : Launch) (y : Int64) (hy1 : -2147483649 ≤ y.toInt) (hy2 : y.toInt ≤ 2147483649) : zu_M l yX12_weeksOf (gW yX12_weeksOf cX12_weeksOf 2 (some .int)) { frames := 3, cells := 0, slots := 0, locals := 79 } (fun vs => vs = [.long y]) zT (fun _ w => ∃ r : Int32, w = .int r ∧ r.toInt = wkI y.toInt) := by
  refine zy_ofW (cc := cX12_weeksOf) (maxL := 2) (ret := (some .int)) (by decide +kernel) rfl ?_
  intro p e s m args below meth c s1 B hml hv
  obtain ⟨vs, rfl, rfl, hKp⟩ := hv
  have hx := B.exec
  have hb := B.bytes
  have hr := B.returns
  have hlk := B.notSynchronized
  have hts0 := atoms_spec (ws := gW yX12_weeksOf cX12_weeksOf 2 (some .int)) B.pre
  have h2 : ∀ w ∈ gT, w.before ([.long y] : List Value).toArray s = true := fun w hw => hts0 w (List.mem_cons_of_mem _ hw)
  have hown : s.vm.findClass RX12 = some m.cls := findClass_of_methodNamed B.named
  have hl := lv_entry [.long y] (n := 2) (Nat.le_of_ble_eq_true rfl)
  rw [lg_entry_eq]
  generalize (lg_sl [.long y] ++ List.replicate (2 - (lg_sl [.long y]).length) Slot.unset).toArray = ls at hl ⊢
  have b_y := zn_i64 y
  refine lv_lload_n hx hb (eX12_weeksOf (0, .lload_n 0, 1) (List.mem_of_getElem? (i := 0) rfl)) rfl (lv_at hl 0 rfl) ?_
  refine ff_lconst hx hb (eX12_weeksOf (1, .lconst 1, 1) (List.mem_of_getElem? (i := 1) rfl)) rfl (fun v1 e1 => ?_)
  refine ff_ladd hx hb (eX12_weeksOf (2, .ladd, 1) (List.mem_of_getElem? (i := 2) rfl)) (by omega) (by omega) (fun v2 e2 => ?_)
  refine zu_S (vs := [.long v2]) (rest := []) hx hb hml hown hts0 zu_BT (hX12_firstWeek l v2 (by omega) (by omega)) ⟨rfl, rfl⟩ ⟨by decide, by decide⟩ ⟨by decide, by decide⟩ (tb_7 77 rfl rfl) (tb_1 12 rfl rfl) (tb_7 75 rfl rfl) (tb_7 76 rfl rfl) (show yX12_firstWeek.cls ≠ "java/lang/invoke/MethodHandle" ∧ yX12_firstWeek.cls ≠ "java/lang/invoke/VarHandle" ∧ (parseMethodDescriptor yX12_firstWeek.desc).map (fun d => d.parameters.length) = some 1 by decide +kernel) rfl (fun _ _ _ => trivial) hl.1 (Nat.le_of_ble_eq_true rfl) (eX12_weeksOf (3, .invokestatic 142, 3) (List.mem_of_getElem? (i := 3) rfl)) (fun w3 f3 => ?_)
  obtain ⟨v3, rfl, e3⟩ := f3
  have g3 := (show v3.toInt = fwI (y.toInt + 1) by rw [e3, show v2.toInt = y.toInt + 1 by omega])
  refine lv_lload_n hx hb (eX12_weeksOf (6, .lload_n 0, 1) (List.mem_of_getElem? (i := 4) rfl)) rfl (lv_at hl 0 rfl) ?_
  refine zu_S (vs := [.long y]) (rest := [.long v3]) hx hb hml hown hts0 zu_BT (hX12_firstWeek l y (by omega) (by omega)) ⟨rfl, rfl⟩ ⟨by decide, by decide⟩ ⟨by decide, by decide⟩ (tb_7 77 rfl rfl) (tb_1 12 rfl rfl) (tb_7 75 rfl rfl) (tb_7 76 rfl rfl) (show yX12_firstWeek.cls ≠ "java/lang/invoke/MethodHandle" ∧ yX12_firstWeek.cls ≠ "java/lang/invoke/VarHandle" ∧ (parseMethodDescriptor yX12_firstWeek.desc).map (fun d => d.parameters.length) = some 1 by decide +kernel) rfl (fun _ _ _ => trivial) hl.1 (Nat.le_of_ble_eq_true rfl) (eX12_weeksOf (7, .invokestatic 142, 3) (List.mem_of_getElem? (i := 5) rfl)) (fun w4 f4 => ?_)
  obtain ⟨v4, rfl, e4⟩ := f4
  have g4 := (show fwI y.toInt ≤ fwI (y.toInt + 1) ∧ fwI (y.toInt + 1) - fwI y.toInt ≤ 400 ∧ -1000000000003 ≤ fwI y.toInt ∧ fwI y.toInt ≤ 1000000000003 by have h8 := fw_bd y.toInt; have h7 := fw_bd (y.toInt + 1); have h6 := ys_succ y.toInt; have h5 := lpI_bd y.toInt; have h4 := ys_bd3 (y := y.toInt) (by omega) (by omega); omega)
  refine ff_lsub hx hb (eX12_weeksOf (10, .lsub, 1) (List.mem_of_getElem? (i := 6) rfl)) (by omega) (by omega) (fun v5 e5 => ?_)
  refine ff_ldc2 (n := 7) hx hb hown h2 (clX12_ok 136 7 (List.mem_of_getElem? (i := 16) rfl)) (eX12_weeksOf (11, .ldc2_w 136, 3) (List.mem_of_getElem? (i := 7) rfl)) (fun v6 e6 => ?_)
  refine ff_ldivP hx hb (eX12_weeksOf (14, .ldiv, 1) (List.mem_of_getElem? (i := 8) rfl)) (by omega) (e6) (by decide) (fun v7 e7 => ?_)
  refine ff_l2i hx hb (eX12_weeksOf (15, .l2i, 1) (List.mem_of_getElem? (i := 9) rfl)) (by omega) (by omega) (fun v8 e8 => ?_)
  exact zu_iret (y := yX12_weeksOf) (ws := []) (rm := {}) hx hb hr hlk rfl ⟨_, rfl, by (unfold wkI; omega)⟩ (eX12_weeksOf (16, .ireturn, 1) (List.mem_of_getElem? (i := 10) rfl))
set_option maxRecDepth 100000 in
set_option maxHeartbeats 4000000 in
theorem hX12_downC (l : Launch) (a : Int64) (v900 : Int64) (e900 : v900.toInt = 146097) (ha1 : -9000000000000000000 ≤ a.toInt) (ha2 : a.toInt ≤ 9000000000000000000) : zu_M l yX12_down (gW yX12_down cX12_down 6 (some .long)) { frames := 0, cells := 0, slots := 0, locals := 0 } (fun vs => vs = [.long a, .long v900]) zT (fun _ w => ∃ r : Int64, w = .long r ∧ 146097 * r.toInt ≤ a.toInt ∧ a.toInt ≤ 146097 * r.toInt + 146096) := by
  refine zy_ofW (cc := cX12_down) (maxL := 6) (ret := (some .long)) (by decide +kernel) rfl ?_
  intro p e s m args below meth c s1 B hml hv
  obtain ⟨vs, rfl, rfl, hKp⟩ := hv
  have hx := B.exec
  have hb := B.bytes
  have hr := B.returns
  have hlk := B.notSynchronized
  have hts0 := atoms_spec (ws := gW yX12_down cX12_down 6 (some .long)) B.pre
  have h2 : ∀ w ∈ gT, w.before ([.long a, .long v900] : List Value).toArray s = true := fun w hw => hts0 w (List.mem_cons_of_mem _ hw)
  have hown : s.vm.findClass RX12 = some m.cls := findClass_of_methodNamed B.named
  have hl := lv_entry [.long a, .long v900] (n := 6) (Nat.le_of_ble_eq_true rfl)
  rw [lg_entry_eq]
  generalize (lg_sl [.long a, .long v900] ++ List.replicate (6 - (lg_sl [.long a, .long v900]).length) Slot.unset).toArray = ls at hl ⊢
  have b_a := zn_i64 a
  have b_v900 := zn_i64 v900
  refine lv_lload_n hx hb (eX12_down (0, .lload_n 0, 1) (List.mem_of_getElem? (i := 0) rfl)) rfl (lv_at hl 0 rfl) ?_
  refine lv_lload_n hx hb (eX12_down (1, .lload_n 2, 1) (List.mem_of_getElem? (i := 1) rfl)) rfl (lv_at hl 1 rfl) ?_
  refine ff_ldiv hx hb (eX12_down (2, .ldiv, 1) (List.mem_of_getElem? (i := 2) rfl)) (e900) (by decide) (fun v1 e1 => ?_)
  refine lv_lstore hx hb (eX12_down (3, .lstore 4, 2) (List.mem_of_getElem? (i := 3) rfl)) hl (by decide) rfl (fun ls2 hl2 => ?_)
  refine lv_lload_n hx hb (eX12_down (5, .lload_n 0, 1) (List.mem_of_getElem? (i := 4) rfl)) rfl (lv_at hl2 1 rfl) ?_
  refine lv_lload_n hx hb (eX12_down (6, .lload_n 2, 1) (List.mem_of_getElem? (i := 5) rfl)) rfl (lv_at hl2 2 rfl) ?_
  refine ff_lrem hx hb (eX12_down (7, .lrem, 1) (List.mem_of_getElem? (i := 6) rfl)) (e900) (by decide) (fun v3 e3 => ?_)
  refine ff_lconst hx hb (eX12_down (8, .lconst 0, 1) (List.mem_of_getElem? (i := 7) rfl)) rfl (fun v4 e4 => ?_)
  refine ff_lcmp hx hb (eX12_down (9, .lcmp, 1) (List.mem_of_getElem? (i := 8) rfl)) (fun v5 e5 => ?_)
  refine ff_if_ge hx hb (eX12_down (10, .ifCond .ge 10, 3) (List.mem_of_getElem? (i := 9) rfl)) (tgt := 20) rfl (fun c6 => ?_) (fun c6 => ?_)
  · skip
    refine lv_lload hx hb (eX12_down (20, .lload 4, 2) (List.mem_of_getElem? (i := 14) rfl)) (lv_at hl2 0 rfl) ?_
    exact zu_lret (y := yX12_down) (ws := []) (rm := {}) hx hb hr hlk ⟨_, rfl, by omega⟩ (eX12_down (22, .lreturn, 1) (List.mem_of_getElem? (i := 15) rfl))
  · skip
    refine lv_lload hx hb (eX12_down (13, .lload 4, 2) (List.mem_of_getElem? (i := 10) rfl)) (lv_at hl2 0 rfl) ?_
    refine ff_lconst hx hb (eX12_down (15, .lconst 1, 1) (List.mem_of_getElem? (i := 11) rfl)) rfl (fun v7 e7 => ?_)
    refine ff_lsub hx hb (eX12_down (16, .lsub, 1) (List.mem_of_getElem? (i := 12) rfl)) (by omega) (by omega) (fun v8 e8 => ?_)
    refine lv_goto hx hb (eX12_down (17, .goto 5, 3) (List.mem_of_getElem? (i := 13) rfl)) (tgt := 22) rfl ?_
    exact zu_lret (y := yX12_down) (ws := []) (rm := {}) hx hb hr hlk ⟨_, rfl, by omega⟩ (eX12_down (22, .lreturn, 1) (List.mem_of_getElem? (i := 15) rfl))
set_option maxRecDepth 100000 in
set_option maxHeartbeats 4000000 in
theorem hX12_isDay (l : Launch) (D : va_G) (cA : Nat → ClassId) (ro : Nat → Option Nat) (sz : Nat) (H0 : Heap) (a : Nat) (n : Int64) (ha : ro a = some 11)  : Met l yX12_isDay (gW yX12_isDay cX12_isDay 3 (some .boolean)) { frames := 1, cells := 0, slots := 0, locals := 25 } (zd_Pc D cA ro sz H0 [.ref a, .long n]) (zg_idQ n.toInt) 0 0 (zy_fr sz) := by
  refine zy_ofW (cc := cX12_isDay) (maxL := 3) (ret := (some .boolean)) (by decide +kernel) rfl ?_
  intro p e s m args below meth c s1 B hml hv
  obtain ⟨rfl, hh, hKn⟩ := hv
  have hx := B.exec
  have hb := B.bytes
  have hr := B.returns
  have hlk := B.notSynchronized
  have hts0 := atoms_spec (ws := gW yX12_isDay cX12_isDay 3 (some .boolean)) B.pre
  have h2 : ∀ w ∈ gT, w.before ([.ref a, .long n] : List Value).toArray s = true := fun w hw => hts0 w (List.mem_cons_of_mem _ hw)
  have hown : s.vm.findClass RX12 = some m.cls := findClass_of_methodNamed B.named
  have hl := lv_entry [.ref a, .long n] (n := 3) (Nat.le_of_ble_eq_true rfl)
  rw [lg_entry_eq]
  generalize (lg_sl [.ref a, .long n] ++ List.replicate (3 - (lg_sl [.ref a, .long n]).length) Slot.unset).toArray = ls at hl ⊢
  have b_n := zn_i64 n
  have hD := zD_all h2 hKn.1
  have hcl := fun (idx k : Nat) (t : zt_T) (h : (idx, 11, k) ∈ gfX12) (hk : fsX12[k]? = some t) => zf_clause (ro := ro) (ms := []) h2 hown hKn.1 gfX12_ok (by decide +kernel) idx 11 k 11 0 fsX12 t h rfl hk
  have kp0 : zc_kept D RTg ro [] s.heap s.heap := zc_kept.refl
  have hq0 : ∀ q : Nat, q ≠ a → s.heap[q]? = s.heap[q]? := fun _ _ => rfl
  refine lv_lload_n hx hb (eX12_isDay (0, .lload_n 1, 1) (List.mem_of_getElem? (i := 0) rfl)) rfl (lv_at hl 1 rfl) ?_
  refine lv_aload_n hx hb (eX12_isDay (1, .aload_n 0, 1) (List.mem_of_getElem? (i := 1) rfl)) rfl (lv_at hl 0 rfl) ?_
  obtain ⟨v1, hv1, e1, e1_2⟩ := zh_fT (k := 16) (t := (1, (-365961662), (-365961662))) hh ha (show RTg[11]? = some (0, 11, 0, fsX12) from rfl) rfl
  dsimp only at e1 e1_2
  refine tz_get (r := 11) (k := 16) (t := (1, (-365961662), (-365961662))) hx hb hh ha rfl rfl (hcl 74 16 (1, (-365961662), (-365961662)) (by decide) rfl).1 hv1 (eX12_isDay (2, .getfield 74, 3) (List.mem_of_getElem? (i := 2) rfl)) ?_
  refine lv_aload_n hx hb (eX12_isDay (5, .aload_n 0, 1) (List.mem_of_getElem? (i := 3) rfl)) rfl (lv_at hl 0 rfl) ?_
  obtain ⟨v2, hv2, e2, e2_2⟩ := zh_fT (k := 17) (t := (1, 364522971, 364522971)) hh ha (show RTg[11]? = some (0, 11, 0, fsX12) from rfl) rfl
  dsimp only at e2 e2_2
  refine tz_get (r := 11) (k := 17) (t := (1, 364522971, 364522971)) hx hb hh ha rfl rfl (hcl 80 17 (1, 364522971, 364522971) (by decide) rfl).1 hv2 (eX12_isDay (6, .getfield 80, 3) (List.mem_of_getElem? (i := 4) rfl)) ?_
  refine zu_S (vs := [.long n, .long v1, .long v2]) (rest := []) hx hb hml hown hts0 zu_BT (hX12_isIn l n v1 v2) ⟨rfl, rfl⟩ ⟨by decide, by decide⟩ ⟨by decide, by decide⟩ (tb_7 47 rfl rfl) (tb_1 12 rfl rfl) (tb_7 45 rfl rfl) (tb_7 46 rfl rfl) (show yX12_isIn.cls ≠ "java/lang/invoke/MethodHandle" ∧ yX12_isIn.cls ≠ "java/lang/invoke/VarHandle" ∧ (parseMethodDescriptor yX12_isIn.desc).map (fun d => d.parameters.length) = some 3 by decide +kernel) rfl (fun _ _ _ => trivial) hl.1 (Nat.le_of_ble_eq_true rfl) (eX12_isDay (9, .invokestatic 130, 3) (List.mem_of_getElem? (i := 5) rfl)) (fun w3 f3 => ?_)
  obtain ⟨v3, rfl, e3⟩ := f3
  exact W.zret hx hb hr (zn_bool (by omega) (by omega)) (fun t ht hW => ⟨ht, _, rfl, by omega⟩) (fun q hq => by cases hq) (eX12_isDay (12, .ireturn, 1) (List.mem_of_getElem? (i := 6) rfl))
theorem civ_pl {y d : Int} (hy : y = cyD d / 365) (h0 : 0 ≤ d) (h1 : d ≤ 146096) : 0 ≤ d - (365 * y + y / 4 - y / 100) ∧ d - (365 * y + y / 4 - y / 100) ≤ 365 := by
  have h := cy_in h0 h1
  rw [← hy] at h
  obtain ⟨g1, g2, g3, g4⟩ := h
  unfold cyS at g3 g4
  split at g4 <;> omega
set_option maxRecDepth 100000 in
set_option maxHeartbeats 4000000 in
theorem hX12_civil (l : Launch) (D : va_G) (cA : Nat → ClassId) (ro : Nat → Option Nat) (sz : Nat) (H0 : Heap) (a : Nat) (n : Int64) (ha : ro a = some 11) (hn1 : -400000000 ≤ n.toInt) (hn2 : n.toInt ≤ 400000000) : Met l yX12_civil (gW yX12_civil cX12_civil 14 none) { frames := 1, cells := 0, slots := 0, locals := 25 } (zd_Pc D cA ro sz H0 [.ref a, .long n]) (zg_cvQ D cA ro sz H0 a n.toInt) 0 0 (zy_fr sz) := by
  refine zy_ofW (cc := cX12_civil) (maxL := 14) (ret := none) (by decide +kernel) rfl ?_
  intro p e s m args below meth c s1 B hml hv
  obtain ⟨rfl, hh, hKn⟩ := hv
  have hx := B.exec
  have hb := B.bytes
  have hr := B.returns
  have hlk := B.notSynchronized
  have hts0 := atoms_spec (ws := gW yX12_civil cX12_civil 14 none) B.pre
  have h2 : ∀ w ∈ gT, w.before ([.ref a, .long n] : List Value).toArray s = true := fun w hw => hts0 w (List.mem_cons_of_mem _ hw)
  have hown : s.vm.findClass RX12 = some m.cls := findClass_of_methodNamed B.named
  have hl := lv_entry [.ref a, .long n] (n := 14) (Nat.le_of_ble_eq_true rfl)
  rw [lg_entry_eq]
  generalize (lg_sl [.ref a, .long n] ++ List.replicate (14 - (lg_sl [.ref a, .long n]).length) Slot.unset).toArray = ls at hl ⊢
  have b_n := zn_i64 n
  have hD := zD_all h2 hKn.1
  have hcl := fun (idx k : Nat) (t : zt_T) (h : (idx, 11, k) ∈ gfX12) (hk : fsX12[k]? = some t) => zf_clause (ro := ro) (ms := [(11, 18), (11, 19), (11, 20)]) h2 hown hKn.1 gfX12_ok (by decide +kernel) idx 11 k 11 0 fsX12 t h rfl hk
  have kp0 : zc_kept D RTg ro [(11, 18), (11, 19), (11, 20)] s.heap s.heap := zc_kept.refl
  have hq0 : ∀ q : Nat, q ≠ a → s.heap[q]? = s.heap[q]? := fun _ _ => rfl
  refine lv_lload_n hx hb (eX12_civil (0, .lload_n 1, 1) (List.mem_of_getElem? (i := 0) rfl)) rfl (lv_at hl 1 rfl) ?_
  refine ff_ldc2 (n := 719468) hx hb hown h2 (clX12_ok 113 719468 (List.mem_of_getElem? (i := 11) rfl)) (eX12_civil (1, .ldc2_w 113, 3) (List.mem_of_getElem? (i := 1) rfl)) (fun v1 e1 => ?_)
  refine ff_ladd hx hb (eX12_civil (4, .ladd, 1) (List.mem_of_getElem? (i := 2) rfl)) (by omega) (by omega) (fun v2 e2 => ?_)
  refine lv_lstore_n hx hb (eX12_civil (5, .lstore_n 3, 1) (List.mem_of_getElem? (i := 3) rfl)) rfl hl (by decide) rfl (fun ls3 hl3 => ?_)
  refine lv_lload_n hx hb (eX12_civil (6, .lload_n 3, 1) (List.mem_of_getElem? (i := 4) rfl)) rfl (lv_at hl3 0 rfl) ?_
  refine ff_ldc2 (n := 146097) hx hb hown h2 (clX12_ok 109 146097 (List.mem_of_getElem? (i := 9) rfl)) (eX12_civil (7, .ldc2_w 109, 3) (List.mem_of_getElem? (i := 5) rfl)) (fun v4 e4 => ?_)
  refine zu_S (vs := [.long v2, .long v4]) (rest := []) hx hb hml hown hts0 zu_BT (hX12_downC l v2 v4 (by omega) (by omega) (by omega)) ⟨rfl, rfl⟩ ⟨by decide, by decide⟩ ⟨by decide, by decide⟩ (tb_6 139 rfl rfl) (tb_1 12 rfl rfl) (tb_6 137 rfl rfl) (tb_6 138 rfl rfl) (show yX12_down.cls ≠ "java/lang/invoke/MethodHandle" ∧ yX12_down.cls ≠ "java/lang/invoke/VarHandle" ∧ (parseMethodDescriptor yX12_down.desc).map (fun d => d.parameters.length) = some 2 by decide +kernel) rfl (fun _ _ _ => trivial) hl3.1 (Nat.le_of_ble_eq_true rfl) (eX12_civil (10, .invokestatic 99, 3) (List.mem_of_getElem? (i := 6) rfl)) (fun w5 f5 => ?_)
  obtain ⟨v5, rfl, e5⟩ := f5
  refine lv_lstore hx hb (eX12_civil (13, .lstore 5, 2) (List.mem_of_getElem? (i := 7) rfl)) hl3 (by decide) rfl (fun ls6 hl6 => ?_)
  refine lv_lload_n hx hb (eX12_civil (15, .lload_n 3, 1) (List.mem_of_getElem? (i := 8) rfl)) rfl (lv_at hl6 1 rfl) ?_
  refine lv_lload hx hb (eX12_civil (16, .lload 5, 2) (List.mem_of_getElem? (i := 9) rfl)) (lv_at hl6 0 rfl) ?_
  refine ff_ldc2 (n := 146097) hx hb hown h2 (clX12_ok 109 146097 (List.mem_of_getElem? (i := 9) rfl)) (eX12_civil (18, .ldc2_w 109, 3) (List.mem_of_getElem? (i := 10) rfl)) (fun v7 e7 => ?_)
  refine ff_lmulR hx hb (eX12_civil (21, .lmul, 1) (List.mem_of_getElem? (i := 11) rfl)) (e7) (by omega) (by omega) (fun v8 e8 => ?_)
  refine ff_lsub hx hb (eX12_civil (22, .lsub, 1) (List.mem_of_getElem? (i := 12) rfl)) (by omega) (by omega) (fun v9 e9 => ?_)
  refine lv_lstore hx hb (eX12_civil (23, .lstore 7, 2) (List.mem_of_getElem? (i := 13) rfl)) hl6 (by decide) rfl (fun ls10 hl10 => ?_)
  refine lv_lload hx hb (eX12_civil (25, .lload 7, 2) (List.mem_of_getElem? (i := 14) rfl)) (lv_at hl10 0 rfl) ?_
  refine lv_lload hx hb (eX12_civil (27, .lload 7, 2) (List.mem_of_getElem? (i := 15) rfl)) (lv_at hl10 0 rfl) ?_
  refine ff_ldc2 (n := 1460) hx hb hown h2 (clX12_ok 115 1460 (List.mem_of_getElem? (i := 12) rfl)) (eX12_civil (29, .ldc2_w 115, 3) (List.mem_of_getElem? (i := 16) rfl)) (fun v11 e11 => ?_)
  refine ff_ldivP hx hb (eX12_civil (32, .ldiv, 1) (List.mem_of_getElem? (i := 17) rfl)) (by omega) (e11) (by decide) (fun v12 e12 => ?_)
  refine ff_lsub hx hb (eX12_civil (33, .lsub, 1) (List.mem_of_getElem? (i := 18) rfl)) (by omega) (by omega) (fun v13 e13 => ?_)
  refine lv_lload hx hb (eX12_civil (34, .lload 7, 2) (List.mem_of_getElem? (i := 19) rfl)) (lv_at hl10 0 rfl) ?_
  refine ff_ldc2 (n := 36524) hx hb hown h2 (clX12_ok 117 36524 (List.mem_of_getElem? (i := 13) rfl)) (eX12_civil (36, .ldc2_w 117, 3) (List.mem_of_getElem? (i := 20) rfl)) (fun v14 e14 => ?_)
  refine ff_ldivP hx hb (eX12_civil (39, .ldiv, 1) (List.mem_of_getElem? (i := 21) rfl)) (by omega) (e14) (by decide) (fun v15 e15 => ?_)
  refine ff_ladd hx hb (eX12_civil (40, .ladd, 1) (List.mem_of_getElem? (i := 22) rfl)) (by omega) (by omega) (fun v16 e16 => ?_)
  refine lv_lload hx hb (eX12_civil (41, .lload 7, 2) (List.mem_of_getElem? (i := 23) rfl)) (lv_at hl10 0 rfl) ?_
  refine ff_ldc2 (n := 146096) hx hb hown h2 (clX12_ok 119 146096 (List.mem_of_getElem? (i := 14) rfl)) (eX12_civil (43, .ldc2_w 119, 3) (List.mem_of_getElem? (i := 24) rfl)) (fun v17 e17 => ?_)
  refine ff_ldivP hx hb (eX12_civil (46, .ldiv, 1) (List.mem_of_getElem? (i := 25) rfl)) (by omega) (e17) (by decide) (fun v18 e18 => ?_)
  refine ff_lsub hx hb (eX12_civil (47, .lsub, 1) (List.mem_of_getElem? (i := 26) rfl)) (by omega) (by omega) (fun v19 e19 => ?_)
  refine ff_ldc2 (n := 365) hx hb hown h2 (clX12_ok 111 365 (List.mem_of_getElem? (i := 10) rfl)) (eX12_civil (48, .ldc2_w 111, 3) (List.mem_of_getElem? (i := 27) rfl)) (fun v20 e20 => ?_)
  refine ff_ldivP hx hb (eX12_civil (51, .ldiv, 1) (List.mem_of_getElem? (i := 28) rfl)) (by omega) (e20) (by decide) (fun v21 e21 => ?_)
  have hyo : v21.toInt = cyD v9.toInt / 365 := by unfold cyD; omega
  have hin := cy_in (d := v9.toInt) (by omega) (by omega)
  have bd1 : 0 ≤ v21.toInt ∧ v21.toInt ≤ 399 := by rw [hyo]; exact ⟨hin.1, hin.2.1⟩
  have bd2 : 0 ≤ v9.toInt - (365 * v21.toInt + v21.toInt / 4 - v21.toInt / 100) ∧ v9.toInt - (365 * v21.toInt + v21.toInt / 4 - v21.toInt / 100) ≤ 365 := civ_pl hyo (by omega) (by omega)
  clear hin
  refine lv_lstore hx hb (eX12_civil (52, .lstore 9, 2) (List.mem_of_getElem? (i := 29) rfl)) hl10 (by decide) rfl (fun ls22 hl22 => ?_)
  refine lv_lload hx hb (eX12_civil (54, .lload 7, 2) (List.mem_of_getElem? (i := 30) rfl)) (lv_at hl22 1 rfl) ?_
  refine ff_ldc2 (n := 365) hx hb hown h2 (clX12_ok 111 365 (List.mem_of_getElem? (i := 10) rfl)) (eX12_civil (56, .ldc2_w 111, 3) (List.mem_of_getElem? (i := 31) rfl)) (fun v23 e23 => ?_)
  refine lv_lload hx hb (eX12_civil (59, .lload 9, 2) (List.mem_of_getElem? (i := 32) rfl)) (lv_at hl22 0 rfl) ?_
  refine ff_lmulL hx hb (eX12_civil (61, .lmul, 1) (List.mem_of_getElem? (i := 33) rfl)) (e23) (by omega) (by omega) (fun v24 e24 => ?_)
  refine lv_lload hx hb (eX12_civil (62, .lload 9, 2) (List.mem_of_getElem? (i := 34) rfl)) (lv_at hl22 0 rfl) ?_
  refine ff_ldc2 (n := 4) hx hb hown h2 (clX12_ok 89 4 (List.mem_of_getElem? (i := 3) rfl)) (eX12_civil (64, .ldc2_w 89, 3) (List.mem_of_getElem? (i := 35) rfl)) (fun v25 e25 => ?_)
  refine ff_ldivP hx hb (eX12_civil (67, .ldiv, 1) (List.mem_of_getElem? (i := 36) rfl)) (by omega) (e25) (by decide) (fun v26 e26 => ?_)
  refine ff_ladd hx hb (eX12_civil (68, .ladd, 1) (List.mem_of_getElem? (i := 37) rfl)) (by omega) (by omega) (fun v27 e27 => ?_)
  refine lv_lload hx hb (eX12_civil (69, .lload 9, 2) (List.mem_of_getElem? (i := 38) rfl)) (lv_at hl22 0 rfl) ?_
  refine ff_ldc2 (n := 100) hx hb hown h2 (clX12_ok 91 100 (List.mem_of_getElem? (i := 4) rfl)) (eX12_civil (71, .ldc2_w 91, 3) (List.mem_of_getElem? (i := 39) rfl)) (fun v28 e28 => ?_)
  refine ff_ldivP hx hb (eX12_civil (74, .ldiv, 1) (List.mem_of_getElem? (i := 40) rfl)) (by omega) (e28) (by decide) (fun v29 e29 => ?_)
  refine ff_lsub hx hb (eX12_civil (75, .lsub, 1) (List.mem_of_getElem? (i := 41) rfl)) (by omega) (by omega) (fun v30 e30 => ?_)
  refine ff_lsub hx hb (eX12_civil (76, .lsub, 1) (List.mem_of_getElem? (i := 42) rfl)) (by omega) (by omega) (fun v31 e31 => ?_)
  have bd3 : 0 ≤ v31.toInt ∧ v31.toInt ≤ 365 := by omega
  refine lv_lstore hx hb (eX12_civil (77, .lstore 11, 2) (List.mem_of_getElem? (i := 43) rfl)) hl22 (by decide) rfl (fun ls32 hl32 => ?_)
  refine ff_ldc2 (n := 5) hx hb hown h2 (clX12_ok 107 5 (List.mem_of_getElem? (i := 8) rfl)) (eX12_civil (79, .ldc2_w 107, 3) (List.mem_of_getElem? (i := 44) rfl)) (fun v33 e33 => ?_)
  refine lv_lload hx hb (eX12_civil (82, .lload 11, 2) (List.mem_of_getElem? (i := 45) rfl)) (lv_at hl32 0 rfl) ?_
  refine ff_lmulL hx hb (eX12_civil (84, .lmul, 1) (List.mem_of_getElem? (i := 46) rfl)) (e33) (by omega) (by omega) (fun v34 e34 => ?_)
  refine ff_ldc2 (n := 2) hx hb hown h2 (clX12_ok 105 2 (List.mem_of_getElem? (i := 7) rfl)) (eX12_civil (85, .ldc2_w 105, 3) (List.mem_of_getElem? (i := 47) rfl)) (fun v35 e35 => ?_)
  refine ff_ladd hx hb (eX12_civil (88, .ladd, 1) (List.mem_of_getElem? (i := 48) rfl)) (by omega) (by omega) (fun v36 e36 => ?_)
  refine ff_ldc2 (n := 153) hx hb hown h2 (clX12_ok 103 153 (List.mem_of_getElem? (i := 6) rfl)) (eX12_civil (89, .ldc2_w 103, 3) (List.mem_of_getElem? (i := 49) rfl)) (fun v37 e37 => ?_)
  refine ff_ldivP hx hb (eX12_civil (92, .ldiv, 1) (List.mem_of_getElem? (i := 50) rfl)) (by omega) (e37) (by decide) (fun v38 e38 => ?_)
  refine ff_l2i hx hb (eX12_civil (93, .l2i, 1) (List.mem_of_getElem? (i := 51) rfl)) (by omega) (by omega) (fun v39 e39 => ?_)
  have bd4 : 0 ≤ v39.toInt ∧ v39.toInt ≤ 11 := by omega
  refine lv_istore hx hb (eX12_civil (94, .istore 13, 2) (List.mem_of_getElem? (i := 52) rfl)) hl32 (by decide) rfl (fun ls40 hl40 => ?_)
  refine lv_aload_n hx hb (eX12_civil (96, .aload_n 0, 1) (List.mem_of_getElem? (i := 53) rfl)) rfl (lv_at hl40 6 rfl) ?_
  refine lv_lload hx hb (eX12_civil (97, .lload 11, 2) (List.mem_of_getElem? (i := 54) rfl)) (lv_at hl40 1 rfl) ?_
  refine ff_ldc2 (n := 153) hx hb hown h2 (clX12_ok 103 153 (List.mem_of_getElem? (i := 6) rfl)) (eX12_civil (99, .ldc2_w 103, 3) (List.mem_of_getElem? (i := 55) rfl)) (fun v41 e41 => ?_)
  refine lv_iload hx hb (eX12_civil (102, .iload 13, 2) (List.mem_of_getElem? (i := 56) rfl)) (lv_at hl40 0 rfl) ?_
  refine ff_i2l hx hb (eX12_civil (104, .i2l, 1) (List.mem_of_getElem? (i := 57) rfl)) (fun v42 e42 => ?_)
  refine ff_lmulL hx hb (eX12_civil (105, .lmul, 1) (List.mem_of_getElem? (i := 58) rfl)) (e41) (by omega) (by omega) (fun v43 e43 => ?_)
  refine ff_ldc2 (n := 2) hx hb hown h2 (clX12_ok 105 2 (List.mem_of_getElem? (i := 7) rfl)) (eX12_civil (106, .ldc2_w 105, 3) (List.mem_of_getElem? (i := 59) rfl)) (fun v44 e44 => ?_)
  refine ff_ladd hx hb (eX12_civil (109, .ladd, 1) (List.mem_of_getElem? (i := 60) rfl)) (by omega) (by omega) (fun v45 e45 => ?_)
  refine ff_ldc2 (n := 5) hx hb hown h2 (clX12_ok 107 5 (List.mem_of_getElem? (i := 8) rfl)) (eX12_civil (110, .ldc2_w 107, 3) (List.mem_of_getElem? (i := 61) rfl)) (fun v46 e46 => ?_)
  refine ff_ldivP hx hb (eX12_civil (113, .ldiv, 1) (List.mem_of_getElem? (i := 62) rfl)) (by omega) (e46) (by decide) (fun v47 e47 => ?_)
  refine ff_lsub hx hb (eX12_civil (114, .lsub, 1) (List.mem_of_getElem? (i := 63) rfl)) (by omega) (by omega) (fun v48 e48 => ?_)
  refine ff_lconst hx hb (eX12_civil (115, .lconst 1, 1) (List.mem_of_getElem? (i := 64) rfl)) rfl (fun v49 e49 => ?_)
  refine ff_ladd hx hb (eX12_civil (116, .ladd, 1) (List.mem_of_getElem? (i := 65) rfl)) (by omega) (by omega) (fun v50 e50 => ?_)
  refine ff_l2i hx hb (eX12_civil (117, .l2i, 1) (List.mem_of_getElem? (i := 66) rfl)) (by omega) (by omega) (fun v51 e51 => ?_)
  refine tz_put (r := 11) (k := 20) (t := (0, (-2147483648), 2147483647)) hx hb hD hh ha rfl rfl ((hcl 121 20 (0, (-2147483648), 2147483647) (by decide) rfl).2 (by decide)) (tz_i (zn_i32 _).1 (zn_i32 _).2) (eX12_civil (118, .putfield 121, 3) (List.mem_of_getElem? (i := 67) rfl)) (fun H52 lo52 hh52 hf52 hk52 _ hq52 => ?_)
  have kp52 := kp0.trans (hk52.mono (ms' := [(11, 18), (11, 19), (11, 20)]) (fun x hx => by cases List.mem_singleton.mp hx; decide))
  have hqq52 := fun (q : Nat) (g : q ≠ a) => (hq52 q g).trans (hq0 q g)
  refine lv_aload_n hx hb (eX12_civil (121, .aload_n 0, 1) (List.mem_of_getElem? (i := 68) rfl)) rfl (lv_at hl40 6 rfl) ?_
  refine lv_iload hx hb (eX12_civil (122, .iload 13, 2) (List.mem_of_getElem? (i := 69) rfl)) (lv_at hl40 0 rfl) ?_
  refine ff_bipush hx hb (eX12_civil (124, .bipush 10, 2) (List.mem_of_getElem? (i := 70) rfl)) (by decide) (by decide) (fun v53 e53 => ?_)
  refine ff_icmp_ge hx hb (eX12_civil (126, .if_icmp .ge 10, 3) (List.mem_of_getElem? (i := 71) rfl)) (tgt := 136) rfl (fun c54 => ?_) (fun c54 => ?_)
  · skip
    refine lv_iload hx hb (eX12_civil (136, .iload 13, 2) (List.mem_of_getElem? (i := 76) rfl)) (lv_at hl40 0 rfl) ?_
    refine ff_bipush hx hb (eX12_civil (138, .bipush 9, 2) (List.mem_of_getElem? (i := 77) rfl)) (by decide) (by decide) (fun v55 e55 => ?_)
    refine ff_isub hx hb (eX12_civil (140, .isub, 1) (List.mem_of_getElem? (i := 78) rfl)) (by omega) (by omega) (fun v56 e56 => ?_)
    refine tz_put (r := 11) (k := 19) (t := (0, (-2147483648), 2147483647)) hx hb hD hh52 ha rfl rfl ((hcl 124 19 (0, (-2147483648), 2147483647) (by decide) rfl).2 (by decide)) (tz_i (zn_i32 _).1 (zn_i32 _).2) (eX12_civil (141, .putfield 124, 3) (List.mem_of_getElem? (i := 79) rfl)) (fun H57 lo57 hh57 hf57 hk57 _ hq57 => ?_)
    have kp57 := kp52.trans (hk57.mono (ms' := [(11, 18), (11, 19), (11, 20)]) (fun x hx => by cases List.mem_singleton.mp hx; decide))
    have hqq57 := fun (q : Nat) (g : q ≠ a) => (hq57 q g).trans (hqq52 q g)
    have hf57_20 := (hk57.1 a 11 20 11 0 fsX12 ha rfl (by decide) (by decide)).trans hf52
    refine lv_aload_n hx hb (eX12_civil (144, .aload_n 0, 1) (List.mem_of_getElem? (i := 80) rfl)) rfl (lv_at hl40 6 rfl) ?_
    refine lv_lload hx hb (eX12_civil (145, .lload 9, 2) (List.mem_of_getElem? (i := 81) rfl)) (lv_at hl40 2 rfl) ?_
    refine lv_lload hx hb (eX12_civil (147, .lload 5, 2) (List.mem_of_getElem? (i := 82) rfl)) (lv_at hl40 4 rfl) ?_
    refine ff_ldc2 (n := 400) hx hb hown h2 (clX12_ok 93 400 (List.mem_of_getElem? (i := 5) rfl)) (eX12_civil (149, .ldc2_w 93, 3) (List.mem_of_getElem? (i := 83) rfl)) (fun v58 e58 => ?_)
    refine ff_lmulR hx hb (eX12_civil (152, .lmul, 1) (List.mem_of_getElem? (i := 84) rfl)) (e58) (by omega) (by omega) (fun v59 e59 => ?_)
    refine ff_ladd hx hb (eX12_civil (153, .ladd, 1) (List.mem_of_getElem? (i := 85) rfl)) (by omega) (by omega) (fun v60 e60 => ?_)
    refine lv_aload_n hx hb (eX12_civil (154, .aload_n 0, 1) (List.mem_of_getElem? (i := 86) rfl)) rfl (lv_at hl40 6 rfl) ?_
    refine tz_get (r := 11) (k := 19) (t := (0, (-2147483648), 2147483647)) hx hb hh57 ha rfl rfl (hcl 124 19 (0, (-2147483648), 2147483647) (by decide) rfl).1 hf57 (eX12_civil (155, .getfield 124, 3) (List.mem_of_getElem? (i := 87) rfl)) ?_
    refine ff_iconst hx hb (eX12_civil (158, .iconst 2, 1) (List.mem_of_getElem? (i := 88) rfl)) (by decide) (by decide) (fun v61 e61 => ?_)
    refine ff_icmp_gt hx hb (eX12_civil (159, .if_icmp .gt 7, 3) (List.mem_of_getElem? (i := 89) rfl)) (tgt := 166) rfl (fun c62 => ?_) (fun c62 => ?_)
    · skip
      refine ff_lconst hx hb (eX12_civil (166, .lconst 0, 1) (List.mem_of_getElem? (i := 92) rfl)) rfl (fun v63 e63 => ?_)
      refine ff_ladd hx hb (eX12_civil (167, .ladd, 1) (List.mem_of_getElem? (i := 93) rfl)) (by omega) (by omega) (fun v64 e64 => ?_)
      refine tz_put (r := 11) (k := 18) (t := (1, (-9223372036854775808), 9223372036854775807)) hx hb hD hh57 ha rfl rfl ((hcl 127 18 (1, (-9223372036854775808), 9223372036854775807) (by decide) rfl).2 (by decide)) (tz_l (zn_i64 _).1 (zn_i64 _).2) (eX12_civil (168, .putfield 127, 3) (List.mem_of_getElem? (i := 94) rfl)) (fun H65 lo65 hh65 hf65 hk65 _ hq65 => ?_)
      have kp65 := kp57.trans (hk65.mono (ms' := [(11, 18), (11, 19), (11, 20)]) (fun x hx => by cases List.mem_singleton.mp hx; decide))
      have hqq65 := fun (q : Nat) (g : q ≠ a) => (hq65 q g).trans (hqq57 q g)
      have hf65_20 := (hk65.1 a 11 20 11 0 fsX12 ha rfl (by decide) (by decide)).trans hf57_20
      have hf65_19 := (hk65.1 a 11 19 11 0 fsX12 ha rfl (by decide) (by decide)).trans hf57
      exact W.vret hx hb hr (fun t ht hW => ⟨rfl, by rw [ht]; exact hh65.l0, fun q hq => by rw [ht]; exact hqq65 q hq, by rw [ht]; exact kp65, v64, v56, v51, by rw [ht]; exact hf65, by rw [ht]; exact hf65_19, by rw [ht]; exact hf65_20, cv_ok (era := v5.toInt) (d := v9.toInt) (yo := v21.toInt) (pl := v31.toInt) (mp := v39.toInt) (by omega) (by omega) (by omega) hyo (by omega) (by omega) (by omega) (by omega) (by omega)⟩) hh65.2.2.1 (eX12_civil (171, .return_, 1) (List.mem_of_getElem? (i := 95) rfl))
    · skip
      refine ff_lconst hx hb (eX12_civil (162, .lconst 1, 1) (List.mem_of_getElem? (i := 90) rfl)) rfl (fun v66 e66 => ?_)
      refine lv_goto hx hb (eX12_civil (163, .goto 4, 3) (List.mem_of_getElem? (i := 91) rfl)) (tgt := 167) rfl ?_
      refine ff_ladd hx hb (eX12_civil (167, .ladd, 1) (List.mem_of_getElem? (i := 93) rfl)) (by omega) (by omega) (fun v67 e67 => ?_)
      refine tz_put (r := 11) (k := 18) (t := (1, (-9223372036854775808), 9223372036854775807)) hx hb hD hh57 ha rfl rfl ((hcl 127 18 (1, (-9223372036854775808), 9223372036854775807) (by decide) rfl).2 (by decide)) (tz_l (zn_i64 _).1 (zn_i64 _).2) (eX12_civil (168, .putfield 127, 3) (List.mem_of_getElem? (i := 94) rfl)) (fun H68 lo68 hh68 hf68 hk68 _ hq68 => ?_)
      have kp68 := kp57.trans (hk68.mono (ms' := [(11, 18), (11, 19), (11, 20)]) (fun x hx => by cases List.mem_singleton.mp hx; decide))
      have hqq68 := fun (q : Nat) (g : q ≠ a) => (hq68 q g).trans (hqq57 q g)
      have hf68_20 := (hk68.1 a 11 20 11 0 fsX12 ha rfl (by decide) (by decide)).trans hf57_20
      have hf68_19 := (hk68.1 a 11 19 11 0 fsX12 ha rfl (by decide) (by decide)).trans hf57
      exact W.vret hx hb hr (fun t ht hW => ⟨rfl, by rw [ht]; exact hh68.l0, fun q hq => by rw [ht]; exact hqq68 q hq, by rw [ht]; exact kp68, v67, v56, v51, by rw [ht]; exact hf68, by rw [ht]; exact hf68_19, by rw [ht]; exact hf68_20, cv_ok (era := v5.toInt) (d := v9.toInt) (yo := v21.toInt) (pl := v31.toInt) (mp := v39.toInt) (by omega) (by omega) (by omega) hyo (by omega) (by omega) (by omega) (by omega) (by omega)⟩) hh68.2.2.1 (eX12_civil (171, .return_, 1) (List.mem_of_getElem? (i := 95) rfl))
  · skip
    refine lv_iload hx hb (eX12_civil (129, .iload 13, 2) (List.mem_of_getElem? (i := 72) rfl)) (lv_at hl40 0 rfl) ?_
    refine ff_iconst hx hb (eX12_civil (131, .iconst 3, 1) (List.mem_of_getElem? (i := 73) rfl)) (by decide) (by decide) (fun v69 e69 => ?_)
    refine ff_iadd hx hb (eX12_civil (132, .iadd, 1) (List.mem_of_getElem? (i := 74) rfl)) (by omega) (by omega) (fun v70 e70 => ?_)
    refine lv_goto hx hb (eX12_civil (133, .goto 8, 3) (List.mem_of_getElem? (i := 75) rfl)) (tgt := 141) rfl ?_
    refine tz_put (r := 11) (k := 19) (t := (0, (-2147483648), 2147483647)) hx hb hD hh52 ha rfl rfl ((hcl 124 19 (0, (-2147483648), 2147483647) (by decide) rfl).2 (by decide)) (tz_i (zn_i32 _).1 (zn_i32 _).2) (eX12_civil (141, .putfield 124, 3) (List.mem_of_getElem? (i := 79) rfl)) (fun H71 lo71 hh71 hf71 hk71 _ hq71 => ?_)
    have kp71 := kp52.trans (hk71.mono (ms' := [(11, 18), (11, 19), (11, 20)]) (fun x hx => by cases List.mem_singleton.mp hx; decide))
    have hqq71 := fun (q : Nat) (g : q ≠ a) => (hq71 q g).trans (hqq52 q g)
    have hf71_20 := (hk71.1 a 11 20 11 0 fsX12 ha rfl (by decide) (by decide)).trans hf52
    refine lv_aload_n hx hb (eX12_civil (144, .aload_n 0, 1) (List.mem_of_getElem? (i := 80) rfl)) rfl (lv_at hl40 6 rfl) ?_
    refine lv_lload hx hb (eX12_civil (145, .lload 9, 2) (List.mem_of_getElem? (i := 81) rfl)) (lv_at hl40 2 rfl) ?_
    refine lv_lload hx hb (eX12_civil (147, .lload 5, 2) (List.mem_of_getElem? (i := 82) rfl)) (lv_at hl40 4 rfl) ?_
    refine ff_ldc2 (n := 400) hx hb hown h2 (clX12_ok 93 400 (List.mem_of_getElem? (i := 5) rfl)) (eX12_civil (149, .ldc2_w 93, 3) (List.mem_of_getElem? (i := 83) rfl)) (fun v72 e72 => ?_)
    refine ff_lmulR hx hb (eX12_civil (152, .lmul, 1) (List.mem_of_getElem? (i := 84) rfl)) (e72) (by omega) (by omega) (fun v73 e73 => ?_)
    refine ff_ladd hx hb (eX12_civil (153, .ladd, 1) (List.mem_of_getElem? (i := 85) rfl)) (by omega) (by omega) (fun v74 e74 => ?_)
    refine lv_aload_n hx hb (eX12_civil (154, .aload_n 0, 1) (List.mem_of_getElem? (i := 86) rfl)) rfl (lv_at hl40 6 rfl) ?_
    refine tz_get (r := 11) (k := 19) (t := (0, (-2147483648), 2147483647)) hx hb hh71 ha rfl rfl (hcl 124 19 (0, (-2147483648), 2147483647) (by decide) rfl).1 hf71 (eX12_civil (155, .getfield 124, 3) (List.mem_of_getElem? (i := 87) rfl)) ?_
    refine ff_iconst hx hb (eX12_civil (158, .iconst 2, 1) (List.mem_of_getElem? (i := 88) rfl)) (by decide) (by decide) (fun v75 e75 => ?_)
    refine ff_icmp_gt hx hb (eX12_civil (159, .if_icmp .gt 7, 3) (List.mem_of_getElem? (i := 89) rfl)) (tgt := 166) rfl (fun c76 => ?_) (fun c76 => ?_)
    · skip
      refine ff_lconst hx hb (eX12_civil (166, .lconst 0, 1) (List.mem_of_getElem? (i := 92) rfl)) rfl (fun v77 e77 => ?_)
      refine ff_ladd hx hb (eX12_civil (167, .ladd, 1) (List.mem_of_getElem? (i := 93) rfl)) (by omega) (by omega) (fun v78 e78 => ?_)
      refine tz_put (r := 11) (k := 18) (t := (1, (-9223372036854775808), 9223372036854775807)) hx hb hD hh71 ha rfl rfl ((hcl 127 18 (1, (-9223372036854775808), 9223372036854775807) (by decide) rfl).2 (by decide)) (tz_l (zn_i64 _).1 (zn_i64 _).2) (eX12_civil (168, .putfield 127, 3) (List.mem_of_getElem? (i := 94) rfl)) (fun H79 lo79 hh79 hf79 hk79 _ hq79 => ?_)
      have kp79 := kp71.trans (hk79.mono (ms' := [(11, 18), (11, 19), (11, 20)]) (fun x hx => by cases List.mem_singleton.mp hx; decide))
      have hqq79 := fun (q : Nat) (g : q ≠ a) => (hq79 q g).trans (hqq71 q g)
      have hf79_20 := (hk79.1 a 11 20 11 0 fsX12 ha rfl (by decide) (by decide)).trans hf71_20
      have hf79_19 := (hk79.1 a 11 19 11 0 fsX12 ha rfl (by decide) (by decide)).trans hf71
      exact W.vret hx hb hr (fun t ht hW => ⟨rfl, by rw [ht]; exact hh79.l0, fun q hq => by rw [ht]; exact hqq79 q hq, by rw [ht]; exact kp79, v78, v70, v51, by rw [ht]; exact hf79, by rw [ht]; exact hf79_19, by rw [ht]; exact hf79_20, cv_ok (era := v5.toInt) (d := v9.toInt) (yo := v21.toInt) (pl := v31.toInt) (mp := v39.toInt) (by omega) (by omega) (by omega) hyo (by omega) (by omega) (by omega) (by omega) (by omega)⟩) hh79.2.2.1 (eX12_civil (171, .return_, 1) (List.mem_of_getElem? (i := 95) rfl))
    · skip
      refine ff_lconst hx hb (eX12_civil (162, .lconst 1, 1) (List.mem_of_getElem? (i := 90) rfl)) rfl (fun v80 e80 => ?_)
      refine lv_goto hx hb (eX12_civil (163, .goto 4, 3) (List.mem_of_getElem? (i := 91) rfl)) (tgt := 167) rfl ?_
      refine ff_ladd hx hb (eX12_civil (167, .ladd, 1) (List.mem_of_getElem? (i := 93) rfl)) (by omega) (by omega) (fun v81 e81 => ?_)
      refine tz_put (r := 11) (k := 18) (t := (1, (-9223372036854775808), 9223372036854775807)) hx hb hD hh71 ha rfl rfl ((hcl 127 18 (1, (-9223372036854775808), 9223372036854775807) (by decide) rfl).2 (by decide)) (tz_l (zn_i64 _).1 (zn_i64 _).2) (eX12_civil (168, .putfield 127, 3) (List.mem_of_getElem? (i := 94) rfl)) (fun H82 lo82 hh82 hf82 hk82 _ hq82 => ?_)
      have kp82 := kp71.trans (hk82.mono (ms' := [(11, 18), (11, 19), (11, 20)]) (fun x hx => by cases List.mem_singleton.mp hx; decide))
      have hqq82 := fun (q : Nat) (g : q ≠ a) => (hq82 q g).trans (hqq71 q g)
      have hf82_20 := (hk82.1 a 11 20 11 0 fsX12 ha rfl (by decide) (by decide)).trans hf71_20
      have hf82_19 := (hk82.1 a 11 19 11 0 fsX12 ha rfl (by decide) (by decide)).trans hf71
      exact W.vret hx hb hr (fun t ht hW => ⟨rfl, by rw [ht]; exact hh82.l0, fun q hq => by rw [ht]; exact hqq82 q hq, by rw [ht]; exact kp82, v81, v70, v51, by rw [ht]; exact hf82, by rw [ht]; exact hf82_19, by rw [ht]; exact hf82_20, cv_ok (era := v5.toInt) (d := v9.toInt) (yo := v21.toInt) (pl := v31.toInt) (mp := v39.toInt) (by omega) (by omega) (by omega) hyo (by omega) (by omega) (by omega) (by omega) (by omega)⟩) hh82.2.2.1 (eX12_civil (171, .return_, 1) (List.mem_of_getElem? (i := 95) rfl))
set_option maxRecDepth 100000 in
set_option maxHeartbeats 4000000 in
theorem hX12_weekYearOf (l : Launch) (D : va_G) (cA : Nat → ClassId) (ro : Nat → Option Nat) (sz : Nat) (H0 : Heap) (a : Nat) (n : Int64) (ha : ro a = some 11) (hn1 : -365961662 ≤ n.toInt) (hn2 : n.toInt ≤ 364522971) : Met l yX12_weekYearOf (gW yX12_weekYearOf cX12_weekYearOf 5 (some .long)) { frames := 3, cells := 0, slots := 0, locals := 79 } (zd_Pc D cA ro sz H0 [.ref a, .long n]) (zg_wyQ D cA ro sz H0 a n.toInt) 0 0 (zy_fr sz) := by
  refine zy_ofW (cc := cX12_weekYearOf) (maxL := 5) (ret := (some .long)) (by decide +kernel) rfl ?_
  intro p e s m args below meth c s1 B hml hv
  obtain ⟨rfl, hh, hKn⟩ := hv
  have hx := B.exec
  have hb := B.bytes
  have hr := B.returns
  have hlk := B.notSynchronized
  have hts0 := atoms_spec (ws := gW yX12_weekYearOf cX12_weekYearOf 5 (some .long)) B.pre
  have h2 : ∀ w ∈ gT, w.before ([.ref a, .long n] : List Value).toArray s = true := fun w hw => hts0 w (List.mem_cons_of_mem _ hw)
  have hown : s.vm.findClass RX12 = some m.cls := findClass_of_methodNamed B.named
  have hl := lv_entry [.ref a, .long n] (n := 5) (Nat.le_of_ble_eq_true rfl)
  rw [lg_entry_eq]
  generalize (lg_sl [.ref a, .long n] ++ List.replicate (5 - (lg_sl [.ref a, .long n]).length) Slot.unset).toArray = ls at hl ⊢
  have b_n := zn_i64 n
  have hD := zD_all h2 hKn.1
  have hcl := fun (idx k : Nat) (t : zt_T) (h : (idx, 11, k) ∈ gfX12) (hk : fsX12[k]? = some t) => zf_clause (ro := ro) (ms := [(11, 18), (11, 19), (11, 20)]) h2 hown hKn.1 gfX12_ok (by decide +kernel) idx 11 k 11 0 fsX12 t h rfl hk
  have kp0 : zc_kept D RTg ro [(11, 18), (11, 19), (11, 20)] s.heap s.heap := zc_kept.refl
  have hq0 : ∀ q : Nat, q ≠ a → s.heap[q]? = s.heap[q]? := fun _ _ => rfl
  refine lv_aload_n hx hb (eX12_weekYearOf (0, .aload_n 0, 1) (List.mem_of_getElem? (i := 0) rfl)) rfl (lv_at hl 0 rfl) ?_
  refine lv_lload_n hx hb (eX12_weekYearOf (1, .lload_n 1, 1) (List.mem_of_getElem? (i := 1) rfl)) rfl (lv_at hl 1 rfl) ?_
  refine tz_rowV (As := [.long n]) (st := []) (b := a) (C := RX12) (Ts := gT) hx hb hml hown h2 (fun _ h => h) (hX12_civil l D cA ro sz H0 a n ha (by omega) (by omega)) ⟨rfl, rfl⟩ ⟨by decide, by decide⟩ ⟨by decide, by decide⟩ (tb_7 71 rfl rfl) (tb_1 12 rfl rfl) (tb_7 68 rfl rfl) (tb_7 70 rfl rfl) (tb_0 6 rfl rfl) (show yX12_civil.cls ≠ "java/lang/invoke/MethodHandle" ∧ yX12_civil.cls ≠ "java/lang/invoke/VarHandle" ∧ (parseMethodDescriptor yX12_civil.desc).map (fun d => d.parameters.length) = some 1 by decide +kernel) zd_blind (zg_ob12 hh hKn.1 ha) (fun U hU hW => ⟨rfl, by rw [hU]; exact hh.l0, zKb s U hW.alike hKn⟩) hh.2.2.1 hl.1 (Nat.le_of_ble_eq_true rfl) (eX12_weekYearOf (2, .invokevirtual 146, 3) (List.mem_of_getElem? (i := 2) rfl)) (fun r1 s1 t1 lo1 g1 f1 l1 => ?_)
  obtain ⟨q1, z1, u1, c1, y1, m1, d1, hy1, hm1, hd1, cv1⟩ := f1
  cases q1
  rw [g1] at u1 c1
  have hh1 : zh_ok D cA RTg ro sz H0 t1.heap lo1 := ⟨z1.1, z1.2.1, l1, z1.2.2.2⟩
  have kp1 := kp0.trans (c1.mono (ms' := [(11, 18), (11, 19), (11, 20)]) (fun x hx => by revert hx; revert x; decide))
  have hqq1 := fun (q : Nat) (g : q ≠ a) => (u1 q g).trans (hq0 q g)
  have iy1 := cvP_isY cv1
  have by1 := isY_in iy1 (by omega) (by omega)
  have bv1 : 1 ≤ m1.toInt ∧ m1.toInt ≤ 12 := ⟨cv1.1, cv1.2.1⟩
  refine W.eq (g2 := F0 m 5 ls []) rfl ?_
  refine lv_aload_n hx hb (eX12_weekYearOf (5, .aload_n 0, 1) (List.mem_of_getElem? (i := 3) rfl)) rfl (lv_at hl 0 rfl) ?_
  refine tz_get (r := 11) (k := 18) (t := (1, (-9223372036854775808), 9223372036854775807)) hx hb hh1 ha rfl rfl (hcl 127 18 (1, (-9223372036854775808), 9223372036854775807) (by decide) rfl).1 hy1 (eX12_weekYearOf (6, .getfield 127, 3) (List.mem_of_getElem? (i := 4) rfl)) ?_
  refine lv_lstore_n hx hb (eX12_weekYearOf (9, .lstore_n 3, 1) (List.mem_of_getElem? (i := 5) rfl)) rfl hl (by decide) rfl (fun ls2 hl2 => ?_)
  refine lv_lload_n hx hb (eX12_weekYearOf (10, .lload_n 1, 1) (List.mem_of_getElem? (i := 6) rfl)) rfl (lv_at hl2 2 rfl) ?_
  refine lv_lload_n hx hb (eX12_weekYearOf (11, .lload_n 3, 1) (List.mem_of_getElem? (i := 7) rfl)) rfl (lv_at hl2 0 rfl) ?_
  refine ff_lconst hx hb (eX12_weekYearOf (12, .lconst 1, 1) (List.mem_of_getElem? (i := 8) rfl)) rfl (fun v3 e3 => ?_)
  refine ff_ladd hx hb (eX12_weekYearOf (13, .ladd, 1) (List.mem_of_getElem? (i := 9) rfl)) (by omega) (by omega) (fun v4 e4 => ?_)
  refine zu_S (vs := [.long v4]) (rest := [.long n]) hx hb hml hown hts0 zu_BT (hX12_firstWeek l v4 (by omega) (by omega)) ⟨rfl, rfl⟩ ⟨by decide, by decide⟩ ⟨by decide, by decide⟩ (tb_7 77 rfl rfl) (tb_1 12 rfl rfl) (tb_7 75 rfl rfl) (tb_7 76 rfl rfl) (show yX12_firstWeek.cls ≠ "java/lang/invoke/MethodHandle" ∧ yX12_firstWeek.cls ≠ "java/lang/invoke/VarHandle" ∧ (parseMethodDescriptor yX12_firstWeek.desc).map (fun d => d.parameters.length) = some 1 by decide +kernel) rfl (fun _ _ _ => trivial) hl2.1 (Nat.le_of_ble_eq_true rfl) (eX12_weekYearOf (14, .invokestatic 142, 3) (List.mem_of_getElem? (i := 10) rfl)) (fun w5 f5 => ?_)
  obtain ⟨v5, rfl, e5⟩ := f5
  have g5 := (show v5.toInt = fwI (y1.toInt + 1) by rw [e5, show v4.toInt = y1.toInt + 1 by omega])
  refine ff_lcmp hx hb (eX12_weekYearOf (17, .lcmp, 1) (List.mem_of_getElem? (i := 11) rfl)) (fun v6 e6 => ?_)
  refine ff_if_lt hx hb (eX12_weekYearOf (18, .ifCond .lt 9, 3) (List.mem_of_getElem? (i := 12) rfl)) (tgt := 27) rfl (fun c7 => ?_) (fun c7 => ?_)
  · skip
    refine lv_lload_n hx hb (eX12_weekYearOf (27, .lload_n 1, 1) (List.mem_of_getElem? (i := 17) rfl)) rfl (lv_at hl2 2 rfl) ?_
    refine lv_lload_n hx hb (eX12_weekYearOf (28, .lload_n 3, 1) (List.mem_of_getElem? (i := 18) rfl)) rfl (lv_at hl2 0 rfl) ?_
    refine zu_S (vs := [.long y1]) (rest := [.long n]) hx hb hml hown hts0 zu_BT (hX12_firstWeek l y1 (by omega) (by omega)) ⟨rfl, rfl⟩ ⟨by decide, by decide⟩ ⟨by decide, by decide⟩ (tb_7 77 rfl rfl) (tb_1 12 rfl rfl) (tb_7 75 rfl rfl) (tb_7 76 rfl rfl) (show yX12_firstWeek.cls ≠ "java/lang/invoke/MethodHandle" ∧ yX12_firstWeek.cls ≠ "java/lang/invoke/VarHandle" ∧ (parseMethodDescriptor yX12_firstWeek.desc).map (fun d => d.parameters.length) = some 1 by decide +kernel) rfl (fun _ _ _ => trivial) hl2.1 (Nat.le_of_ble_eq_true rfl) (eX12_weekYearOf (29, .invokestatic 142, 3) (List.mem_of_getElem? (i := 19) rfl)) (fun w8 f8 => ?_)
    obtain ⟨v8, rfl, e8⟩ := f8
    refine ff_lcmp hx hb (eX12_weekYearOf (32, .lcmp, 1) (List.mem_of_getElem? (i := 20) rfl)) (fun v9 e9 => ?_)
    refine ff_if_ge hx hb (eX12_weekYearOf (33, .ifCond .ge 9, 3) (List.mem_of_getElem? (i := 21) rfl)) (tgt := 42) rfl (fun c10 => ?_) (fun c10 => ?_)
    · skip
      refine lv_lload_n hx hb (eX12_weekYearOf (42, .lload_n 3, 1) (List.mem_of_getElem? (i := 26) rfl)) rfl (lv_at hl2 0 rfl) ?_
      have h9 := wy_ref iy1
      have h8 : isY (thI n.toInt) y1.toInt := by first | (rw [show y1.toInt = y1.toInt + 1 by omega]; exact h9.1 (by omega)) | (rw [show y1.toInt = y1.toInt - 1 by omega]; exact h9.2.1 (by omega)) | (rw [show y1.toInt = y1.toInt by omega]; exact h9.2.2 (by omega) (by omega))
      exact W.lret hx hb hr (fun t ht hW => ⟨_, rfl, by rw [ht]; exact hh1.l0, fun q hq => by rw [ht]; exact hqq1 q hq, by rw [ht]; exact kp1, h8, isY_in2 h8 (by have := th_bd n.toInt; omega) (by have := th_bd n.toInt; omega)⟩) hh1.2.2.1 (eX12_weekYearOf (43, .lreturn, 1) (List.mem_of_getElem? (i := 27) rfl))
    · skip
      refine lv_lload_n hx hb (eX12_weekYearOf (36, .lload_n 3, 1) (List.mem_of_getElem? (i := 22) rfl)) rfl (lv_at hl2 0 rfl) ?_
      refine ff_lconst hx hb (eX12_weekYearOf (37, .lconst 1, 1) (List.mem_of_getElem? (i := 23) rfl)) rfl (fun v11 e11 => ?_)
      refine ff_lsub hx hb (eX12_weekYearOf (38, .lsub, 1) (List.mem_of_getElem? (i := 24) rfl)) (by omega) (by omega) (fun v12 e12 => ?_)
      refine lv_goto hx hb (eX12_weekYearOf (39, .goto 4, 3) (List.mem_of_getElem? (i := 25) rfl)) (tgt := 43) rfl ?_
      have h9 := wy_ref iy1
      have h8 : isY (thI n.toInt) v12.toInt := by first | (rw [show v12.toInt = y1.toInt + 1 by omega]; exact h9.1 (by omega)) | (rw [show v12.toInt = y1.toInt - 1 by omega]; exact h9.2.1 (by omega)) | (rw [show v12.toInt = y1.toInt by omega]; exact h9.2.2 (by omega) (by omega))
      exact W.lret hx hb hr (fun t ht hW => ⟨_, rfl, by rw [ht]; exact hh1.l0, fun q hq => by rw [ht]; exact hqq1 q hq, by rw [ht]; exact kp1, h8, isY_in2 h8 (by have := th_bd n.toInt; omega) (by have := th_bd n.toInt; omega)⟩) hh1.2.2.1 (eX12_weekYearOf (43, .lreturn, 1) (List.mem_of_getElem? (i := 27) rfl))
  · skip
    refine lv_lload_n hx hb (eX12_weekYearOf (21, .lload_n 3, 1) (List.mem_of_getElem? (i := 13) rfl)) rfl (lv_at hl2 0 rfl) ?_
    refine ff_lconst hx hb (eX12_weekYearOf (22, .lconst 1, 1) (List.mem_of_getElem? (i := 14) rfl)) rfl (fun v13 e13 => ?_)
    refine ff_ladd hx hb (eX12_weekYearOf (23, .ladd, 1) (List.mem_of_getElem? (i := 15) rfl)) (by omega) (by omega) (fun v14 e14 => ?_)
    refine lv_goto hx hb (eX12_weekYearOf (24, .goto 19, 3) (List.mem_of_getElem? (i := 16) rfl)) (tgt := 43) rfl ?_
    have h9 := wy_ref iy1
    have h8 : isY (thI n.toInt) v14.toInt := by first | (rw [show v14.toInt = y1.toInt + 1 by omega]; exact h9.1 (by omega)) | (rw [show v14.toInt = y1.toInt - 1 by omega]; exact h9.2.1 (by omega)) | (rw [show v14.toInt = y1.toInt by omega]; exact h9.2.2 (by omega) (by omega))
    exact W.lret hx hb hr (fun t ht hW => ⟨_, rfl, by rw [ht]; exact hh1.l0, fun q hq => by rw [ht]; exact hqq1 q hq, by rw [ht]; exact kp1, h8, isY_in2 h8 (by have := th_bd n.toInt; omega) (by have := th_bd n.toInt; omega)⟩) hh1.2.2.1 (eX12_weekYearOf (43, .lreturn, 1) (List.mem_of_getElem? (i := 27) rfl))
set_option maxRecDepth 100000 in
set_option maxHeartbeats 4000000 in
theorem hX12_date (l : Launch) (D : va_G) (cA : Nat → ClassId) (ro : Nat → Option Nat) (sz : Nat) (H0 : Heap) (a : Nat) (n : Int64) (k : Int32) (ha : ro a = some 11)  : Met l yX12_date (gW yX12_date cX12_date 6 (some .int)) { frames := 4, cells := 0, slots := 0, locals := 103 } (zd_Pc D cA ro sz H0 [.ref a, .long n, .int k]) (zg_Qi D cA ro sz H0 a (dvD n.toInt k.toInt) (dtP n.toInt k.toInt)) 0 0 (zy_fr sz) := by
  refine zy_ofW (cc := cX12_date) (maxL := 6) (ret := (some .int)) (by decide +kernel) rfl ?_
  intro p e s m args below meth c s1 B hml hv
  obtain ⟨rfl, hh, hKn⟩ := hv
  have hx := B.exec
  have hb := B.bytes
  have hr := B.returns
  have hlk := B.notSynchronized
  have hts0 := atoms_spec (ws := gW yX12_date cX12_date 6 (some .int)) B.pre
  have h2 : ∀ w ∈ gT, w.before ([.ref a, .long n, .int k] : List Value).toArray s = true := fun w hw => hts0 w (List.mem_cons_of_mem _ hw)
  have hown : s.vm.findClass RX12 = some m.cls := findClass_of_methodNamed B.named
  have hl := lv_entry [.ref a, .long n, .int k] (n := 6) (Nat.le_of_ble_eq_true rfl)
  rw [lg_entry_eq]
  generalize (lg_sl [.ref a, .long n, .int k] ++ List.replicate (6 - (lg_sl [.ref a, .long n, .int k]).length) Slot.unset).toArray = ls at hl ⊢
  have b_n := zn_i64 n
  have b_k := zn_i32 k
  have hD := zD_all h2 hKn.1
  have hcl := fun (idx k : Nat) (t : zt_T) (h : (idx, 11, k) ∈ gfX12) (hk : fsX12[k]? = some t) => zf_clause (ro := ro) (ms := [(11, 0), (11, 18), (11, 19), (11, 20)]) h2 hown hKn.1 gfX12_ok (by decide +kernel) idx 11 k 11 0 fsX12 t h rfl hk
  have kp0 : zc_kept D RTg ro [(11, 0), (11, 18), (11, 19), (11, 20)] s.heap s.heap := zc_kept.refl
  have hq0 : ∀ q : Nat, q ≠ a → s.heap[q]? = s.heap[q]? := fun _ _ => rfl
  refine lv_aload_n hx hb (eX12_date (0, .aload_n 0, 1) (List.mem_of_getElem? (i := 0) rfl)) rfl (lv_at hl 0 rfl) ?_
  refine lv_aload_n hx hb (eX12_date (1, .aload_n 0, 1) (List.mem_of_getElem? (i := 1) rfl)) rfl (lv_at hl 0 rfl) ?_
  refine lv_lload_n hx hb (eX12_date (2, .lload_n 1, 1) (List.mem_of_getElem? (i := 2) rfl)) rfl (lv_at hl 1 rfl) ?_
  refine tz_rowV (As := [.long n]) (st := [.ref a]) (b := a) (C := RX12) (Ts := gT) hx hb hml hown h2 (fun _ h => h) (hX12_isDay l D cA ro sz H0 a n ha) ⟨rfl, rfl⟩ ⟨by decide, by decide⟩ ⟨by decide, by decide⟩ (tb_7 62 rfl rfl) (tb_1 12 rfl rfl) (tb_7 59 rfl rfl) (tb_7 61 rfl rfl) (tb_0 4 rfl rfl) (show yX12_isDay.cls ≠ "java/lang/invoke/MethodHandle" ∧ yX12_isDay.cls ≠ "java/lang/invoke/VarHandle" ∧ (parseMethodDescriptor yX12_isDay.desc).map (fun d => d.parameters.length) = some 1 by decide +kernel) zd_blind (zg_ob12 hh hKn.1 ha) (fun U hU hW => ⟨rfl, by rw [hU]; exact hh.l0, zKb s U hW.alike hKn⟩) hh.2.2.1 hl.1 (Nat.le_of_ble_eq_true rfl) (eX12_date (3, .invokevirtual 159, 3) (List.mem_of_getElem? (i := 3) rfl)) (fun r1 s1 t1 lo1 g1 f1 l1 => ?_)
  obtain ⟨z1, v1, q1, e1⟩ := f1
  cases q1
  rw [g1] at z1
  have hh1 : zh_ok D cA RTg ro sz H0 t1.heap lo1 := by rw [z1]; exact ⟨hh.1, hh.2.1, l1, hh.2.2.2⟩
  have kp1 : zc_kept D RTg ro [(11, 0), (11, 18), (11, 19), (11, 20)] s.heap t1.heap := by rw [z1]; exact kp0
  have hqq1 : ∀ q : Nat, q ≠ a → t1.heap[q]? = s.heap[q]? := by rw [z1]; exact hq0
  refine W.eq (g2 := F0 m 6 ls [.int v1, .ref a]) rfl ?_
  refine ff_if_eq hx hb (eX12_date (6, .ifCond .eq 15, 3) (List.mem_of_getElem? (i := 4) rfl)) (tgt := 21) rfl (fun c2 => ?_) (fun c2 => ?_)
  · skip
    refine ff_iconst hx hb (eX12_date (21, .iconst 1, 1) (List.mem_of_getElem? (i := 11) rfl)) (by decide) (by decide) (fun v3 e3 => ?_)
    refine lv_goto hx hb (eX12_date (22, .goto 4, 3) (List.mem_of_getElem? (i := 12) rfl)) (tgt := 26) rfl ?_
    refine tz_put (r := 11) (k := 0) (t := (0, 0, 2)) hx hb hD hh1 ha rfl rfl ((hcl 85 0 (0, 0, 2) (by decide) rfl).2 (by decide)) (tz_i (by omega) (by omega)) (eX12_date (26, .putfield 85, 3) (List.mem_of_getElem? (i := 14) rfl)) (fun H4 lo4 hh4 hf4 hk4 _ hq4 => ?_)
    have kp4 := kp1.trans (hk4.mono (ms' := [(11, 0), (11, 18), (11, 19), (11, 20)]) (fun x hx => by cases List.mem_singleton.mp hx; decide))
    have hqq4 := fun (q : Nat) (g : q ≠ a) => (hq4 q g).trans (hqq1 q g)
    refine lv_aload_n hx hb (eX12_date (29, .aload_n 0, 1) (List.mem_of_getElem? (i := 15) rfl)) rfl (lv_at hl 0 rfl) ?_
    refine tz_get (r := 11) (k := 0) (t := (0, 0, 2)) hx hb hh4 ha rfl rfl (hcl 85 0 (0, 0, 2) (by decide) rfl).1 hf4 (eX12_date (30, .getfield 85, 3) (List.mem_of_getElem? (i := 16) rfl)) ?_
    refine ff_if_le hx hb (eX12_date (33, .ifCond .le 5, 3) (List.mem_of_getElem? (i := 17) rfl)) (tgt := 38) rfl (fun c5 => (by exfalso; omega)) (fun c5 => ?_)
    refine ff_iconst hx hb (eX12_date (36, .iconst 0, 1) (List.mem_of_getElem? (i := 18) rfl)) (by decide) (by decide) (fun v6 e6 => ?_)
    exact W.zret hx hb hr rfl (fun t ht hW => ⟨_, _, rfl, by rw [ht]; exact hh4.l0, fun q hq => by rw [ht]; exact hqq4 q hq, by rw [ht]; exact hf4, Or.inr ⟨by omega, by unfold dvD; omega⟩⟩) hh4.2.2.1 (eX12_date (37, .ireturn, 1) (List.mem_of_getElem? (i := 19) rfl))
  · skip
    refine lv_iload_n hx hb (eX12_date (9, .iload_n 3, 1) (List.mem_of_getElem? (i := 5) rfl)) rfl (lv_at hl 2 rfl) ?_
    refine ff_i2l hx hb (eX12_date (10, .i2l, 1) (List.mem_of_getElem? (i := 6) rfl)) (fun v7 e7 => ?_)
    refine ff_lconst hx hb (eX12_date (11, .lconst 0, 1) (List.mem_of_getElem? (i := 7) rfl)) rfl (fun v8 e8 => ?_)
    refine ff_ldc2 (n := 9) hx hb hown h2 (clX12_ok 162 9 (List.mem_of_getElem? (i := 18) rfl)) (eX12_date (12, .ldc2_w 162, 3) (List.mem_of_getElem? (i := 8) rfl)) (fun v9 e9 => ?_)
    refine zu_S (vs := [.long v7, .long v8, .long v9]) (rest := [.ref a]) hx hb hml hown hts0 zu_BT (hX12_isIn l v7 v8 v9) ⟨rfl, rfl⟩ ⟨by decide, by decide⟩ ⟨by decide, by decide⟩ (tb_7 47 rfl rfl) (tb_1 12 rfl rfl) (tb_7 45 rfl rfl) (tb_7 46 rfl rfl) (show yX12_isIn.cls ≠ "java/lang/invoke/MethodHandle" ∧ yX12_isIn.cls ≠ "java/lang/invoke/VarHandle" ∧ (parseMethodDescriptor yX12_isIn.desc).map (fun d => d.parameters.length) = some 3 by decide +kernel) rfl (fun _ _ _ => trivial) hl.1 (Nat.le_of_ble_eq_true rfl) (eX12_date (15, .invokestatic 130, 3) (List.mem_of_getElem? (i := 9) rfl)) (fun w10 f10 => ?_)
    obtain ⟨v10, rfl, e10⟩ := f10
    refine ff_if_ne hx hb (eX12_date (18, .ifCond .ne 7, 3) (List.mem_of_getElem? (i := 10) rfl)) (tgt := 25) rfl (fun c11 => ?_) (fun c11 => ?_)
    · skip
      refine ff_iconst hx hb (eX12_date (25, .iconst 0, 1) (List.mem_of_getElem? (i := 13) rfl)) (by decide) (by decide) (fun v12 e12 => ?_)
      refine tz_put (r := 11) (k := 0) (t := (0, 0, 2)) hx hb hD hh1 ha rfl rfl ((hcl 85 0 (0, 0, 2) (by decide) rfl).2 (by decide)) (tz_i (by omega) (by omega)) (eX12_date (26, .putfield 85, 3) (List.mem_of_getElem? (i := 14) rfl)) (fun H13 lo13 hh13 hf13 hk13 _ hq13 => ?_)
      have kp13 := kp1.trans (hk13.mono (ms' := [(11, 0), (11, 18), (11, 19), (11, 20)]) (fun x hx => by cases List.mem_singleton.mp hx; decide))
      have hqq13 := fun (q : Nat) (g : q ≠ a) => (hq13 q g).trans (hqq1 q g)
      refine lv_aload_n hx hb (eX12_date (29, .aload_n 0, 1) (List.mem_of_getElem? (i := 15) rfl)) rfl (lv_at hl 0 rfl) ?_
      refine tz_get (r := 11) (k := 0) (t := (0, 0, 2)) hx hb hh13 ha rfl rfl (hcl 85 0 (0, 0, 2) (by decide) rfl).1 hf13 (eX12_date (30, .getfield 85, 3) (List.mem_of_getElem? (i := 16) rfl)) ?_
      refine ff_if_le hx hb (eX12_date (33, .ifCond .le 5, 3) (List.mem_of_getElem? (i := 17) rfl)) (tgt := 38) rfl (fun c14 => ?_) (fun c14 => (by exfalso; omega))
      refine lv_aload_n hx hb (eX12_date (38, .aload_n 0, 1) (List.mem_of_getElem? (i := 20) rfl)) rfl (lv_at hl 0 rfl) ?_
      refine lv_lload_n hx hb (eX12_date (39, .lload_n 1, 1) (List.mem_of_getElem? (i := 21) rfl)) rfl (lv_at hl 1 rfl) ?_
      refine tz_rowV (As := [.long n]) (st := []) (b := a) (C := RX12) (Ts := gT) hx hb hml hown h2 (fun _ h => h) (hX12_weekYearOf l D cA ro sz H0 a n ha (by omega) (by omega)) ⟨rfl, rfl⟩ ⟨by decide, by decide⟩ ⟨by decide, by decide⟩ (tb_7 67 rfl rfl) (tb_1 12 rfl rfl) (tb_7 64 rfl rfl) (tb_7 66 rfl rfl) (tb_0 5 rfl rfl) (show yX12_weekYearOf.cls ≠ "java/lang/invoke/MethodHandle" ∧ yX12_weekYearOf.cls ≠ "java/lang/invoke/VarHandle" ∧ (parseMethodDescriptor yX12_weekYearOf.desc).map (fun d => d.parameters.length) = some 1 by decide +kernel) zd_blind (zg_ob12 hh13 hKn.1 ha) (fun U hU hW => ⟨rfl, by rw [hU]; exact hh13.l0, zKb s U hW.alike hKn⟩) hh13.2.2.1 hl.1 (Nat.le_of_ble_eq_true rfl) (eX12_date (40, .invokevirtual 164, 3) (List.mem_of_getElem? (i := 22) rfl)) (fun r15 s15 t15 lo15 g15 f15 l15 => ?_)
      obtain ⟨v15, q15, z15, u15, c15, iw15, bw15⟩ := f15
      cases q15
      rw [g15] at u15 c15
      have hh15 : zh_ok D cA RTg ro sz H0 t15.heap lo15 := ⟨z15.1, z15.2.1, l15, z15.2.2.2⟩
      have kp15 := kp13.trans (c15.mono (ms' := [(11, 0), (11, 18), (11, 19), (11, 20)]) (fun x hx => by revert hx; revert x; decide))
      have hqq15 := fun (q : Nat) (g : q ≠ a) => (u15 q g).trans (hqq13 q g)
      have hf15_0 := (c15.1 a 11 0 11 0 fsX12 ha rfl (by decide) (by decide)).trans hf13
      refine W.eq (g2 := F0 m 43 ls [.long v15]) rfl ?_
      refine lv_lstore hx hb (eX12_date (43, .lstore 4, 2) (List.mem_of_getElem? (i := 23) rfl)) hl (by decide) rfl (fun ls16 hl16 => ?_)
      refine lv_aload_n hx hb (eX12_date (45, .aload_n 0, 1) (List.mem_of_getElem? (i := 24) rfl)) rfl (lv_at hl16 1 rfl) ?_
      refine lv_lload_n hx hb (eX12_date (46, .lload_n 1, 1) (List.mem_of_getElem? (i := 25) rfl)) rfl (lv_at hl16 2 rfl) ?_
      refine tz_rowV (As := [.long n]) (st := []) (b := a) (C := RX12) (Ts := gT) hx hb hml hown h2 (fun _ h => h) (hX12_civil l D cA ro sz H0 a n ha (by omega) (by omega)) ⟨rfl, rfl⟩ ⟨by decide, by decide⟩ ⟨by decide, by decide⟩ (tb_7 71 rfl rfl) (tb_1 12 rfl rfl) (tb_7 68 rfl rfl) (tb_7 70 rfl rfl) (tb_0 6 rfl rfl) (show yX12_civil.cls ≠ "java/lang/invoke/MethodHandle" ∧ yX12_civil.cls ≠ "java/lang/invoke/VarHandle" ∧ (parseMethodDescriptor yX12_civil.desc).map (fun d => d.parameters.length) = some 1 by decide +kernel) zd_blind (zg_ob12 hh15 hKn.1 ha) (fun U hU hW => ⟨rfl, by rw [hU]; exact hh15.l0, zKb s U hW.alike hKn⟩) hh15.2.2.1 hl16.1 (Nat.le_of_ble_eq_true rfl) (eX12_date (47, .invokevirtual 146, 3) (List.mem_of_getElem? (i := 26) rfl)) (fun r17 s17 t17 lo17 g17 f17 l17 => ?_)
      obtain ⟨q17, z17, u17, c17, y17, m17, d17, hy17, hm17, hd17, cv17⟩ := f17
      cases q17
      rw [g17] at u17 c17
      have hh17 : zh_ok D cA RTg ro sz H0 t17.heap lo17 := ⟨z17.1, z17.2.1, l17, z17.2.2.2⟩
      have kp17 := kp15.trans (c17.mono (ms' := [(11, 0), (11, 18), (11, 19), (11, 20)]) (fun x hx => by revert hx; revert x; decide))
      have hqq17 := fun (q : Nat) (g : q ≠ a) => (u17 q g).trans (hqq15 q g)
      have hf17_0 := (c17.1 a 11 0 11 0 fsX12 ha rfl (by decide) (by decide)).trans hf15_0
      have iy17 := cvP_isY cv17
      have by17 := isY_in iy17 (by omega) (by omega)
      have bv17 : 1 ≤ m17.toInt ∧ m17.toInt ≤ 12 := ⟨cv17.1, cv17.2.1⟩
      refine W.eq (g2 := F0 m 50 ls16 []) rfl ?_
      refine lv_iload_n hx hb (eX12_date (50, .iload_n 3, 1) (List.mem_of_getElem? (i := 27) rfl)) rfl (lv_at hl16 3 rfl) ?_
      have gl18 : ¬ k.toInt < 0 ∨ k.toInt < 0 := by omega
      have gl : ¬ k.toInt < 0 := by omega
      by_cases gh : 8 < k.toInt
      · refine lv_tableOut hx hb (eX12_date (51, .tableswitch 132 0 8 #[49, 55, 60, 65, 70, 85, 89, 104, 120], 49) (List.mem_of_getElem? (i := 28) rfl)) (Or.inr gh) (tgt := 183) rfl ?_
        refine lv_lload hx hb (eX12_date (183, .lload 4, 2) (List.mem_of_getElem? (i := 80) rfl)) (lv_at hl16 0 rfl) ?_
        refine zu_S (vs := [.long v15]) (rest := []) hx hb hml hown hts0 zu_BT (hX12_weeksOf l v15 (by omega) (by omega)) ⟨rfl, rfl⟩ ⟨by decide, by decide⟩ ⟨by decide, by decide⟩ (tb_7 85 rfl rfl) (tb_1 12 rfl rfl) (tb_7 83 rfl rfl) (tb_7 84 rfl rfl) (show yX12_weeksOf.cls ≠ "java/lang/invoke/MethodHandle" ∧ yX12_weeksOf.cls ≠ "java/lang/invoke/VarHandle" ∧ (parseMethodDescriptor yX12_weeksOf.desc).map (fun d => d.parameters.length) = some 1 by decide +kernel) rfl (fun _ _ _ => trivial) hl16.1 (Nat.le_of_ble_eq_true rfl) (eX12_date (185, .invokestatic 167, 3) (List.mem_of_getElem? (i := 81) rfl)) (fun w19 f19 => ?_)
        obtain ⟨v19, rfl, e19⟩ := f19
        exact W.zret hx hb hr rfl (fun t ht hW => ⟨_, _, rfl, by rw [ht]; exact hh17.l0, fun q hq => by rw [ht]; exact hqq17 q hq, by rw [ht]; exact hf17_0, Or.inl ⟨by omega, by unfold dvD; omega, by rw [show k.toInt = 9 by omega]; exact dt_9 iw15 e19⟩⟩) hh17.2.2.1 (eX12_date (188, .ireturn, 1) (List.mem_of_getElem? (i := 82) rfl))
      by_cases q18_0 : k.toInt = 0
      · refine lv_tableIn hx hb (eX12_date (51, .tableswitch 132 0 8 #[49, 55, 60, 65, 70, 85, 89, 104, 120], 49) (List.mem_of_getElem? (i := 28) rfl)) gl gh (off := 49) (by rw [q18_0]; rfl) (tgt := 100) rfl ?_
        refine lv_aload_n hx hb (eX12_date (100, .aload_n 0, 1) (List.mem_of_getElem? (i := 29) rfl)) rfl (lv_at hl16 1 rfl) ?_
        refine tz_get (r := 11) (k := 18) (t := (1, (-9223372036854775808), 9223372036854775807)) hx hb hh17 ha rfl rfl (hcl 127 18 (1, (-9223372036854775808), 9223372036854775807) (by decide) rfl).1 hy17 (eX12_date (101, .getfield 127, 3) (List.mem_of_getElem? (i := 30) rfl)) ?_
        refine ff_l2i hx hb (eX12_date (104, .l2i, 1) (List.mem_of_getElem? (i := 31) rfl)) (by omega) (by omega) (fun v20 e20 => ?_)
        exact W.zret hx hb hr rfl (fun t ht hW => ⟨_, _, rfl, by rw [ht]; exact hh17.l0, fun q hq => by rw [ht]; exact hqq17 q hq, by rw [ht]; exact hf17_0, Or.inl ⟨by omega, by unfold dvD; omega, by rw [show k.toInt = 0 by omega]; exact dt_0 iy17 (by omega)⟩⟩) hh17.2.2.1 (eX12_date (105, .ireturn, 1) (List.mem_of_getElem? (i := 32) rfl))
      by_cases q18_1 : k.toInt = 1
      · refine lv_tableIn hx hb (eX12_date (51, .tableswitch 132 0 8 #[49, 55, 60, 65, 70, 85, 89, 104, 120], 49) (List.mem_of_getElem? (i := 28) rfl)) gl gh (off := 55) (by rw [q18_1]; rfl) (tgt := 106) rfl ?_
        refine lv_aload_n hx hb (eX12_date (106, .aload_n 0, 1) (List.mem_of_getElem? (i := 33) rfl)) rfl (lv_at hl16 1 rfl) ?_
        refine tz_get (r := 11) (k := 19) (t := (0, (-2147483648), 2147483647)) hx hb hh17 ha rfl rfl (hcl 124 19 (0, (-2147483648), 2147483647) (by decide) rfl).1 hm17 (eX12_date (107, .getfield 124, 3) (List.mem_of_getElem? (i := 34) rfl)) ?_
        exact W.zret hx hb hr rfl (fun t ht hW => ⟨_, _, rfl, by rw [ht]; exact hh17.l0, fun q hq => by rw [ht]; exact hqq17 q hq, by rw [ht]; exact hf17_0, Or.inl ⟨by omega, by unfold dvD; omega, by rw [show k.toInt = 1 by omega]; exact dt_1 cv17 rfl⟩⟩) hh17.2.2.1 (eX12_date (110, .ireturn, 1) (List.mem_of_getElem? (i := 35) rfl))
      by_cases q18_2 : k.toInt = 2
      · refine lv_tableIn hx hb (eX12_date (51, .tableswitch 132 0 8 #[49, 55, 60, 65, 70, 85, 89, 104, 120], 49) (List.mem_of_getElem? (i := 28) rfl)) gl gh (off := 60) (by rw [q18_2]; rfl) (tgt := 111) rfl ?_
        refine lv_aload_n hx hb (eX12_date (111, .aload_n 0, 1) (List.mem_of_getElem? (i := 36) rfl)) rfl (lv_at hl16 1 rfl) ?_
        refine tz_get (r := 11) (k := 20) (t := (0, (-2147483648), 2147483647)) hx hb hh17 ha rfl rfl (hcl 121 20 (0, (-2147483648), 2147483647) (by decide) rfl).1 hd17 (eX12_date (112, .getfield 121, 3) (List.mem_of_getElem? (i := 37) rfl)) ?_
        exact W.zret hx hb hr rfl (fun t ht hW => ⟨_, _, rfl, by rw [ht]; exact hh17.l0, fun q hq => by rw [ht]; exact hqq17 q hq, by rw [ht]; exact hf17_0, Or.inl ⟨by omega, by unfold dvD; omega, by rw [show k.toInt = 2 by omega]; exact dt_2 cv17 rfl⟩⟩) hh17.2.2.1 (eX12_date (115, .ireturn, 1) (List.mem_of_getElem? (i := 38) rfl))
      by_cases q18_3 : k.toInt = 3
      · refine lv_tableIn hx hb (eX12_date (51, .tableswitch 132 0 8 #[49, 55, 60, 65, 70, 85, 89, 104, 120], 49) (List.mem_of_getElem? (i := 28) rfl)) gl gh (off := 65) (by rw [q18_3]; rfl) (tgt := 116) rfl ?_
        refine lv_lload_n hx hb (eX12_date (116, .lload_n 1, 1) (List.mem_of_getElem? (i := 39) rfl)) rfl (lv_at hl16 2 rfl) ?_
        refine zu_S (vs := [.long n]) (rest := []) hx hb hml hown hts0 zu_BT (hX12_weekdayOf l n (by omega) (by omega)) ⟨rfl, rfl⟩ ⟨by decide, by decide⟩ ⟨by decide, by decide⟩ (tb_7 80 rfl rfl) (tb_1 12 rfl rfl) (tb_7 78 rfl rfl) (tb_7 79 rfl rfl) (show yX12_weekdayOf.cls ≠ "java/lang/invoke/MethodHandle" ∧ yX12_weekdayOf.cls ≠ "java/lang/invoke/VarHandle" ∧ (parseMethodDescriptor yX12_weekdayOf.desc).map (fun d => d.parameters.length) = some 1 by decide +kernel) rfl (fun _ _ _ => trivial) hl16.1 (Nat.le_of_ble_eq_true rfl) (eX12_date (117, .invokestatic 138, 3) (List.mem_of_getElem? (i := 40) rfl)) (fun w21 f21 => ?_)
        obtain ⟨v21, rfl, e21⟩ := f21
        exact W.zret hx hb hr rfl (fun t ht hW => ⟨_, _, rfl, by rw [ht]; exact hh17.l0, fun q hq => by rw [ht]; exact hqq17 q hq, by rw [ht]; exact hf17_0, Or.inl ⟨by omega, by unfold dvD; omega, by rw [show k.toInt = 3 by omega]; exact dt_3 e21⟩⟩) hh17.2.2.1 (eX12_date (120, .ireturn, 1) (List.mem_of_getElem? (i := 41) rfl))
      by_cases q18_4 : k.toInt = 4
      · refine lv_tableIn hx hb (eX12_date (51, .tableswitch 132 0 8 #[49, 55, 60, 65, 70, 85, 89, 104, 120], 49) (List.mem_of_getElem? (i := 28) rfl)) gl gh (off := 70) (by rw [q18_4]; rfl) (tgt := 121) rfl ?_
        refine lv_lload_n hx hb (eX12_date (121, .lload_n 1, 1) (List.mem_of_getElem? (i := 42) rfl)) rfl (lv_at hl16 2 rfl) ?_
        refine lv_aload_n hx hb (eX12_date (122, .aload_n 0, 1) (List.mem_of_getElem? (i := 43) rfl)) rfl (lv_at hl16 1 rfl) ?_
        refine tz_get (r := 11) (k := 18) (t := (1, (-9223372036854775808), 9223372036854775807)) hx hb hh17 ha rfl rfl (hcl 127 18 (1, (-9223372036854775808), 9223372036854775807) (by decide) rfl).1 hy17 (eX12_date (123, .getfield 127, 3) (List.mem_of_getElem? (i := 44) rfl)) ?_
        refine ff_iconst hx hb (eX12_date (126, .iconst 1, 1) (List.mem_of_getElem? (i := 45) rfl)) (by decide) (by decide) (fun v22 e22 => ?_)
        refine ff_iconst hx hb (eX12_date (127, .iconst 1, 1) (List.mem_of_getElem? (i := 46) rfl)) (by decide) (by decide) (fun v23 e23 => ?_)
        refine zu_S (vs := [.long y17, .int v22, .int v23]) (rest := [.long n]) hx hb hml hown hts0 zu_BT (hX12_dayOf l y17 v22 v23 (by omega) (by omega) (by omega) (by omega) (by omega) (by omega)) ⟨rfl, rfl⟩ ⟨by decide, by decide⟩ ⟨by decide, by decide⟩ (tb_6 135 rfl rfl) (tb_1 12 rfl rfl) (tb_6 133 rfl rfl) (tb_6 134 rfl rfl) (show yX12_dayOf.cls ≠ "java/lang/invoke/MethodHandle" ∧ yX12_dayOf.cls ≠ "java/lang/invoke/VarHandle" ∧ (parseMethodDescriptor yX12_dayOf.desc).map (fun d => d.parameters.length) = some 3 by decide +kernel) rfl (fun _ _ _ => trivial) hl16.1 (Nat.le_of_ble_eq_true rfl) (eX12_date (128, .invokestatic 70, 3) (List.mem_of_getElem? (i := 47) rfl)) (fun w24 f24 => ?_)
        obtain ⟨v24, rfl, e24⟩ := f24
        have g24 := (show v24.toInt = ysI y17.toInt ∧ ysI y17.toInt ≤ n.toInt ∧ n.toInt < ysI y17.toInt + 366 by have h8 := ys_succ y17.toInt; have h7 := lpI_bd y17.toInt; have h6 := iy17; unfold isY at h6; rw [h8] at h6; refine ⟨by rw [e24, show v22.toInt = 1 by omega, show v23.toInt = 1 by omega, nu_first], h6.1, ?_⟩; omega)
        refine ff_lsub hx hb (eX12_date (131, .lsub, 1) (List.mem_of_getElem? (i := 48) rfl)) (by omega) (by omega) (fun v25 e25 => ?_)
        refine ff_l2i hx hb (eX12_date (132, .l2i, 1) (List.mem_of_getElem? (i := 49) rfl)) (by omega) (by omega) (fun v26 e26 => ?_)
        refine ff_iconst hx hb (eX12_date (133, .iconst 1, 1) (List.mem_of_getElem? (i := 50) rfl)) (by decide) (by decide) (fun v27 e27 => ?_)
        refine ff_iadd hx hb (eX12_date (134, .iadd, 1) (List.mem_of_getElem? (i := 51) rfl)) (by omega) (by omega) (fun v28 e28 => ?_)
        exact W.zret hx hb hr rfl (fun t ht hW => ⟨_, _, rfl, by rw [ht]; exact hh17.l0, fun q hq => by rw [ht]; exact hqq17 q hq, by rw [ht]; exact hf17_0, Or.inl ⟨by omega, by unfold dvD; omega, by rw [show k.toInt = 4 by omega]; exact dt_4 iy17 (by omega)⟩⟩) hh17.2.2.1 (eX12_date (135, .ireturn, 1) (List.mem_of_getElem? (i := 52) rfl))
      by_cases q18_5 : k.toInt = 5
      · refine lv_tableIn hx hb (eX12_date (51, .tableswitch 132 0 8 #[49, 55, 60, 65, 70, 85, 89, 104, 120], 49) (List.mem_of_getElem? (i := 28) rfl)) gl gh (off := 85) (by rw [q18_5]; rfl) (tgt := 136) rfl ?_
        refine lv_lload hx hb (eX12_date (136, .lload 4, 2) (List.mem_of_getElem? (i := 53) rfl)) (lv_at hl16 0 rfl) ?_
        refine ff_l2i hx hb (eX12_date (138, .l2i, 1) (List.mem_of_getElem? (i := 54) rfl)) (by omega) (by omega) (fun v29 e29 => ?_)
        exact W.zret hx hb hr rfl (fun t ht hW => ⟨_, _, rfl, by rw [ht]; exact hh17.l0, fun q hq => by rw [ht]; exact hqq17 q hq, by rw [ht]; exact hf17_0, Or.inl ⟨by omega, by unfold dvD; omega, by rw [show k.toInt = 5 by omega]; exact dt_5 iw15 (by omega)⟩⟩) hh17.2.2.1 (eX12_date (139, .ireturn, 1) (List.mem_of_getElem? (i := 55) rfl))
      by_cases q18_6 : k.toInt = 6
      · refine lv_tableIn hx hb (eX12_date (51, .tableswitch 132 0 8 #[49, 55, 60, 65, 70, 85, 89, 104, 120], 49) (List.mem_of_getElem? (i := 28) rfl)) gl gh (off := 89) (by rw [q18_6]; rfl) (tgt := 140) rfl ?_
        refine lv_lload_n hx hb (eX12_date (140, .lload_n 1, 1) (List.mem_of_getElem? (i := 56) rfl)) rfl (lv_at hl16 2 rfl) ?_
        refine lv_lload hx hb (eX12_date (141, .lload 4, 2) (List.mem_of_getElem? (i := 57) rfl)) (lv_at hl16 0 rfl) ?_
        refine zu_S (vs := [.long v15]) (rest := [.long n]) hx hb hml hown hts0 zu_BT (hX12_firstWeek l v15 (by omega) (by omega)) ⟨rfl, rfl⟩ ⟨by decide, by decide⟩ ⟨by decide, by decide⟩ (tb_7 77 rfl rfl) (tb_1 12 rfl rfl) (tb_7 75 rfl rfl) (tb_7 76 rfl rfl) (show yX12_firstWeek.cls ≠ "java/lang/invoke/MethodHandle" ∧ yX12_firstWeek.cls ≠ "java/lang/invoke/VarHandle" ∧ (parseMethodDescriptor yX12_firstWeek.desc).map (fun d => d.parameters.length) = some 1 by decide +kernel) rfl (fun _ _ _ => trivial) hl16.1 (Nat.le_of_ble_eq_true rfl) (eX12_date (143, .invokestatic 142, 3) (List.mem_of_getElem? (i := 58) rfl)) (fun w30 f30 => ?_)
        obtain ⟨v30, rfl, e30⟩ := f30
        have g30 := wk_ref iw15
        refine ff_lsub hx hb (eX12_date (146, .lsub, 1) (List.mem_of_getElem? (i := 59) rfl)) (by omega) (by omega) (fun v31 e31 => ?_)
        refine ff_ldc2 (n := 7) hx hb hown h2 (clX12_ok 136 7 (List.mem_of_getElem? (i := 16) rfl)) (eX12_date (147, .ldc2_w 136, 3) (List.mem_of_getElem? (i := 60) rfl)) (fun v32 e32 => ?_)
        refine ff_ldivP hx hb (eX12_date (150, .ldiv, 1) (List.mem_of_getElem? (i := 61) rfl)) (by omega) (e32) (by decide) (fun v33 e33 => ?_)
        refine ff_l2i hx hb (eX12_date (151, .l2i, 1) (List.mem_of_getElem? (i := 62) rfl)) (by omega) (by omega) (fun v34 e34 => ?_)
        refine ff_iconst hx hb (eX12_date (152, .iconst 1, 1) (List.mem_of_getElem? (i := 63) rfl)) (by decide) (by decide) (fun v35 e35 => ?_)
        refine ff_iadd hx hb (eX12_date (153, .iadd, 1) (List.mem_of_getElem? (i := 64) rfl)) (by omega) (by omega) (fun v36 e36 => ?_)
        exact W.zret hx hb hr rfl (fun t ht hW => ⟨_, _, rfl, by rw [ht]; exact hh17.l0, fun q hq => by rw [ht]; exact hqq17 q hq, by rw [ht]; exact hf17_0, Or.inl ⟨by omega, by unfold dvD; omega, by rw [show k.toInt = 6 by omega]; exact dt_6 iw15 (by omega)⟩⟩) hh17.2.2.1 (eX12_date (154, .ireturn, 1) (List.mem_of_getElem? (i := 65) rfl))
      by_cases q18_7 : k.toInt = 7
      · refine lv_tableIn hx hb (eX12_date (51, .tableswitch 132 0 8 #[49, 55, 60, 65, 70, 85, 89, 104, 120], 49) (List.mem_of_getElem? (i := 28) rfl)) gl gh (off := 104) (by rw [q18_7]; rfl) (tgt := 155) rfl ?_
        refine lv_aload_n hx hb (eX12_date (155, .aload_n 0, 1) (List.mem_of_getElem? (i := 66) rfl)) rfl (lv_at hl16 1 rfl) ?_
        refine tz_get (r := 11) (k := 18) (t := (1, (-9223372036854775808), 9223372036854775807)) hx hb hh17 ha rfl rfl (hcl 127 18 (1, (-9223372036854775808), 9223372036854775807) (by decide) rfl).1 hy17 (eX12_date (156, .getfield 127, 3) (List.mem_of_getElem? (i := 67) rfl)) ?_
        refine zu_S (vs := [.long y17]) (rest := []) hx hb hml hown hts0 zu_BT (hX12_isLeapYear l y17) ⟨rfl, rfl⟩ ⟨by decide, by decide⟩ ⟨by decide, by decide⟩ (tb_7 54 rfl rfl) (tb_1 12 rfl rfl) (tb_7 52 rfl rfl) (tb_7 53 rfl rfl) (show yX12_isLeapYear.cls ≠ "java/lang/invoke/MethodHandle" ∧ yX12_isLeapYear.cls ≠ "java/lang/invoke/VarHandle" ∧ (parseMethodDescriptor yX12_isLeapYear.desc).map (fun d => d.parameters.length) = some 1 by decide +kernel) rfl (fun _ _ _ => trivial) hl16.1 (Nat.le_of_ble_eq_true rfl) (eX12_date (159, .invokestatic 95, 3) (List.mem_of_getElem? (i := 68) rfl)) (fun w37 f37 => ?_)
        obtain ⟨v37, rfl, e37⟩ := f37
        have g37 := lpI_bd y17.toInt
        refine ff_if_eq hx hb (eX12_date (162, .ifCond .eq 7, 3) (List.mem_of_getElem? (i := 69) rfl)) (tgt := 169) rfl (fun c38 => ?_) (fun c38 => ?_)
        · skip
          refine ff_iconst hx hb (eX12_date (169, .iconst 0, 1) (List.mem_of_getElem? (i := 72) rfl)) (by decide) (by decide) (fun v39 e39 => ?_)
          exact W.zret hx hb hr rfl (fun t ht hW => ⟨_, _, rfl, by rw [ht]; exact hh17.l0, fun q hq => by rw [ht]; exact hqq17 q hq, by rw [ht]; exact hf17_0, Or.inl ⟨by omega, by unfold dvD; omega, by rw [show k.toInt = 7 by omega]; exact dt_7 iy17 (by omega)⟩⟩) hh17.2.2.1 (eX12_date (170, .ireturn, 1) (List.mem_of_getElem? (i := 73) rfl))
        · skip
          refine ff_iconst hx hb (eX12_date (165, .iconst 1, 1) (List.mem_of_getElem? (i := 70) rfl)) (by decide) (by decide) (fun v40 e40 => ?_)
          refine lv_goto hx hb (eX12_date (166, .goto 4, 3) (List.mem_of_getElem? (i := 71) rfl)) (tgt := 170) rfl ?_
          exact W.zret hx hb hr rfl (fun t ht hW => ⟨_, _, rfl, by rw [ht]; exact hh17.l0, fun q hq => by rw [ht]; exact hqq17 q hq, by rw [ht]; exact hf17_0, Or.inl ⟨by omega, by unfold dvD; omega, by rw [show k.toInt = 7 by omega]; exact dt_7 iy17 (by omega)⟩⟩) hh17.2.2.1 (eX12_date (170, .ireturn, 1) (List.mem_of_getElem? (i := 73) rfl))
      by_cases q18_8 : k.toInt = 8
      · refine lv_tableIn hx hb (eX12_date (51, .tableswitch 132 0 8 #[49, 55, 60, 65, 70, 85, 89, 104, 120], 49) (List.mem_of_getElem? (i := 28) rfl)) gl gh (off := 120) (by rw [q18_8]; rfl) (tgt := 171) rfl ?_
        refine lv_aload_n hx hb (eX12_date (171, .aload_n 0, 1) (List.mem_of_getElem? (i := 74) rfl)) rfl (lv_at hl16 1 rfl) ?_
        refine tz_get (r := 11) (k := 18) (t := (1, (-9223372036854775808), 9223372036854775807)) hx hb hh17 ha rfl rfl (hcl 127 18 (1, (-9223372036854775808), 9223372036854775807) (by decide) rfl).1 hy17 (eX12_date (172, .getfield 127, 3) (List.mem_of_getElem? (i := 75) rfl)) ?_
        refine lv_aload_n hx hb (eX12_date (175, .aload_n 0, 1) (List.mem_of_getElem? (i := 76) rfl)) rfl (lv_at hl16 1 rfl) ?_
        refine tz_get (r := 11) (k := 19) (t := (0, (-2147483648), 2147483647)) hx hb hh17 ha rfl rfl (hcl 124 19 (0, (-2147483648), 2147483647) (by decide) rfl).1 hm17 (eX12_date (176, .getfield 124, 3) (List.mem_of_getElem? (i := 77) rfl)) ?_
        refine zu_S (vs := [.long y17, .int m17]) (rest := []) hx hb hml hown hts0 zu_BT (hX12_daysOf l y17 m17 (by omega) (by omega)) ⟨rfl, rfl⟩ ⟨by decide, by decide⟩ ⟨by decide, by decide⟩ (tb_7 51 rfl rfl) (tb_1 12 rfl rfl) (tb_7 49 rfl rfl) (tb_7 50 rfl rfl) (show yX12_daysOf.cls ≠ "java/lang/invoke/MethodHandle" ∧ yX12_daysOf.cls ≠ "java/lang/invoke/VarHandle" ∧ (parseMethodDescriptor yX12_daysOf.desc).map (fun d => d.parameters.length) = some 2 by decide +kernel) rfl (fun _ _ _ => trivial) hl16.1 (Nat.le_of_ble_eq_true rfl) (eX12_date (179, .invokestatic 155, 3) (List.mem_of_getElem? (i := 78) rfl)) (fun w41 f41 => ?_)
        obtain ⟨v41, rfl, e41⟩ := f41
        exact W.zret hx hb hr rfl (fun t ht hW => ⟨_, _, rfl, by rw [ht]; exact hh17.l0, fun q hq => by rw [ht]; exact hqq17 q hq, by rw [ht]; exact hf17_0, Or.inl ⟨by omega, by unfold dvD; omega, by rw [show k.toInt = 8 by omega]; exact dt_8 cv17 e41⟩⟩) hh17.2.2.1 (eX12_date (182, .ireturn, 1) (List.mem_of_getElem? (i := 79) rfl))
      exfalso
      omega
    · skip
      refine ff_iconst hx hb (eX12_date (21, .iconst 1, 1) (List.mem_of_getElem? (i := 11) rfl)) (by decide) (by decide) (fun v42 e42 => ?_)
      refine lv_goto hx hb (eX12_date (22, .goto 4, 3) (List.mem_of_getElem? (i := 12) rfl)) (tgt := 26) rfl ?_
      refine tz_put (r := 11) (k := 0) (t := (0, 0, 2)) hx hb hD hh1 ha rfl rfl ((hcl 85 0 (0, 0, 2) (by decide) rfl).2 (by decide)) (tz_i (by omega) (by omega)) (eX12_date (26, .putfield 85, 3) (List.mem_of_getElem? (i := 14) rfl)) (fun H43 lo43 hh43 hf43 hk43 _ hq43 => ?_)
      have kp43 := kp1.trans (hk43.mono (ms' := [(11, 0), (11, 18), (11, 19), (11, 20)]) (fun x hx => by cases List.mem_singleton.mp hx; decide))
      have hqq43 := fun (q : Nat) (g : q ≠ a) => (hq43 q g).trans (hqq1 q g)
      refine lv_aload_n hx hb (eX12_date (29, .aload_n 0, 1) (List.mem_of_getElem? (i := 15) rfl)) rfl (lv_at hl 0 rfl) ?_
      refine tz_get (r := 11) (k := 0) (t := (0, 0, 2)) hx hb hh43 ha rfl rfl (hcl 85 0 (0, 0, 2) (by decide) rfl).1 hf43 (eX12_date (30, .getfield 85, 3) (List.mem_of_getElem? (i := 16) rfl)) ?_
      refine ff_if_le hx hb (eX12_date (33, .ifCond .le 5, 3) (List.mem_of_getElem? (i := 17) rfl)) (tgt := 38) rfl (fun c44 => (by exfalso; omega)) (fun c44 => ?_)
      refine ff_iconst hx hb (eX12_date (36, .iconst 0, 1) (List.mem_of_getElem? (i := 18) rfl)) (by decide) (by decide) (fun v45 e45 => ?_)
      exact W.zret hx hb hr rfl (fun t ht hW => ⟨_, _, rfl, by rw [ht]; exact hh43.l0, fun q hq => by rw [ht]; exact hqq43 q hq, by rw [ht]; exact hf43, Or.inr ⟨by omega, by unfold dvD; omega⟩⟩) hh43.2.2.1 (eX12_date (37, .ireturn, 1) (List.mem_of_getElem? (i := 19) rfl))
