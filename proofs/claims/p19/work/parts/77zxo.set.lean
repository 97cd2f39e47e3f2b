/-! p19: what is settled -/
def dwF (y : Int) (f : fN) (s : uS) : Int × uS :=
  if f 7 < 1 ∨ wkI y < f 7 then (NONEI, blF (f 6) s) else if f 9 < 1 ∨ 7 < f 9 then (NONEI, blF (f 8) s)
  else if -365961662 ≤ fwI y + 7 * (f 7 - 1) + f 9 - 1 ∧ fwI y + 7 * (f 7 - 1) + f 9 - 1 ≤ 364522971 then (fwI y + 7 * (f 7 - 1) + f 9 - 1, s) else (NONEI, blF (f 2) s)
def dqF (f : fN) (s : uS) : Int × uS :=
  if s.2.1 = 0 ∧ s.2.2 < 0 then
    (if f 4 = 1 ∧ f 5 = 0 then (NONEI, blF (f 2) s) else if f 0 = 1 ∨ f 0 = 5 then dwF (tlF f) f s
     else if f 0 = 2 then (if 1 ≤ f 7 ∧ f 7 ≤ 365 + lpI (tlF f) then (ysI (tlF f) + f 7 - 1, s) else (NONEI, blF (f 6) s))
     else if f 7 < 1 ∨ 12 < f 7 then (NONEI, blF (f 6) s) else if 1 ≤ f 9 ∧ f 9 ≤ mlI (tlF f) (f 7) then (nuI (tlF f) (f 7) (f 9), s) else (NONEI, blF (f 8) s))
  else (NONEI, s)
def tq2F (L : List Int) (day : Int) (f : fN) (s : uS) : uS :=
  if 59 < f 3 then blF (f 2) s else if lsF9 L day f < f 5 then blF (f 4) s else if 23 < f 11 then blF (f 10) s else if 59 < f 13 then blF (f 12) s else s
def tqF (L : List Int) (day : Int) (f : fN) (s : uS) : uS :=
  if 24 < f 1 ∨ (f 1 = 24 ∧ (¬ (f 3 = 0 ∧ f 5 = 0 ∧ f 6 = 0) ∨ day = 364522971)) then blF (f 0) s else tq2F L day f s
def dl_Q (D : va_G) (cA : Nat → ClassId) (ro : Nat → Option Nat) (sz : Nat) (H0 : Heap) (ms : List (Nat × Nat)) (fa : List Nat) (tx : Nat) (T : List Int) (x : Int × uS) : Array Value → State → Outcome → State → Prop := fun _ st oc t => ∃ r : Int64, oc = .returned (some (.long r)) ∧ r.toInt = x.1 ∧ zh_ok D cA RTg ro sz H0 t.heap [] ∧ zc_kept D RTg ro ms st.heap t.heap ∧ jU D cA ro t.heap tx T x.2 ∧ ∀ p9 : Nat, p9 ∉ fa → t.heap[p9]? = st.heap[p9]?
set_option maxRecDepth 100000 in
set_option maxHeartbeats 4000000 in
theorem hX2_weekStart (l : Launch) (y : Int32) (wk : Int32) (hy1 : -1000000 ≤ y.toInt) (hy2 : y.toInt ≤ 1000000) (hw1 : 0 ≤ wk.toInt) (hw2 : wk.toInt ≤ 100) : zu_M l yX2_weekStart (gW yX2_weekStart cX2_weekStart 4 (some .long)) { frames := 1, cells := 0, slots := 0, locals := 22 } (fun vs => vs = [.int y, .int wk]) zT (fun _ w => ∃ r : Int64, w = .long r ∧ r.toInt = fwI y.toInt + 7 * (wk.toInt - 1) ∧ -400000000 ≤ r.toInt ∧ r.toInt ≤ 400000000) := by
  refine zy_ofW (cc := cX2_weekStart) (maxL := 4) (ret := (some .long)) (by decide +kernel) rfl ?_
  intro p e s m args below meth c s1 B hml hv
  obtain ⟨vs, rfl, rfl, hKp⟩ := hv
  have hx := B.exec
  have hb := B.bytes
  have hr := B.returns
  have hlk := B.notSynchronized
  have hts0 := atoms_spec (ws := gW yX2_weekStart cX2_weekStart 4 (some .long)) B.pre
  have h2 : ∀ w ∈ gT, w.before ([.int y, .int wk] : List Value).toArray s = true := fun w hw => hts0 w (List.mem_cons_of_mem _ hw)
  have hown : s.vm.findClass RX2 = some m.cls := findClass_of_methodNamed B.named
  have hl := lv_entry [.int y, .int wk] (n := 4) (Nat.le_of_ble_eq_true rfl)
  rw [lg_entry_eq]
  generalize (lg_sl [.int y, .int wk] ++ List.replicate (4 - (lg_sl [.int y, .int wk]).length) Slot.unset).toArray = ls at hl ⊢
  have b_y := zn_i32 y
  have b_wk := zn_i32 wk
  refine lv_iload_n hx hb (eX2_weekStart (0, .iload_n 0, 1) (List.mem_of_getElem? (i := 0) rfl)) rfl (lv_at hl 0 rfl) ?_
  refine zu_S (vs := [.int y]) (rest := []) hx hb hml hown hts0 zu_BT (hX2_yearStart l y (by omega) (by omega)) ⟨rfl, rfl⟩ ⟨by decide, by decide⟩ ⟨by decide, by decide⟩ (tb_2 193 rfl rfl) (tb_1 13 rfl rfl) (tb_2 191 rfl rfl) (tb_2 192 rfl rfl) (show yX2_yearStart.cls ≠ "java/lang/invoke/MethodHandle" ∧ yX2_yearStart.cls ≠ "java/lang/invoke/VarHandle" ∧ (parseMethodDescriptor yX2_yearStart.desc).map (fun d => d.parameters.length) = some 1 by decide +kernel) rfl (fun _ _ _ => trivial) hl.1 (Nat.le_of_ble_eq_true rfl) (eX2_weekStart (1, .invokestatic 49, 3) (List.mem_of_getElem? (i := 1) rfl)) (fun w1 f1 => ?_)
  obtain ⟨v1, rfl, e1⟩ := f1
  have g1 := ys_bd2 (y := y.toInt) (by omega) (by omega)
  refine ff_ldc2 (n := 3) hx hb hown h2 (clX2_ok 33 3 (List.mem_of_getElem? (i := 6) rfl)) (eX2_weekStart (4, .ldc2_w 33, 3) (List.mem_of_getElem? (i := 2) rfl)) (fun v2 e2 => ?_)
  refine ff_ladd hx hb (eX2_weekStart (7, .ladd, 1) (List.mem_of_getElem? (i := 3) rfl)) (by omega) (by omega) (fun v3 e3 => ?_)
  refine lv_lstore_n hx hb (eX2_weekStart (8, .lstore_n 2, 1) (List.mem_of_getElem? (i := 4) rfl)) rfl hl (by decide) rfl (fun ls4 hl4 => ?_)
  refine lv_lload_n hx hb (eX2_weekStart (9, .lload_n 2, 1) (List.mem_of_getElem? (i := 5) rfl)) rfl (lv_at hl4 0 rfl) ?_
  refine lv_lload_n hx hb (eX2_weekStart (10, .lload_n 2, 1) (List.mem_of_getElem? (i := 6) rfl)) rfl (lv_at hl4 0 rfl) ?_
  refine zu_S (vs := [.long v3]) (rest := [.long v3]) hx hb hml hown hts0 zu_BT (hX2_weekdayOf l v3 (by omega) (by omega)) ⟨rfl, rfl⟩ ⟨by decide, by decide⟩ ⟨by decide, by decide⟩ (tb_2 231 rfl rfl) (tb_1 13 rfl rfl) (tb_3 1 rfl rfl) (tb_2 230 rfl rfl) (show yX2_weekdayOf.cls ≠ "java/lang/invoke/MethodHandle" ∧ yX2_weekdayOf.cls ≠ "java/lang/invoke/VarHandle" ∧ (parseMethodDescriptor yX2_weekdayOf.desc).map (fun d => d.parameters.length) = some 1 by decide +kernel) rfl (fun _ _ _ => trivial) hl4.1 (Nat.le_of_ble_eq_true rfl) (eX2_weekStart (11, .invokestatic 108, 3) (List.mem_of_getElem? (i := 7) rfl)) (fun w5 f5 => ?_)
  obtain ⟨v5, rfl, e5⟩ := f5
  refine ff_i2l hx hb (eX2_weekStart (14, .i2l, 1) (List.mem_of_getElem? (i := 8) rfl)) (fun v6 e6 => ?_)
  refine ff_lsub hx hb (eX2_weekStart (15, .lsub, 1) (List.mem_of_getElem? (i := 9) rfl)) (by omega) (by omega) (fun v7 e7 => ?_)
  refine ff_lconst hx hb (eX2_weekStart (16, .lconst 1, 1) (List.mem_of_getElem? (i := 10) rfl)) rfl (fun v8 e8 => ?_)
  refine ff_ladd hx hb (eX2_weekStart (17, .ladd, 1) (List.mem_of_getElem? (i := 11) rfl)) (by omega) (by omega) (fun v9 e9 => ?_)
  refine ff_ldc2 (n := 7) hx hb hown h2 (clX2_ok 106 7 (List.mem_of_getElem? (i := 20) rfl)) (eX2_weekStart (18, .ldc2_w 106, 3) (List.mem_of_getElem? (i := 12) rfl)) (fun v10 e10 => ?_)
  refine lv_iload_n hx hb (eX2_weekStart (21, .iload_n 1, 1) (List.mem_of_getElem? (i := 13) rfl)) rfl (lv_at hl4 2 rfl) ?_
  refine ff_iconst hx hb (eX2_weekStart (22, .iconst 1, 1) (List.mem_of_getElem? (i := 14) rfl)) (by decide) (by decide) (fun v11 e11 => ?_)
  refine ff_isub hx hb (eX2_weekStart (23, .isub, 1) (List.mem_of_getElem? (i := 15) rfl)) (by omega) (by omega) (fun v12 e12 => ?_)
  refine ff_i2l hx hb (eX2_weekStart (24, .i2l, 1) (List.mem_of_getElem? (i := 16) rfl)) (fun v13 e13 => ?_)
  refine ff_lmulL hx hb (eX2_weekStart (25, .lmul, 1) (List.mem_of_getElem? (i := 17) rfl)) (e10) (by omega) (by omega) (fun v14 e14 => ?_)
  refine ff_ladd hx hb (eX2_weekStart (26, .ladd, 1) (List.mem_of_getElem? (i := 18) rfl)) (by omega) (by omega) (fun v15 e15 => ?_)
  exact zu_lret (y := yX2_weekStart) (ws := []) (rm := {}) hx hb hr hlk ⟨_, rfl, by (unfold fwI; omega)⟩ (eX2_weekStart (27, .lreturn, 1) (List.mem_of_getElem? (i := 19) rfl))
set_option maxRecDepth 100000 in
set_option maxHeartbeats 4000000 in
theorem hX2_yearLength (l : Launch) (y : Int32)  : zu_M l yX2_yearLength (gW yX2_yearLength cX2_yearLength 1 (some .int)) { frames := 1, cells := 0, slots := 0, locals := 20 } (fun vs => vs = [.int y]) zT (fun _ w => ∃ r : Int32, w = .int r ∧ r.toInt = 365 + lpI y.toInt) := by
  refine zy_ofW (cc := cX2_yearLength) (maxL := 1) (ret := (some .int)) (by decide +kernel) rfl ?_
  intro p e s m args below meth c s1 B hml hv
  obtain ⟨vs, rfl, rfl, hKp⟩ := hv
  have hx := B.exec
  have hb := B.bytes
  have hr := B.returns
  have hlk := B.notSynchronized
  have hts0 := atoms_spec (ws := gW yX2_yearLength cX2_yearLength 1 (some .int)) B.pre
  have h2 : ∀ w ∈ gT, w.before ([.int y] : List Value).toArray s = true := fun w hw => hts0 w (List.mem_cons_of_mem _ hw)
  have hown : s.vm.findClass RX2 = some m.cls := findClass_of_methodNamed B.named
  have hl := lv_entry [.int y] (n := 1) (Nat.le_of_ble_eq_true rfl)
  rw [lg_entry_eq]
  generalize (lg_sl [.int y] ++ List.replicate (1 - (lg_sl [.int y]).length) Slot.unset).toArray = ls at hl ⊢
  have b_y := zn_i32 y
  refine lv_iload_n hx hb (eX2_yearLength (0, .iload_n 0, 1) (List.mem_of_getElem? (i := 0) rfl)) rfl (lv_at hl 0 rfl) ?_
  refine zu_S (vs := [.int y]) (rest := []) hx hb hml hown hts0 zu_BT (hX2_isLeapYear l y) ⟨rfl, rfl⟩ ⟨by decide, by decide⟩ ⟨by decide, by decide⟩ (tb_2 120 rfl rfl) (tb_1 13 rfl rfl) (tb_2 118 rfl rfl) (tb_2 119 rfl rfl) (show yX2_isLeapYear.cls ≠ "java/lang/invoke/MethodHandle" ∧ yX2_isLeapYear.cls ≠ "java/lang/invoke/VarHandle" ∧ (parseMethodDescriptor yX2_isLeapYear.desc).map (fun d => d.parameters.length) = some 1 by decide +kernel) rfl (fun _ _ _ => trivial) hl.1 (Nat.le_of_ble_eq_true rfl) (eX2_yearLength (1, .invokestatic 21, 3) (List.mem_of_getElem? (i := 1) rfl)) (fun w1 f1 => ?_)
  obtain ⟨v1, rfl, e1⟩ := f1
  have g1 := lpI_bd y.toInt
  refine ff_if_eq hx hb (eX2_yearLength (4, .ifCond .eq 9, 3) (List.mem_of_getElem? (i := 2) rfl)) (tgt := 13) rfl (fun c2 => ?_) (fun c2 => ?_)
  · skip
    refine ff_sipush hx hb (eX2_yearLength (13, .sipush 365, 3) (List.mem_of_getElem? (i := 5) rfl)) (by decide) (by decide) (fun v3 e3 => ?_)
    exact zu_iret (y := yX2_yearLength) (ws := []) (rm := {}) hx hb hr hlk rfl ⟨_, rfl, by omega⟩ (eX2_yearLength (16, .ireturn, 1) (List.mem_of_getElem? (i := 6) rfl))
  · skip
    refine ff_sipush hx hb (eX2_yearLength (7, .sipush 366, 3) (List.mem_of_getElem? (i := 3) rfl)) (by decide) (by decide) (fun v4 e4 => ?_)
    refine lv_goto hx hb (eX2_yearLength (10, .goto 6, 3) (List.mem_of_getElem? (i := 4) rfl)) (tgt := 16) rfl ?_
    exact zu_iret (y := yX2_yearLength) (ws := []) (rm := {}) hx hb hr hlk rfl ⟨_, rfl, by omega⟩ (eX2_yearLength (16, .ireturn, 1) (List.mem_of_getElem? (i := 6) rfl))
set_option maxRecDepth 100000 in
set_option maxHeartbeats 4000000 in
theorem hX0_isGood (l : Launch) (D : va_G) (cA : Nat → ClassId) (ro : Nat → Option Nat) (sz : Nat) (H0 : Heap) (tx : Nat)  (T : List Int) (sg : uS) (htx : ro tx = some 0)  : Met l yX0_isGood (gW yX0_isGood cX0_isGood 1 (some .boolean)) { frames := 0, cells := 0, slots := 0, locals := 0 } (zs_P D cA ro sz H0 (fun H => jU D cA ro H tx T sg) [.ref tx]) (fun _ st oc t => t.heap = st.heap ∧ ∃ r : Int32, oc = .returned (some (.int r)) ∧ ((r.toInt = 1 ∧ sg.2.1 = 0 ∧ sg.2.2 < 0) ∨ (r.toInt = 0 ∧ ¬ (sg.2.1 = 0 ∧ sg.2.2 < 0)))) 0 0 (zy_fr sz) := by
  refine zy_ofW (cc := cX0_isGood) (maxL := 1) (ret := (some .boolean)) (by decide +kernel) rfl ?_
  intro p e s m args below meth c s1 B hml hv
  obtain ⟨rfl, hh, hKn, hJ⟩ := hv
  have hx := B.exec
  have hb := B.bytes
  have hr := B.returns
  have hlk := B.notSynchronized
  have hts0 := atoms_spec (ws := gW yX0_isGood cX0_isGood 1 (some .boolean)) B.pre
  have h2 : ∀ w ∈ gT, w.before ([.ref tx] : List Value).toArray s = true := fun w hw => hts0 w (List.mem_cons_of_mem _ hw)
  have hown : s.vm.findClass RX0 = some m.cls := findClass_of_methodNamed B.named
  have hl := lv_entry [.ref tx] (n := 1) (Nat.le_of_ble_eq_true rfl)
  rw [lg_entry_eq]
  generalize (lg_sl [.ref tx] ++ List.replicate (1 - (lg_sl [.ref tx]).length) Slot.unset).toArray = ls at hl ⊢
  have hD := zD_all h2 hKn.1
  have hcl0 := fun (idx k : Nat) (t : zt_T) (h : (idx, 0, k) ∈ gfX0) (hk : fsX0[k]? = some t) => zf_clause (ro := ro) (ms := []) h2 hown hKn.1 gfX0_ok (by decide +kernel) idx 0 k 0 0 fsX0 t h rfl hk
  have kp0 : zc_kept D RTg ro [] s.heap s.heap := zc_kept.refl
  obtain ⟨hjt, ⟨av, bv, wv, f2, f3, f4, hav, hbv, hwv⟩, hu⟩ := id hJ
  obtain ⟨tb, n, z, f0, r0, f1, hn, hc, hz⟩ := id hjt
  obtain ⟨n9, g9, n1, n2⟩ := zh_fT (k := 1) (t := (0, 0, 120)) hh htx (show RTg[0]? = some (0, 0, 0, fsX0) from rfl) rfl
  cases f1.symm.trans g9
  dsimp only at n1 n2
  clear g9
  obtain ⟨-, z9, c9, hy9⟩ := zh_arr hh r0 (show RTg[12]? = some (1, 2, 120, [(0, (-128), 127)]) from rfl)
  have hy : ∀ i, i < 120 → zt_ok ro (z i) (0, (-128), 127) := zs_arr (hc.symm.trans c9) hy9
  obtain ⟨u1, u2, u3⟩ := id hu
  have fr0 : ∀ p9 : Nat, p9 ∉ [tx] → s.heap[p9]? = s.heap[p9]? := fun _ _ => rfl
  refine lv_aload_n hx hb (eX0_isGood (0, .aload_n 0, 1) (List.mem_of_getElem? (i := 0) rfl)) rfl (lv_at hl 0 rfl) ?_
  refine tz_get (r := 0) (k := 3) (t := (0, 0, 1)) hx hb hh htx rfl rfl (hcl0 22 3 (0, 0, 1) (by decide) rfl).1 f3 (eX0_isGood (1, .getfield 22, 3) (List.mem_of_getElem? (i := 1) rfl)) ?_
  refine ff_if_ne hx hb (eX0_isGood (4, .ifCond .ne 14, 3) (List.mem_of_getElem? (i := 2) rfl)) (tgt := 18) rfl (fun c1 => ?_) (fun c1 => ?_)
  · skip
    refine ff_iconst hx hb (eX0_isGood (18, .iconst 0, 1) (List.mem_of_getElem? (i := 8) rfl)) (by decide) (by decide) (fun v2 e2 => ?_)
    exact W.zret hx hb hr (zn_bool (by omega) (by omega)) (fun t ht hW => ⟨ht, _, rfl, by omega⟩) hh.2.2.1 (eX0_isGood (19, .ireturn, 1) (List.mem_of_getElem? (i := 9) rfl))
  · skip
    refine lv_aload_n hx hb (eX0_isGood (7, .aload_n 0, 1) (List.mem_of_getElem? (i := 3) rfl)) rfl (lv_at hl 0 rfl) ?_
    refine tz_get (r := 0) (k := 4) (t := (0, (-2147483648), 2147483647)) hx hb hh htx rfl rfl (hcl0 26 4 (0, (-2147483648), 2147483647) (by decide) rfl).1 f4 (eX0_isGood (8, .getfield 26, 3) (List.mem_of_getElem? (i := 4) rfl)) ?_
    refine ff_if_ge hx hb (eX0_isGood (11, .ifCond .ge 7, 3) (List.mem_of_getElem? (i := 5) rfl)) (tgt := 18) rfl (fun c3 => ?_) (fun c3 => ?_)
    · skip
      refine ff_iconst hx hb (eX0_isGood (18, .iconst 0, 1) (List.mem_of_getElem? (i := 8) rfl)) (by decide) (by decide) (fun v4 e4 => ?_)
      exact W.zret hx hb hr (zn_bool (by omega) (by omega)) (fun t ht hW => ⟨ht, _, rfl, by omega⟩) hh.2.2.1 (eX0_isGood (19, .ireturn, 1) (List.mem_of_getElem? (i := 9) rfl))
    · skip
      refine ff_iconst hx hb (eX0_isGood (14, .iconst 1, 1) (List.mem_of_getElem? (i := 6) rfl)) (by decide) (by decide) (fun v5 e5 => ?_)
      refine lv_goto hx hb (eX0_isGood (15, .goto 4, 3) (List.mem_of_getElem? (i := 7) rfl)) (tgt := 19) rfl ?_
      exact W.zret hx hb hr (zn_bool (by omega) (by omega)) (fun t ht hW => ⟨ht, _, rfl, by omega⟩) hh.2.2.1 (eX0_isGood (19, .ireturn, 1) (List.mem_of_getElem? (i := 9) rfl))
set_option maxRecDepth 100000 in
set_option maxHeartbeats 4000000 in
theorem hX0_blameN (l : Launch) (D : va_G) (cA : Nat → ClassId) (ro : Nat → Option Nat) (sz : Nat) (H0 : Heap) (tx : Nat) (p0 : Int32) (T : List Int) (sg : uS) (htx : ro tx = some 0)  : Met l yX0_blame (gW yX0_blame cX0_blame 2 (some .long)) { frames := 0, cells := 0, slots := 0, locals := 0 } (zs_P D cA ro sz H0 (fun H => jU D cA ro H tx T sg) [.ref tx, .int p0]) (dl_Q D cA ro sz H0 uM [tx] tx T (NONEI, blF p0.toInt sg)) 0 0 (zy_fr sz) := by
  refine zy_ofW (cc := cX0_blame) (maxL := 2) (ret := (some .long)) (by decide +kernel) rfl ?_
  intro p e s m args below meth c s1 B hml hv
  obtain ⟨rfl, hh, hKn, hJ⟩ := hv
  have hx := B.exec
  have hb := B.bytes
  have hr := B.returns
  have hlk := B.notSynchronized
  have hts0 := atoms_spec (ws := gW yX0_blame cX0_blame 2 (some .long)) B.pre
  have h2 : ∀ w ∈ gT, w.before ([.ref tx, .int p0] : List Value).toArray s = true := fun w hw => hts0 w (List.mem_cons_of_mem _ hw)
  have hown : s.vm.findClass RX0 = some m.cls := findClass_of_methodNamed B.named
  have hl := lv_entry [.ref tx, .int p0] (n := 2) (Nat.le_of_ble_eq_true rfl)
  rw [lg_entry_eq]
  generalize (lg_sl [.ref tx, .int p0] ++ List.replicate (2 - (lg_sl [.ref tx, .int p0]).length) Slot.unset).toArray = ls at hl ⊢
  have b_p0 := zn_i32 p0
  have hD := zD_all h2 hKn.1
  have hcl0 := fun (idx k : Nat) (t : zt_T) (h : (idx, 0, k) ∈ gfX0) (hk : fsX0[k]? = some t) => zf_clause (ro := ro) (ms := uM) h2 hown hKn.1 gfX0_ok (by decide +kernel) idx 0 k 0 0 fsX0 t h rfl hk
  have kp0 : zc_kept D RTg ro uM s.heap s.heap := zc_kept.refl
  obtain ⟨hjt, ⟨av, bv, wv, f2, f3, f4, hav, hbv, hwv⟩, hu⟩ := id hJ
  obtain ⟨tb, n, z, f0, r0, f1, hn, hc, hz⟩ := id hjt
  obtain ⟨n9, g9, n1, n2⟩ := zh_fT (k := 1) (t := (0, 0, 120)) hh htx (show RTg[0]? = some (0, 0, 0, fsX0) from rfl) rfl
  cases f1.symm.trans g9
  dsimp only at n1 n2
  clear g9
  obtain ⟨-, z9, c9, hy9⟩ := zh_arr hh r0 (show RTg[12]? = some (1, 2, 120, [(0, (-128), 127)]) from rfl)
  have hy : ∀ i, i < 120 → zt_ok ro (z i) (0, (-128), 127) := zs_arr (hc.symm.trans c9) hy9
  obtain ⟨u1, u2, u3⟩ := id hu
  have fr0 : ∀ p9 : Nat, p9 ∉ [tx] → s.heap[p9]? = s.heap[p9]? := fun _ _ => rfl
  refine lv_aload_n hx hb (eX0_blame (0, .aload_n 0, 1) (List.mem_of_getElem? (i := 0) rfl)) rfl (lv_at hl 0 rfl) ?_
  refine tz_get (r := 0) (k := 4) (t := (0, (-2147483648), 2147483647)) hx hb hh htx rfl rfl (hcl0 26 4 (0, (-2147483648), 2147483647) (by decide) rfl).1 f4 (eX0_blame (1, .getfield 26, 3) (List.mem_of_getElem? (i := 1) rfl)) ?_
  refine ff_if_ge hx hb (eX0_blame (4, .ifCond .ge 8, 3) (List.mem_of_getElem? (i := 2) rfl)) (tgt := 12) rfl (fun c1 => ?_) (fun c1 => ?_)
  · skip
    refine ff_ldc2 (n := (-9223372036854775808)) hx hb hown h2 (clX0_ok 50 (-9223372036854775808) (List.mem_of_getElem? (i := 0) rfl)) (eX0_blame (12, .ldc2_w 50, 3) (List.mem_of_getElem? (i := 6) rfl)) (fun v2 e2 => ?_)
    have hfin : blF p0.toInt sg = sg := by unfold blF; rw [if_neg (by omega)]
    exact W.lret hx hb hr (fun t ht hW => ⟨_, rfl, by unfold NONEI; omega, by rw [ht]; exact hh.l0, by rw [ht]; exact kp0, by rw [ht, hfin]; exact hJ, by rw [ht]; exact fr0⟩) hh.2.2.1 (eX0_blame (15, .lreturn, 1) (List.mem_of_getElem? (i := 7) rfl))
  · skip
    refine lv_aload_n hx hb (eX0_blame (7, .aload_n 0, 1) (List.mem_of_getElem? (i := 3) rfl)) rfl (lv_at hl 0 rfl) ?_
    refine lv_iload_n hx hb (eX0_blame (8, .iload_n 1, 1) (List.mem_of_getElem? (i := 4) rfl)) rfl (lv_at hl 1 rfl) ?_
    refine tz_put (r := 0) (k := 4) (t := (0, (-2147483648), 2147483647)) hx hb hD hh htx rfl rfl ((hcl0 26 4 (0, (-2147483648), 2147483647) (by decide) rfl).2 (by decide)) (tz_i (zn_i32 _).1 (zn_i32 _).2) (eX0_blame (9, .putfield 26, 3) (List.mem_of_getElem? (i := 5) rfl)) (fun H3 lo3 hh3 hf3 hk3 _ hq3 => ?_)
    have mf3_tx_0 := (hk3.1 tx 0 0 0 0 fsX0 htx rfl (by decide) (by decide)).trans f0
    have mf3_tx_1 := (hk3.1 tx 0 1 0 0 fsX0 htx rfl (by decide) (by decide)).trans f1
    have mf3_tx_2 := (hk3.1 tx 0 2 0 0 fsX0 htx rfl (by decide) (by decide)).trans f2
    have mf3_tx_3 := (hk3.1 tx 0 3 0 0 fsX0 htx rfl (by decide) (by decide)).trans f3
    have mc3_tb := (hk3.2 tb 12 0 2 120 _ r0 rfl (by decide)).trans hc
    have kp3 := kp0.trans (hk3.mono (ms' := uM) (fun x hx => by cases List.mem_singleton.mp hx; decide))
    have jm3 := (hJ.1).kept htx hk3 (by decide) (by decide) (by decide)
    have fr3 : ∀ p9 : Nat, p9 ∉ [tx] → H3[p9]? = s.heap[p9]? := fun p9 h9 => (hq3 p9 (fun e9 => h9 (by rw [e9]; exact List.mem_cons_self))).trans (fr0 p9 h9)
    refine ff_ldc2 (n := (-9223372036854775808)) hx hb hown h2 (clX0_ok 50 (-9223372036854775808) (List.mem_of_getElem? (i := 0) rfl)) (eX0_blame (12, .ldc2_w 50, 3) (List.mem_of_getElem? (i := 6) rfl)) (fun v4 e4 => ?_)
    have hfin : blF p0.toInt sg = (sg.1, sg.2.1, p0.toInt) := by unfold blF; rw [if_pos (by omega)]
    exact W.lret hx hb hr (fun t ht hW => ⟨_, rfl, by unfold NONEI; omega, by rw [ht]; exact hh3.l0, by rw [ht]; exact kp3, by rw [ht, hfin]; exact ⟨jm3, ⟨_, _, _, mf3_tx_2, mf3_tx_3, hf3, hav, hbv, rfl⟩, hu⟩, by rw [ht]; exact fr3⟩) hh3.2.2.1 (eX0_blame (15, .lreturn, 1) (List.mem_of_getElem? (i := 7) rfl))
set_option maxRecDepth 100000 in
set_option maxHeartbeats 4000000 in
theorem hX1_settleWeek (l : Launch) (D : va_G) (cA : Nat → ClassId) (ro : Nat → Option Nat) (sz : Nat) (H0 : Heap) (dt : Nat) (tx : Nat) (tv : Int32) (y0 : Int) (T : List Int) (sg : uS) (f : fN) (hdt : ro dt = some 1) (htx : ro tx = some 0) (htv : tv.toInt = y0) (hy1 : -999999 ≤ y0) (hy2 : y0 ≤ 999999) : Met l yX1_settleWeek (gW yX1_settleWeek cX1_settleWeek 5 (some .long)) { frames := 2, cells := 0, slots := 0, locals := 45 } (zs_P D cA ro sz H0 (fun H => jU D cA ro H tx T sg ∧ jF D H dt 1 10 f) [.ref dt, .ref tx, .int tv]) (dl_Q D cA ro sz H0 uM [tx] tx T (dwF y0 f sg)) 0 0 (zy_fr sz) := by
  refine zy_ofW (cc := cX1_settleWeek) (maxL := 5) (ret := (some .long)) (by decide +kernel) rfl ?_
  intro p e s m args below meth c s1 B hml hv
  obtain ⟨rfl, hh, hKn, hJ⟩ := hv
  have hx := B.exec
  have hb := B.bytes
  have hr := B.returns
  have hlk := B.notSynchronized
  have hts0 := atoms_spec (ws := gW yX1_settleWeek cX1_settleWeek 5 (some .long)) B.pre
  have h2 : ∀ w ∈ gT, w.before ([.ref dt, .ref tx, .int tv] : List Value).toArray s = true := fun w hw => hts0 w (List.mem_cons_of_mem _ hw)
  have hown : s.vm.findClass RX1 = some m.cls := findClass_of_methodNamed B.named
  have hl := lv_entry [.ref dt, .ref tx, .int tv] (n := 5) (Nat.le_of_ble_eq_true rfl)
  rw [lg_entry_eq]
  generalize (lg_sl [.ref dt, .ref tx, .int tv] ++ List.replicate (5 - (lg_sl [.ref dt, .ref tx, .int tv]).length) Slot.unset).toArray = ls at hl ⊢
  have b_tv := zn_i32 tv
  have hD := zD_all h2 hKn.1
  have hcl0 := fun (idx k : Nat) (t : zt_T) (h : (idx, 0, k) ∈ gfX1) (hk : fsX0[k]? = some t) => zf_clause (ro := ro) (ms := uM) h2 hown hKn.1 gfX1_ok (by decide +kernel) idx 0 k 0 0 fsX0 t h rfl hk
  have hcl1 := fun (idx k : Nat) (t : zt_T) (h : (idx, 1, k) ∈ gfX1) (hk : fsX1[k]? = some t) => zf_clause (ro := ro) (ms := uM) h2 hown hKn.1 gfX1_ok (by decide +kernel) idx 1 k 1 0 fsX1 t h rfl hk
  have kp0 : zc_kept D RTg ro uM s.heap s.heap := zc_kept.refl
  obtain ⟨hJ, jd0⟩ := hJ
  obtain ⟨hjt, ⟨av, bv, wv, f2, f3, f4, hav, hbv, hwv⟩, hu⟩ := id hJ
  obtain ⟨tb, n, z, f0, r0, f1, hn, hc, hz⟩ := id hjt
  obtain ⟨n9, g9, n1, n2⟩ := zh_fT (k := 1) (t := (0, 0, 120)) hh htx (show RTg[0]? = some (0, 0, 0, fsX0) from rfl) rfl
  cases f1.symm.trans g9
  dsimp only at n1 n2
  clear g9
  obtain ⟨-, z9, c9, hy9⟩ := zh_arr hh r0 (show RTg[12]? = some (1, 2, 120, [(0, (-128), 127)]) from rfl)
  have hy : ∀ i, i < 120 → zt_ok ro (z i) (0, (-128), 127) := zs_arr (hc.symm.trans c9) hy9
  obtain ⟨u1, u2, u3⟩ := id hu
  have fr0 : ∀ p9 : Nat, p9 ∉ [tx] → s.heap[p9]? = s.heap[p9]? := fun _ _ => rfl
  refine lv_aload_n hx hb (eX1_settleWeek (0, .aload_n 0, 1) (List.mem_of_getElem? (i := 0) rfl)) rfl (lv_at hl 0 rfl) ?_
  obtain ⟨v1, fa1, e1⟩ := jd0 7 (by decide)
  have e1 : v1.toInt = f 7 := e1
  refine tz_get (r := 1) (k := 7) (t := (0, (-2147483648), 2147483647)) hx hb hh hdt rfl rfl (hcl1 34 7 (0, (-2147483648), 2147483647) (by decide) rfl).1 fa1 (eX1_settleWeek (1, .getfield 34, 3) (List.mem_of_getElem? (i := 1) rfl)) ?_
  refine ff_iconst hx hb (eX1_settleWeek (4, .iconst 1, 1) (List.mem_of_getElem? (i := 2) rfl)) (by decide) (by decide) (fun v2 e2 => ?_)
  refine ff_icmp_lt hx hb (eX1_settleWeek (5, .if_icmp .lt 14, 3) (List.mem_of_getElem? (i := 3) rfl)) (tgt := 19) rfl (fun c3 => ?_) (fun c3 => ?_)
  · skip
    have d4 : f 7 < 1 ∨ wkI y0 < f 7 := by omega
    refine lv_aload_n hx hb (eX1_settleWeek (19, .aload_n 1, 1) (List.mem_of_getElem? (i := 9) rfl)) rfl (lv_at hl 1 rfl) ?_
    refine lv_aload_n hx hb (eX1_settleWeek (20, .aload_n 0, 1) (List.mem_of_getElem? (i := 10) rfl)) rfl (lv_at hl 0 rfl) ?_
    obtain ⟨v5, fa5, e5⟩ := jd0 6 (by decide)
    have e5 : v5.toInt = f 6 := e5
    refine tz_get (r := 1) (k := 6) (t := (0, (-2147483648), 2147483647)) hx hb hh hdt rfl rfl (hcl1 31 6 (0, (-2147483648), 2147483647) (by decide) rfl).1 fa5 (eX1_settleWeek (21, .getfield 31, 3) (List.mem_of_getElem? (i := 11) rfl)) ?_
    refine tz_rowV (As := [.int v5]) (st := []) (b := tx) (C := RX0) (Ts := gT) hx hb hml hown h2 (fun _ h => h) (hX0_blameN l D cA ro sz H0 tx v5 T (sg) htx) ⟨rfl, rfl⟩ ⟨by decide, by decide⟩ ⟨by decide, by decide⟩ (tb_4 64 rfl rfl) (tb_1 5 rfl rfl) (tb_5 34 rfl rfl) (tb_4 62 rfl rfl) (tb_4 63 rfl rfl) (show yX0_blame.cls ≠ "java/lang/invoke/MethodHandle" ∧ yX0_blame.cls ≠ "java/lang/invoke/VarHandle" ∧ (parseMethodDescriptor yX0_blame.desc).map (fun d => d.parameters.length) = some 1 by decide +kernel) zs_blind (zs_ob hh htx (show RTg[0]? = some (0, 0, 0, fsX0) from rfl) (zCX0 hKn.1)) (fun U hU hW => ⟨rfl, by rw [hU]; exact hh.l0, zKb s U hW.alike hKn, by rw [hU]; exact hJ⟩) hh.2.2.1 hl.1 (Nat.le_of_ble_eq_true rfl) (eX1_settleWeek (24, .invokevirtual 90, 3) (List.mem_of_getElem? (i := 12) rfl)) (fun r6 s6 t6 lo6 g6 f6 l6 => ?_)
    obtain ⟨v6, q6, e6, z6, c6, j6, fx6⟩ := f6
    cases q6
    rw [g6] at c6 fx6
    have fr6 : ∀ p9 : Nat, p9 ∉ [tx] → t6.heap[p9]? = s.heap[p9]? := fun p9 h9 => (fx6 p9 (fun q => h9 (by rw [List.mem_singleton.mp q]; exact List.mem_cons_self))).trans (fr0 p9 h9)
    have hh6 : zh_ok D cA RTg ro sz H0 t6.heap lo6 := ⟨z6.1, z6.2.1, l6, z6.2.2.2⟩
    have kp6 := kp0.trans (c6.mono (ms' := uM) (by decide))
    have e6 : v6.toInt = NONEI := e6
    have j6 : jU D cA ro t6.heap tx T (blF (f 6) sg) := by rw [← show v5.toInt = f 6 by omega]; exact j6
    have mf6_tx_0 := (c6.1 tx 0 0 0 0 fsX0 htx rfl (by decide) (by decide)).trans f0
    have mf6_tx_1 := (c6.1 tx 0 1 0 0 fsX0 htx rfl (by decide) (by decide)).trans f1
    have mf6_dt_7 := (c6.1 dt 1 7 1 0 fsX1 hdt rfl (by decide) (by decide)).trans fa1
    have mf6_dt_6 := (c6.1 dt 1 6 1 0 fsX1 hdt rfl (by decide) (by decide)).trans fa5
    refine W.eq (g2 := F0 m 27 ls [.long v6]) rfl ?_
    have hfin : dwF y0 f sg = (NONEI, blF (f 6) sg) := by first | (simp only [dwF, if_pos d4, up_eq]; done) | (simp only [dwF, if_pos d4, up_eq] <;> rfl) | rfl
    exact W.lret hx hb hr (fun t ht hW => ⟨_, rfl, by rw [hfin]; (first | (show v6.toInt = _; omega) | (show v6.toInt = NONEI; unfold NONEI; omega)), by rw [ht]; exact hh6.l0, by rw [ht]; exact kp6, by rw [ht, hfin]; exact j6, by rw [ht]; exact fr6⟩) hh6.2.2.1 (eX1_settleWeek (27, .lreturn, 1) (List.mem_of_getElem? (i := 13) rfl))
  · skip
    refine lv_aload_n hx hb (eX1_settleWeek (8, .aload_n 0, 1) (List.mem_of_getElem? (i := 4) rfl)) rfl (lv_at hl 0 rfl) ?_
    refine tz_get (r := 1) (k := 7) (t := (0, (-2147483648), 2147483647)) hx hb hh hdt rfl rfl (hcl1 34 7 (0, (-2147483648), 2147483647) (by decide) rfl).1 fa1 (eX1_settleWeek (9, .getfield 34, 3) (List.mem_of_getElem? (i := 5) rfl)) ?_
    refine lv_iload_n hx hb (eX1_settleWeek (12, .iload_n 2, 1) (List.mem_of_getElem? (i := 6) rfl)) rfl (lv_at hl 2 rfl) ?_
    refine zu_S (vs := [.int tv]) (rest := [.int v1]) hx hb hml hown hts0 zu_BT (hX2_weeksOf l tv (by omega) (by omega)) ⟨rfl, rfl⟩ ⟨by decide, by decide⟩ ⟨by decide, by decide⟩ (tb_3 8 rfl rfl) (tb_1 13 rfl rfl) (tb_5 39 rfl rfl) (tb_3 7 rfl rfl) (show yX2_weeksOf.cls ≠ "java/lang/invoke/MethodHandle" ∧ yX2_weeksOf.cls ≠ "java/lang/invoke/VarHandle" ∧ (parseMethodDescriptor yX2_weeksOf.desc).map (fun d => d.parameters.length) = some 1 by decide +kernel) rfl (fun _ _ _ => trivial) hl.1 (Nat.le_of_ble_eq_true rfl) (eX1_settleWeek (13, .invokestatic 114, 3) (List.mem_of_getElem? (i := 7) rfl)) (fun w7 f7 => ?_)
    obtain ⟨v7, rfl, e7⟩ := f7
    have g7 := (show v7.toInt = wkI y0 ∧ 52 ≤ wkI y0 ∧ wkI y0 ≤ 53 from ⟨by rw [e7, htv], (wk_bd y0).1, (wk_bd y0).2⟩)
    refine ff_icmp_le hx hb (eX1_settleWeek (16, .if_icmp .le 12, 3) (List.mem_of_getElem? (i := 8) rfl)) (tgt := 28) rfl (fun c8 => ?_) (fun c8 => ?_)
    · skip
      have d9 : ¬ (f 7 < 1 ∨ wkI y0 < f 7) := by omega
      refine lv_aload_n hx hb (eX1_settleWeek (28, .aload_n 0, 1) (List.mem_of_getElem? (i := 14) rfl)) rfl (lv_at hl 0 rfl) ?_
      obtain ⟨v10, fa10, e10⟩ := jd0 9 (by decide)
      have e10 : v10.toInt = f 9 := e10
      refine tz_get (r := 1) (k := 9) (t := (0, (-2147483648), 2147483647)) hx hb hh hdt rfl rfl (hcl1 40 9 (0, (-2147483648), 2147483647) (by decide) rfl).1 fa10 (eX1_settleWeek (29, .getfield 40, 3) (List.mem_of_getElem? (i := 15) rfl)) ?_
      refine ff_iconst hx hb (eX1_settleWeek (32, .iconst 1, 1) (List.mem_of_getElem? (i := 16) rfl)) (by decide) (by decide) (fun v11 e11 => ?_)
      refine ff_icmp_lt hx hb (eX1_settleWeek (33, .if_icmp .lt 12, 3) (List.mem_of_getElem? (i := 17) rfl)) (tgt := 45) rfl (fun c12 => ?_) (fun c12 => ?_)
      · skip
        have d13 : f 9 < 1 ∨ 7 < f 9 := by omega
        refine lv_aload_n hx hb (eX1_settleWeek (45, .aload_n 1, 1) (List.mem_of_getElem? (i := 22) rfl)) rfl (lv_at hl 1 rfl) ?_
        refine lv_aload_n hx hb (eX1_settleWeek (46, .aload_n 0, 1) (List.mem_of_getElem? (i := 23) rfl)) rfl (lv_at hl 0 rfl) ?_
        obtain ⟨v14, fa14, e14⟩ := jd0 8 (by decide)
        have e14 : v14.toInt = f 8 := e14
        refine tz_get (r := 1) (k := 8) (t := (0, (-2147483648), 2147483647)) hx hb hh hdt rfl rfl (hcl1 37 8 (0, (-2147483648), 2147483647) (by decide) rfl).1 fa14 (eX1_settleWeek (47, .getfield 37, 3) (List.mem_of_getElem? (i := 24) rfl)) ?_
        refine tz_rowV (As := [.int v14]) (st := []) (b := tx) (C := RX0) (Ts := gT) hx hb hml hown h2 (fun _ h => h) (hX0_blameN l D cA ro sz H0 tx v14 T (sg) htx) ⟨rfl, rfl⟩ ⟨by decide, by decide⟩ ⟨by decide, by decide⟩ (tb_4 64 rfl rfl) (tb_1 5 rfl rfl) (tb_5 34 rfl rfl) (tb_4 62 rfl rfl) (tb_4 63 rfl rfl) (show yX0_blame.cls ≠ "java/lang/invoke/MethodHandle" ∧ yX0_blame.cls ≠ "java/lang/invoke/VarHandle" ∧ (parseMethodDescriptor yX0_blame.desc).map (fun d => d.parameters.length) = some 1 by decide +kernel) zs_blind (zs_ob hh htx (show RTg[0]? = some (0, 0, 0, fsX0) from rfl) (zCX0 hKn.1)) (fun U hU hW => ⟨rfl, by rw [hU]; exact hh.l0, zKb s U hW.alike hKn, by rw [hU]; exact hJ⟩) hh.2.2.1 hl.1 (Nat.le_of_ble_eq_true rfl) (eX1_settleWeek (50, .invokevirtual 90, 3) (List.mem_of_getElem? (i := 25) rfl)) (fun r15 s15 t15 lo15 g15 f15 l15 => ?_)
        obtain ⟨v15, q15, e15, z15, c15, j15, fx15⟩ := f15
        cases q15
        rw [g15] at c15 fx15
        have fr15 : ∀ p9 : Nat, p9 ∉ [tx] → t15.heap[p9]? = s.heap[p9]? := fun p9 h9 => (fx15 p9 (fun q => h9 (by rw [List.mem_singleton.mp q]; exact List.mem_cons_self))).trans (fr0 p9 h9)
        have hh15 : zh_ok D cA RTg ro sz H0 t15.heap lo15 := ⟨z15.1, z15.2.1, l15, z15.2.2.2⟩
        have kp15 := kp0.trans (c15.mono (ms' := uM) (by decide))
        have e15 : v15.toInt = NONEI := e15
        have j15 : jU D cA ro t15.heap tx T (blF (f 8) sg) := by rw [← show v14.toInt = f 8 by omega]; exact j15
        have mf15_tx_0 := (c15.1 tx 0 0 0 0 fsX0 htx rfl (by decide) (by decide)).trans f0
        have mf15_tx_1 := (c15.1 tx 0 1 0 0 fsX0 htx rfl (by decide) (by decide)).trans f1
        have mf15_dt_7 := (c15.1 dt 1 7 1 0 fsX1 hdt rfl (by decide) (by decide)).trans fa1
        have mf15_dt_9 := (c15.1 dt 1 9 1 0 fsX1 hdt rfl (by decide) (by decide)).trans fa10
        have mf15_dt_8 := (c15.1 dt 1 8 1 0 fsX1 hdt rfl (by decide) (by decide)).trans fa14
        refine W.eq (g2 := F0 m 53 ls [.long v15]) rfl ?_
        have hfin : dwF y0 f sg = (NONEI, blF (f 8) sg) := by first | (simp only [dwF, if_neg d9, if_pos d13, up_eq]; done) | (simp only [dwF, if_neg d9, if_pos d13, up_eq] <;> rfl) | rfl
        exact W.lret hx hb hr (fun t ht hW => ⟨_, rfl, by rw [hfin]; (first | (show v15.toInt = _; omega) | (show v15.toInt = NONEI; unfold NONEI; omega)), by rw [ht]; exact hh15.l0, by rw [ht]; exact kp15, by rw [ht, hfin]; exact j15, by rw [ht]; exact fr15⟩) hh15.2.2.1 (eX1_settleWeek (53, .lreturn, 1) (List.mem_of_getElem? (i := 26) rfl))
      · skip
        refine lv_aload_n hx hb (eX1_settleWeek (36, .aload_n 0, 1) (List.mem_of_getElem? (i := 18) rfl)) rfl (lv_at hl 0 rfl) ?_
        refine tz_get (r := 1) (k := 9) (t := (0, (-2147483648), 2147483647)) hx hb hh hdt rfl rfl (hcl1 40 9 (0, (-2147483648), 2147483647) (by decide) rfl).1 fa10 (eX1_settleWeek (37, .getfield 40, 3) (List.mem_of_getElem? (i := 19) rfl)) ?_
        refine ff_bipush hx hb (eX1_settleWeek (40, .bipush 7, 2) (List.mem_of_getElem? (i := 20) rfl)) (by decide) (by decide) (fun v16 e16 => ?_)
        refine ff_icmp_le hx hb (eX1_settleWeek (42, .if_icmp .le 12, 3) (List.mem_of_getElem? (i := 21) rfl)) (tgt := 54) rfl (fun c17 => ?_) (fun c17 => ?_)
        · skip
          have d18 : ¬ (f 9 < 1 ∨ 7 < f 9) := by omega
          refine lv_iload_n hx hb (eX1_settleWeek (54, .iload_n 2, 1) (List.mem_of_getElem? (i := 27) rfl)) rfl (lv_at hl 2 rfl) ?_
          refine lv_aload_n hx hb (eX1_settleWeek (55, .aload_n 0, 1) (List.mem_of_getElem? (i := 28) rfl)) rfl (lv_at hl 0 rfl) ?_
          refine tz_get (r := 1) (k := 7) (t := (0, (-2147483648), 2147483647)) hx hb hh hdt rfl rfl (hcl1 34 7 (0, (-2147483648), 2147483647) (by decide) rfl).1 fa1 (eX1_settleWeek (56, .getfield 34, 3) (List.mem_of_getElem? (i := 29) rfl)) ?_
          refine zu_S (vs := [.int tv, .int v1]) (rest := []) hx hb hml hown hts0 zu_BT (hX2_weekStart l tv v1 (by omega) (by omega) (by omega) (by omega)) ⟨rfl, rfl⟩ ⟨by decide, by decide⟩ ⟨by decide, by decide⟩ (tb_3 20 rfl rfl) (tb_1 13 rfl rfl) (tb_5 40 rfl rfl) (tb_3 19 rfl rfl) (show yX2_weekStart.cls ≠ "java/lang/invoke/MethodHandle" ∧ yX2_weekStart.cls ≠ "java/lang/invoke/VarHandle" ∧ (parseMethodDescriptor yX2_weekStart.desc).map (fun d => d.parameters.length) = some 2 by decide +kernel) rfl (fun _ _ _ => trivial) hl.1 (Nat.le_of_ble_eq_true rfl) (eX1_settleWeek (59, .invokestatic 117, 3) (List.mem_of_getElem? (i := 30) rfl)) (fun w19 f19 => ?_)
          obtain ⟨v19, rfl, e19⟩ := f19
          have g19 := (show v19.toInt = fwI y0 + 7 * (f 7 - 1) ∧ -400000000 ≤ v19.toInt ∧ v19.toInt ≤ 400000000 from ⟨by rw [e19.1, htv, show v1.toInt = f 7 by omega], e19.2.1, e19.2.2⟩)
          refine lv_aload_n hx hb (eX1_settleWeek (62, .aload_n 0, 1) (List.mem_of_getElem? (i := 31) rfl)) rfl (lv_at hl 0 rfl) ?_
          refine tz_get (r := 1) (k := 9) (t := (0, (-2147483648), 2147483647)) hx hb hh hdt rfl rfl (hcl1 40 9 (0, (-2147483648), 2147483647) (by decide) rfl).1 fa10 (eX1_settleWeek (63, .getfield 40, 3) (List.mem_of_getElem? (i := 32) rfl)) ?_
          refine ff_i2l hx hb (eX1_settleWeek (66, .i2l, 1) (List.mem_of_getElem? (i := 33) rfl)) (fun v20 e20 => ?_)
          refine ff_ladd hx hb (eX1_settleWeek (67, .ladd, 1) (List.mem_of_getElem? (i := 34) rfl)) (by omega) (by omega) (fun v21 e21 => ?_)
          refine ff_lconst hx hb (eX1_settleWeek (68, .lconst 1, 1) (List.mem_of_getElem? (i := 35) rfl)) rfl (fun v22 e22 => ?_)
          refine ff_lsub hx hb (eX1_settleWeek (69, .lsub, 1) (List.mem_of_getElem? (i := 36) rfl)) (by omega) (by omega) (fun v23 e23 => ?_)
          refine lv_lstore_n hx hb (eX1_settleWeek (70, .lstore_n 3, 1) (List.mem_of_getElem? (i := 37) rfl)) rfl hl (by decide) rfl (fun ls24 hl24 => ?_)
          refine lv_lload_n hx hb (eX1_settleWeek (71, .lload_n 3, 1) (List.mem_of_getElem? (i := 38) rfl)) rfl (lv_at hl24 0 rfl) ?_
          refine zu_S (vs := [.long v23]) (rest := []) hx hb hml hown hts0 zu_BT (hX2_holds l v23) ⟨rfl, rfl⟩ ⟨by decide, by decide⟩ ⟨by decide, by decide⟩ (tb_2 212 rfl rfl) (tb_1 13 rfl rfl) (tb_5 41 rfl rfl) (tb_2 211 rfl rfl) (show yX2_holds.cls ≠ "java/lang/invoke/MethodHandle" ∧ yX2_holds.cls ≠ "java/lang/invoke/VarHandle" ∧ (parseMethodDescriptor yX2_holds.desc).map (fun d => d.parameters.length) = some 1 by decide +kernel) rfl (fun _ _ _ => trivial) hl24.1 (Nat.le_of_ble_eq_true rfl) (eX1_settleWeek (72, .invokestatic 121, 3) (List.mem_of_getElem? (i := 39) rfl)) (fun w25 f25 => ?_)
          obtain ⟨v25, rfl, e25⟩ := f25
          refine ff_if_eq hx hb (eX1_settleWeek (75, .ifCond .eq 7, 3) (List.mem_of_getElem? (i := 40) rfl)) (tgt := 82) rfl (fun c26 => ?_) (fun c26 => ?_)
          · skip
            have d27 : ¬ (-365961662 ≤ fwI y0 + 7 * (f 7 - 1) + f 9 - 1 ∧ fwI y0 + 7 * (f 7 - 1) + f 9 - 1 ≤ 364522971) := by omega
            refine lv_aload_n hx hb (eX1_settleWeek (82, .aload_n 1, 1) (List.mem_of_getElem? (i := 43) rfl)) rfl (lv_at hl24 2 rfl) ?_
            refine lv_aload_n hx hb (eX1_settleWeek (83, .aload_n 0, 1) (List.mem_of_getElem? (i := 44) rfl)) rfl (lv_at hl24 1 rfl) ?_
            obtain ⟨v28, fa28, e28⟩ := jd0 2 (by decide)
            have e28 : v28.toInt = f 2 := e28
            refine tz_get (r := 1) (k := 2) (t := (0, (-2147483648), 2147483647)) hx hb hh hdt rfl rfl (hcl1 19 2 (0, (-2147483648), 2147483647) (by decide) rfl).1 fa28 (eX1_settleWeek (84, .getfield 19, 3) (List.mem_of_getElem? (i := 45) rfl)) ?_
            refine tz_rowV (As := [.int v28]) (st := []) (b := tx) (C := RX0) (Ts := gT) hx hb hml hown h2 (fun _ h => h) (hX0_blameN l D cA ro sz H0 tx v28 T (sg) htx) ⟨rfl, rfl⟩ ⟨by decide, by decide⟩ ⟨by decide, by decide⟩ (tb_4 64 rfl rfl) (tb_1 5 rfl rfl) (tb_5 34 rfl rfl) (tb_4 62 rfl rfl) (tb_4 63 rfl rfl) (show yX0_blame.cls ≠ "java/lang/invoke/MethodHandle" ∧ yX0_blame.cls ≠ "java/lang/invoke/VarHandle" ∧ (parseMethodDescriptor yX0_blame.desc).map (fun d => d.parameters.length) = some 1 by decide +kernel) zs_blind (zs_ob hh htx (show RTg[0]? = some (0, 0, 0, fsX0) from rfl) (zCX0 hKn.1)) (fun U hU hW => ⟨rfl, by rw [hU]; exact hh.l0, zKb s U hW.alike hKn, by rw [hU]; exact hJ⟩) hh.2.2.1 hl24.1 (Nat.le_of_ble_eq_true rfl) (eX1_settleWeek (87, .invokevirtual 90, 3) (List.mem_of_getElem? (i := 46) rfl)) (fun r29 s29 t29 lo29 g29 f29 l29 => ?_)
            obtain ⟨v29, q29, e29, z29, c29, j29, fx29⟩ := f29
            cases q29
            rw [g29] at c29 fx29
            have fr29 : ∀ p9 : Nat, p9 ∉ [tx] → t29.heap[p9]? = s.heap[p9]? := fun p9 h9 => (fx29 p9 (fun q => h9 (by rw [List.mem_singleton.mp q]; exact List.mem_cons_self))).trans (fr0 p9 h9)
            have hh29 : zh_ok D cA RTg ro sz H0 t29.heap lo29 := ⟨z29.1, z29.2.1, l29, z29.2.2.2⟩
            have kp29 := kp0.trans (c29.mono (ms' := uM) (by decide))
            have e29 : v29.toInt = NONEI := e29
            have j29 : jU D cA ro t29.heap tx T (blF (f 2) sg) := by rw [← show v28.toInt = f 2 by omega]; exact j29
            have mf29_tx_0 := (c29.1 tx 0 0 0 0 fsX0 htx rfl (by decide) (by decide)).trans f0
            have mf29_tx_1 := (c29.1 tx 0 1 0 0 fsX0 htx rfl (by decide) (by decide)).trans f1
            have mf29_dt_7 := (c29.1 dt 1 7 1 0 fsX1 hdt rfl (by decide) (by decide)).trans fa1
            have mf29_dt_9 := (c29.1 dt 1 9 1 0 fsX1 hdt rfl (by decide) (by decide)).trans fa10
            have mf29_dt_2 := (c29.1 dt 1 2 1 0 fsX1 hdt rfl (by decide) (by decide)).trans fa28
            refine W.eq (g2 := F0 m 90 ls24 [.long v29]) rfl ?_
            have hfin : dwF y0 f sg = (NONEI, blF (f 2) sg) := by first | (simp only [dwF, if_neg d9, if_neg d18, if_neg d27, up_eq]; done) | (simp only [dwF, if_neg d9, if_neg d18, if_neg d27, up_eq] <;> rfl) | rfl
            exact W.lret hx hb hr (fun t ht hW => ⟨_, rfl, by rw [hfin]; (first | (show v29.toInt = _; omega) | (show v29.toInt = NONEI; unfold NONEI; omega)), by rw [ht]; exact hh29.l0, by rw [ht]; exact kp29, by rw [ht, hfin]; exact j29, by rw [ht]; exact fr29⟩) hh29.2.2.1 (eX1_settleWeek (90, .lreturn, 1) (List.mem_of_getElem? (i := 47) rfl))
          · skip
            have d30 : -365961662 ≤ fwI y0 + 7 * (f 7 - 1) + f 9 - 1 ∧ fwI y0 + 7 * (f 7 - 1) + f 9 - 1 ≤ 364522971 := by omega
            refine lv_lload_n hx hb (eX1_settleWeek (78, .lload_n 3, 1) (List.mem_of_getElem? (i := 41) rfl)) rfl (lv_at hl24 0 rfl) ?_
            refine lv_goto hx hb (eX1_settleWeek (79, .goto 11, 3) (List.mem_of_getElem? (i := 42) rfl)) (tgt := 90) rfl ?_
            have hfin : dwF y0 f sg = (fwI y0 + 7 * (f 7 - 1) + f 9 - 1, sg) := by first | (simp only [dwF, if_neg d9, if_neg d18, if_pos d30, up_eq]; done) | (simp only [dwF, if_neg d9, if_neg d18, if_pos d30, up_eq] <;> rfl) | rfl
            exact W.lret hx hb hr (fun t ht hW => ⟨_, rfl, by rw [hfin]; (first | (show v23.toInt = _; omega) | (show v23.toInt = NONEI; unfold NONEI; omega)), by rw [ht]; exact hh.l0, by rw [ht]; exact kp0, by rw [ht, hfin]; exact hJ, by rw [ht]; exact fr0⟩) hh.2.2.1 (eX1_settleWeek (90, .lreturn, 1) (List.mem_of_getElem? (i := 47) rfl))
        · skip
          have d31 : f 9 < 1 ∨ 7 < f 9 := by omega
          refine lv_aload_n hx hb (eX1_settleWeek (45, .aload_n 1, 1) (List.mem_of_getElem? (i := 22) rfl)) rfl (lv_at hl 1 rfl) ?_
          refine lv_aload_n hx hb (eX1_settleWeek (46, .aload_n 0, 1) (List.mem_of_getElem? (i := 23) rfl)) rfl (lv_at hl 0 rfl) ?_
          obtain ⟨v32, fa32, e32⟩ := jd0 8 (by decide)
          have e32 : v32.toInt = f 8 := e32
          refine tz_get (r := 1) (k := 8) (t := (0, (-2147483648), 2147483647)) hx hb hh hdt rfl rfl (hcl1 37 8 (0, (-2147483648), 2147483647) (by decide) rfl).1 fa32 (eX1_settleWeek (47, .getfield 37, 3) (List.mem_of_getElem? (i := 24) rfl)) ?_
          refine tz_rowV (As := [.int v32]) (st := []) (b := tx) (C := RX0) (Ts := gT) hx hb hml hown h2 (fun _ h => h) (hX0_blameN l D cA ro sz H0 tx v32 T (sg) htx) ⟨rfl, rfl⟩ ⟨by decide, by decide⟩ ⟨by decide, by decide⟩ (tb_4 64 rfl rfl) (tb_1 5 rfl rfl) (tb_5 34 rfl rfl) (tb_4 62 rfl rfl) (tb_4 63 rfl rfl) (show yX0_blame.cls ≠ "java/lang/invoke/MethodHandle" ∧ yX0_blame.cls ≠ "java/lang/invoke/VarHandle" ∧ (parseMethodDescriptor yX0_blame.desc).map (fun d => d.parameters.length) = some 1 by decide +kernel) zs_blind (zs_ob hh htx (show RTg[0]? = some (0, 0, 0, fsX0) from rfl) (zCX0 hKn.1)) (fun U hU hW => ⟨rfl, by rw [hU]; exact hh.l0, zKb s U hW.alike hKn, by rw [hU]; exact hJ⟩) hh.2.2.1 hl.1 (Nat.le_of_ble_eq_true rfl) (eX1_settleWeek (50, .invokevirtual 90, 3) (List.mem_of_getElem? (i := 25) rfl)) (fun r33 s33 t33 lo33 g33 f33 l33 => ?_)
          obtain ⟨v33, q33, e33, z33, c33, j33, fx33⟩ := f33
          cases q33
          rw [g33] at c33 fx33
          have fr33 : ∀ p9 : Nat, p9 ∉ [tx] → t33.heap[p9]? = s.heap[p9]? := fun p9 h9 => (fx33 p9 (fun q => h9 (by rw [List.mem_singleton.mp q]; exact List.mem_cons_self))).trans (fr0 p9 h9)
          have hh33 : zh_ok D cA RTg ro sz H0 t33.heap lo33 := ⟨z33.1, z33.2.1, l33, z33.2.2.2⟩
          have kp33 := kp0.trans (c33.mono (ms' := uM) (by decide))
          have e33 : v33.toInt = NONEI := e33
          have j33 : jU D cA ro t33.heap tx T (blF (f 8) sg) := by rw [← show v32.toInt = f 8 by omega]; exact j33
          have mf33_tx_0 := (c33.1 tx 0 0 0 0 fsX0 htx rfl (by decide) (by decide)).trans f0
          have mf33_tx_1 := (c33.1 tx 0 1 0 0 fsX0 htx rfl (by decide) (by decide)).trans f1
          have mf33_dt_7 := (c33.1 dt 1 7 1 0 fsX1 hdt rfl (by decide) (by decide)).trans fa1
          have mf33_dt_9 := (c33.1 dt 1 9 1 0 fsX1 hdt rfl (by decide) (by decide)).trans fa10
          have mf33_dt_8 := (c33.1 dt 1 8 1 0 fsX1 hdt rfl (by decide) (by decide)).trans fa32
          refine W.eq (g2 := F0 m 53 ls [.long v33]) rfl ?_
          have hfin : dwF y0 f sg = (NONEI, blF (f 8) sg) := by first | (simp only [dwF, if_neg d9, if_pos d31, up_eq]; done) | (simp only [dwF, if_neg d9, if_pos d31, up_eq] <;> rfl) | rfl
          exact W.lret hx hb hr (fun t ht hW => ⟨_, rfl, by rw [hfin]; (first | (show v33.toInt = _; omega) | (show v33.toInt = NONEI; unfold NONEI; omega)), by rw [ht]; exact hh33.l0, by rw [ht]; exact kp33, by rw [ht, hfin]; exact j33, by rw [ht]; exact fr33⟩) hh33.2.2.1 (eX1_settleWeek (53, .lreturn, 1) (List.mem_of_getElem? (i := 26) rfl))
    · skip
      have d34 : f 7 < 1 ∨ wkI y0 < f 7 := by omega
      refine lv_aload_n hx hb (eX1_settleWeek (19, .aload_n 1, 1) (List.mem_of_getElem? (i := 9) rfl)) rfl (lv_at hl 1 rfl) ?_
      refine lv_aload_n hx hb (eX1_settleWeek (20, .aload_n 0, 1) (List.mem_of_getElem? (i := 10) rfl)) rfl (lv_at hl 0 rfl) ?_
      obtain ⟨v35, fa35, e35⟩ := jd0 6 (by decide)
      have e35 : v35.toInt = f 6 := e35
      refine tz_get (r := 1) (k := 6) (t := (0, (-2147483648), 2147483647)) hx hb hh hdt rfl rfl (hcl1 31 6 (0, (-2147483648), 2147483647) (by decide) rfl).1 fa35 (eX1_settleWeek (21, .getfield 31, 3) (List.mem_of_getElem? (i := 11) rfl)) ?_
      refine tz_rowV (As := [.int v35]) (st := []) (b := tx) (C := RX0) (Ts := gT) hx hb hml hown h2 (fun _ h => h) (hX0_blameN l D cA ro sz H0 tx v35 T (sg) htx) ⟨rfl, rfl⟩ ⟨by decide, by decide⟩ ⟨by decide, by decide⟩ (tb_4 64 rfl rfl) (tb_1 5 rfl rfl) (tb_5 34 rfl rfl) (tb_4 62 rfl rfl) (tb_4 63 rfl rfl) (show yX0_blame.cls ≠ "java/lang/invoke/MethodHandle" ∧ yX0_blame.cls ≠ "java/lang/invoke/VarHandle" ∧ (parseMethodDescriptor yX0_blame.desc).map (fun d => d.parameters.length) = some 1 by decide +kernel) zs_blind (zs_ob hh htx (show RTg[0]? = some (0, 0, 0, fsX0) from rfl) (zCX0 hKn.1)) (fun U hU hW => ⟨rfl, by rw [hU]; exact hh.l0, zKb s U hW.alike hKn, by rw [hU]; exact hJ⟩) hh.2.2.1 hl.1 (Nat.le_of_ble_eq_true rfl) (eX1_settleWeek (24, .invokevirtual 90, 3) (List.mem_of_getElem? (i := 12) rfl)) (fun r36 s36 t36 lo36 g36 f36 l36 => ?_)
      obtain ⟨v36, q36, e36, z36, c36, j36, fx36⟩ := f36
      cases q36
      rw [g36] at c36 fx36
      have fr36 : ∀ p9 : Nat, p9 ∉ [tx] → t36.heap[p9]? = s.heap[p9]? := fun p9 h9 => (fx36 p9 (fun q => h9 (by rw [List.mem_singleton.mp q]; exact List.mem_cons_self))).trans (fr0 p9 h9)
      have hh36 : zh_ok D cA RTg ro sz H0 t36.heap lo36 := ⟨z36.1, z36.2.1, l36, z36.2.2.2⟩
      have kp36 := kp0.trans (c36.mono (ms' := uM) (by decide))
      have e36 : v36.toInt = NONEI := e36
      have j36 : jU D cA ro t36.heap tx T (blF (f 6) sg) := by rw [← show v35.toInt = f 6 by omega]; exact j36
      have mf36_tx_0 := (c36.1 tx 0 0 0 0 fsX0 htx rfl (by decide) (by decide)).trans f0
      have mf36_tx_1 := (c36.1 tx 0 1 0 0 fsX0 htx rfl (by decide) (by decide)).trans f1
      have mf36_dt_7 := (c36.1 dt 1 7 1 0 fsX1 hdt rfl (by decide) (by decide)).trans fa1
      have mf36_dt_6 := (c36.1 dt 1 6 1 0 fsX1 hdt rfl (by decide) (by decide)).trans fa35
      refine W.eq (g2 := F0 m 27 ls [.long v36]) rfl ?_
      have hfin : dwF y0 f sg = (NONEI, blF (f 6) sg) := by first | (simp only [dwF, if_pos d34, up_eq]; done) | (simp only [dwF, if_pos d34, up_eq] <;> rfl) | rfl
      exact W.lret hx hb hr (fun t ht hW => ⟨_, rfl, by rw [hfin]; (first | (show v36.toInt = _; omega) | (show v36.toInt = NONEI; unfold NONEI; omega)), by rw [ht]; exact hh36.l0, by rw [ht]; exact kp36, by rw [ht, hfin]; exact j36, by rw [ht]; exact fr36⟩) hh36.2.2.1 (eX1_settleWeek (27, .lreturn, 1) (List.mem_of_getElem? (i := 13) rfl))
theorem tl_b9 {f : fN} (h4 : f 4 = 0 ∨ f 4 = 1) (h5 : 0 ≤ f 5 ∧ f 5 ≤ 999999) : -999999 ≤ tlF f ∧ tlF f ≤ 999999 := by unfold tlF; split <;> omega
set_option maxRecDepth 100000 in
set_option maxHeartbeats 4000000 in
theorem hX1_settle (l : Launch) (D : va_G) (cA : Nat → ClassId) (ro : Nat → Option Nat) (sz : Nat) (H0 : Heap) (dt : Nat) (tx : Nat) (T : List Int) (sg : uS) (f : fN) (hdt : ro dt = some 1) (htx : ro tx = some 0) (hf4 : f 4 = 0 ∨ f 4 = 1) (hyr : sg.2.1 = 0 → 0 ≤ f 5 ∧ f 5 ≤ 999999) : Met l yX1_settle (gW yX1_settle cX1_settle 4 (some .long)) { frames := 3, cells := 0, slots := 0, locals := 69 } (zs_PB D cA ro sz H0 (fun H => jU D cA ro H tx T sg ∧ jF D H dt 1 10 f) [.ref dt, .ref tx]) (dl_Q D cA ro sz H0 uM [tx] tx T (dqF f sg)) 0 0 (zy_fr sz) := by
  refine zy_ofW (cc := cX1_settle) (maxL := 4) (ret := (some .long)) (by decide +kernel) rfl ?_
  intro p e s m args below meth c s1 B hml hv
  obtain ⟨rfl, hh, ⟨hKn, hBQ⟩, hJ⟩ := hv
  have hx := B.exec
  have hb := B.bytes
  have hr := B.returns
  have hlk := B.notSynchronized
  have hts0 := atoms_spec (ws := gW yX1_settle cX1_settle 4 (some .long)) B.pre
  have h2 : ∀ w ∈ gT, w.before ([.ref dt, .ref tx] : List Value).toArray s = true := fun w hw => hts0 w (List.mem_cons_of_mem _ hw)
  have hown : s.vm.findClass RX1 = some m.cls := findClass_of_methodNamed B.named
  have hl := lv_entry [.ref dt, .ref tx] (n := 4) (Nat.le_of_ble_eq_true rfl)
  rw [lg_entry_eq]
  generalize (lg_sl [.ref dt, .ref tx] ++ List.replicate (4 - (lg_sl [.ref dt, .ref tx]).length) Slot.unset).toArray = ls at hl ⊢
  have hD := zD_all h2 hKn.1
  have hcl0 := fun (idx k : Nat) (t : zt_T) (h : (idx, 0, k) ∈ gfX1) (hk : fsX0[k]? = some t) => zf_clause (ro := ro) (ms := uM) h2 hown hKn.1 gfX1_ok (by decide +kernel) idx 0 k 0 0 fsX0 t h rfl hk
  have hcl1 := fun (idx k : Nat) (t : zt_T) (h : (idx, 1, k) ∈ gfX1) (hk : fsX1[k]? = some t) => zf_clause (ro := ro) (ms := uM) h2 hown hKn.1 gfX1_ok (by decide +kernel) idx 1 k 1 0 fsX1 t h rfl hk
  have kp0 : zc_kept D RTg ro uM s.heap s.heap := zc_kept.refl
  obtain ⟨hJ, jd0⟩ := hJ
  obtain ⟨hjt, ⟨av, bv, wv, f2, f3, f4, hav, hbv, hwv⟩, hu⟩ := id hJ
  obtain ⟨tb, n, z, f0, r0, f1, hn, hc, hz⟩ := id hjt
  obtain ⟨n9, g9, n1, n2⟩ := zh_fT (k := 1) (t := (0, 0, 120)) hh htx (show RTg[0]? = some (0, 0, 0, fsX0) from rfl) rfl
  cases f1.symm.trans g9
  dsimp only at n1 n2
  clear g9
  obtain ⟨-, z9, c9, hy9⟩ := zh_arr hh r0 (show RTg[12]? = some (1, 2, 120, [(0, (-128), 127)]) from rfl)
  have hy : ∀ i, i < 120 → zt_ok ro (z i) (0, (-128), 127) := zs_arr (hc.symm.trans c9) hy9
  obtain ⟨u1, u2, u3⟩ := id hu
  have fr0 : ∀ p9 : Nat, p9 ∉ [tx] → s.heap[p9]? = s.heap[p9]? := fun _ _ => rfl
  refine lv_aload_n hx hb (eX1_settle (0, .aload_n 1, 1) (List.mem_of_getElem? (i := 0) rfl)) rfl (lv_at hl 1 rfl) ?_
  refine tz_rowV (As := []) (st := []) (b := tx) (C := RX0) (Ts := gT) hx hb hml hown h2 (fun _ h => h) (hX0_isGood l D cA ro sz H0 tx T (sg) htx) ⟨rfl, rfl⟩ ⟨by decide, by decide⟩ ⟨by decide, by decide⟩ (tb_5 32 rfl rfl) (tb_1 5 rfl rfl) (tb_5 29 rfl rfl) (tb_5 30 rfl rfl) (tb_5 31 rfl rfl) (show yX0_isGood.cls ≠ "java/lang/invoke/MethodHandle" ∧ yX0_isGood.cls ≠ "java/lang/invoke/VarHandle" ∧ (parseMethodDescriptor yX0_isGood.desc).map (fun d => d.parameters.length) = some 0 by decide +kernel) zs_blind (zs_ob hh htx (show RTg[0]? = some (0, 0, 0, fsX0) from rfl) (zCX0 hKn.1)) (fun U hU hW => ⟨rfl, by rw [hU]; exact hh.l0, zKb s U hW.alike hKn, by rw [hU]; exact hJ⟩) hh.2.2.1 hl.1 (Nat.le_of_ble_eq_true rfl) (eX1_settle (1, .invokevirtual 85, 3) (List.mem_of_getElem? (i := 1) rfl)) (fun r1 s1 t1 lo1 g1 f1 l1 => ?_)
  obtain ⟨z1, v1, q1, e1⟩ := f1
  cases q1
  rw [z1, g1]
  have hh1 : zh_ok D cA RTg ro sz H0 s.heap lo1 := ⟨hh.1, hh.2.1, l1, hh.2.2.2⟩
  refine W.eq (g2 := F0 m 4 ls [.int v1]) rfl ?_
  refine ff_if_ne hx hb (eX1_settle (4, .ifCond .ne 7, 3) (List.mem_of_getElem? (i := 2) rfl)) (tgt := 11) rfl (fun c2 => ?_) (fun c2 => ?_)
  · skip
    have d3 : sg.2.1 = 0 ∧ sg.2.2 < 0 := by omega
    refine lv_aload_n hx hb (eX1_settle (11, .aload_n 0, 1) (List.mem_of_getElem? (i := 5) rfl)) rfl (lv_at hl 0 rfl) ?_
    obtain ⟨v4, fa4, e4⟩ := jd0 4 (by decide)
    have e4 : v4.toInt = f 4 := e4
    refine tz_get (r := 1) (k := 4) (t := (0, 0, 1)) hx hb hh1 hdt rfl rfl (hcl1 25 4 (0, 0, 1) (by decide) rfl).1 fa4 (eX1_settle (12, .getfield 25, 3) (List.mem_of_getElem? (i := 6) rfl)) ?_
    have h4b := hf4
    refine ff_if_eq hx hb (eX1_settle (15, .ifCond .eq 19, 3) (List.mem_of_getElem? (i := 7) rfl)) (tgt := 34) rfl (fun c5 => ?_) (fun c5 => ?_)
    · skip
      have d6 : ¬ (f 4 = 1 ∧ f 5 = 0) := by omega
      refine lv_aload_n hx hb (eX1_settle (34, .aload_n 0, 1) (List.mem_of_getElem? (i := 16) rfl)) rfl (lv_at hl 0 rfl) ?_
      refine tz_get (r := 1) (k := 4) (t := (0, 0, 1)) hx hb hh1 hdt rfl rfl (hcl1 25 4 (0, 0, 1) (by decide) rfl).1 fa4 (eX1_settle (35, .getfield 25, 3) (List.mem_of_getElem? (i := 17) rfl)) ?_
      refine ff_if_eq hx hb (eX1_settle (38, .ifCond .eq 11, 3) (List.mem_of_getElem? (i := 18) rfl)) (tgt := 49) rfl (fun c7 => ?_) (fun c7 => (by exfalso; omega))
      refine lv_aload_n hx hb (eX1_settle (49, .aload_n 0, 1) (List.mem_of_getElem? (i := 23) rfl)) rfl (lv_at hl 0 rfl) ?_
      obtain ⟨v8, fa8, e8⟩ := jd0 5 (by decide)
      have e8 : v8.toInt = f 5 := e8
      refine tz_get (r := 1) (k := 5) (t := (0, (-2147483648), 2147483647)) hx hb hh1 hdt rfl rfl (hcl1 28 5 (0, (-2147483648), 2147483647) (by decide) rfl).1 fa8 (eX1_settle (50, .getfield 28, 3) (List.mem_of_getElem? (i := 24) rfl)) ?_
      refine lv_istore_n hx hb (eX1_settle (53, .istore_n 2, 1) (List.mem_of_getElem? (i := 25) rfl)) rfl hl (by decide) rfl (fun ls9 hl9 => ?_)
      have htl : v8.toInt = tlF f := by unfold tlF; rw [if_neg (by omega)]; omega
      have htb := tl_b9 hf4 (hyr (d3).1)
      have hyb := ysI_bd (y := tlF f) (by omega) (by omega)
      have hmlb := mlI_bd (tlF f) (f 7)
      have hlp := lpI_bd (tlF f)
      refine lv_aload_n hx hb (eX1_settle (54, .aload_n 0, 1) (List.mem_of_getElem? (i := 26) rfl)) rfl (lv_at hl9 1 rfl) ?_
      obtain ⟨v10, fa10, e10⟩ := jd0 0 (by decide)
      have e10 : v10.toInt = f 0 := e10
      refine tz_get (r := 1) (k := 0) (t := (0, (-2147483648), 2147483647)) hx hb hh1 hdt rfl rfl (hcl1 9 0 (0, (-2147483648), 2147483647) (by decide) rfl).1 fa10 (eX1_settle (55, .getfield 9, 3) (List.mem_of_getElem? (i := 27) rfl)) ?_
      refine ff_iconst hx hb (eX1_settle (58, .iconst 1, 1) (List.mem_of_getElem? (i := 28) rfl)) (by decide) (by decide) (fun v11 e11 => ?_)
      refine ff_icmp_eq hx hb (eX1_settle (59, .if_icmp .eq 11, 3) (List.mem_of_getElem? (i := 29) rfl)) (tgt := 70) rfl (fun c12 => ?_) (fun c12 => ?_)
      · skip
        have d13 : f 0 = 1 ∨ f 0 = 5 := by omega
        refine lv_aload_n hx hb (eX1_settle (70, .aload_n 0, 1) (List.mem_of_getElem? (i := 34) rfl)) rfl (lv_at hl9 1 rfl) ?_
        refine lv_aload_n hx hb (eX1_settle (71, .aload_n 1, 1) (List.mem_of_getElem? (i := 35) rfl)) rfl (lv_at hl9 2 rfl) ?_
        refine lv_iload_n hx hb (eX1_settle (72, .iload_n 2, 1) (List.mem_of_getElem? (i := 36) rfl)) rfl (lv_at hl9 0 rfl) ?_
        refine tz_rowV (As := [.ref tx, .int v8]) (st := []) (b := dt) (C := RX1) (Ts := gT) hx hb hml hown h2 (fun _ h => h) (hX1_settleWeek l D cA ro sz H0 dt tx v8 (tlF f) T sg f hdt htx htl (by omega) (by omega)) ⟨rfl, rfl⟩ ⟨by decide, by decide⟩ ⟨by decide, by decide⟩ (tb_5 38 rfl rfl) (tb_1 8 rfl rfl) (tb_5 35 rfl rfl) (tb_5 36 rfl rfl) (tb_5 37 rfl rfl) (show yX1_settleWeek.cls ≠ "java/lang/invoke/MethodHandle" ∧ yX1_settleWeek.cls ≠ "java/lang/invoke/VarHandle" ∧ (parseMethodDescriptor yX1_settleWeek.desc).map (fun d => d.parameters.length) = some 2 by decide +kernel) zs_blind (zs_ob hh1 hdt (show RTg[1]? = some (0, 1, 0, fsX1) from rfl) (zCX1 hKn.1)) (fun U hU hW => ⟨rfl, by rw [hU]; exact hh1.l0, zKb s U hW.alike hKn, by rw [hU]; exact ⟨hJ, jd0⟩⟩) hh1.2.2.1 hl9.1 (Nat.le_of_ble_eq_true rfl) (eX1_settle (73, .invokevirtual 94, 3) (List.mem_of_getElem? (i := 37) rfl)) (fun r14 s14 t14 lo14 g14 f14 l14 => ?_)
        obtain ⟨v14, q14, e14, z14, c14, j14, fx14⟩ := f14
        cases q14
        rw [g14] at c14 fx14
        have fr14 : ∀ p9 : Nat, p9 ∉ [tx] → t14.heap[p9]? = s.heap[p9]? := fun p9 h9 => (fx14 p9 (fun q => h9 (by rw [List.mem_singleton.mp q]; exact List.mem_cons_self))).trans (fr0 p9 h9)
        have hh14 : zh_ok D cA RTg ro sz H0 t14.heap lo14 := ⟨z14.1, z14.2.1, l14, z14.2.2.2⟩
        have kp14 := kp0.trans (c14.mono (ms' := uM) (by decide))
        refine W.eq (g2 := F0 m 76 ls9 [.long v14]) rfl ?_
        have hfin : dqF f sg = ((dwF (tlF f) f sg).1, (dwF (tlF f) f sg).2) := by first | (simp only [dqF, if_pos d3, if_neg d6, if_pos d13, up_eq]; done) | (simp only [dqF, if_pos d3, if_neg d6, if_pos d13, up_eq] <;> rfl) | rfl
        exact W.lret hx hb hr (fun t ht hW => ⟨_, rfl, by rw [hfin]; (first | (show v14.toInt = _; omega) | (show v14.toInt = NONEI; unfold NONEI; omega)), by rw [ht]; exact hh14.l0, by rw [ht]; exact kp14, by rw [ht, hfin]; exact j14, by rw [ht]; exact fr14⟩) hh14.2.2.1 (eX1_settle (76, .lreturn, 1) (List.mem_of_getElem? (i := 38) rfl))
      · skip
        refine lv_aload_n hx hb (eX1_settle (62, .aload_n 0, 1) (List.mem_of_getElem? (i := 30) rfl)) rfl (lv_at hl9 1 rfl) ?_
        refine tz_get (r := 1) (k := 0) (t := (0, (-2147483648), 2147483647)) hx hb hh1 hdt rfl rfl (hcl1 9 0 (0, (-2147483648), 2147483647) (by decide) rfl).1 fa10 (eX1_settle (63, .getfield 9, 3) (List.mem_of_getElem? (i := 31) rfl)) ?_
        refine ff_iconst hx hb (eX1_settle (66, .iconst 5, 1) (List.mem_of_getElem? (i := 32) rfl)) (by decide) (by decide) (fun v15 e15 => ?_)
        refine ff_icmp_ne hx hb (eX1_settle (67, .if_icmp .ne 10, 3) (List.mem_of_getElem? (i := 33) rfl)) (tgt := 77) rfl (fun c16 => ?_) (fun c16 => ?_)
        · skip
          have d17 : ¬ (f 0 = 1 ∨ f 0 = 5) := by omega
          refine lv_aload_n hx hb (eX1_settle (77, .aload_n 0, 1) (List.mem_of_getElem? (i := 39) rfl)) rfl (lv_at hl9 1 rfl) ?_
          refine tz_get (r := 1) (k := 0) (t := (0, (-2147483648), 2147483647)) hx hb hh1 hdt rfl rfl (hcl1 9 0 (0, (-2147483648), 2147483647) (by decide) rfl).1 fa10 (eX1_settle (78, .getfield 9, 3) (List.mem_of_getElem? (i := 40) rfl)) ?_
          refine ff_iconst hx hb (eX1_settle (81, .iconst 2, 1) (List.mem_of_getElem? (i := 41) rfl)) (by decide) (by decide) (fun v18 e18 => ?_)
          refine ff_icmp_ne hx hb (eX1_settle (82, .if_icmp .ne 56, 3) (List.mem_of_getElem? (i := 42) rfl)) (tgt := 138) rfl (fun c19 => ?_) (fun c19 => ?_)
          · skip
            have d20 : ¬ f 0 = 2 := by omega
            refine lv_aload_n hx hb (eX1_settle (138, .aload_n 0, 1) (List.mem_of_getElem? (i := 72) rfl)) rfl (lv_at hl9 1 rfl) ?_
            obtain ⟨v21, fa21, e21⟩ := jd0 7 (by decide)
            have e21 : v21.toInt = f 7 := e21
            refine tz_get (r := 1) (k := 7) (t := (0, (-2147483648), 2147483647)) hx hb hh1 hdt rfl rfl (hcl1 34 7 (0, (-2147483648), 2147483647) (by decide) rfl).1 fa21 (eX1_settle (139, .getfield 34, 3) (List.mem_of_getElem? (i := 73) rfl)) ?_
            refine ff_iconst hx hb (eX1_settle (142, .iconst 1, 1) (List.mem_of_getElem? (i := 74) rfl)) (by decide) (by decide) (fun v22 e22 => ?_)
            refine ff_icmp_lt hx hb (eX1_settle (143, .if_icmp .lt 12, 3) (List.mem_of_getElem? (i := 75) rfl)) (tgt := 155) rfl (fun c23 => ?_) (fun c23 => ?_)
            · skip
              have d24 : f 7 < 1 ∨ 12 < f 7 := by omega
              refine lv_aload_n hx hb (eX1_settle (155, .aload_n 1, 1) (List.mem_of_getElem? (i := 80) rfl)) rfl (lv_at hl9 2 rfl) ?_
              refine lv_aload_n hx hb (eX1_settle (156, .aload_n 0, 1) (List.mem_of_getElem? (i := 81) rfl)) rfl (lv_at hl9 1 rfl) ?_
              obtain ⟨v25, fa25, e25⟩ := jd0 6 (by decide)
              have e25 : v25.toInt = f 6 := e25
              refine tz_get (r := 1) (k := 6) (t := (0, (-2147483648), 2147483647)) hx hb hh1 hdt rfl rfl (hcl1 31 6 (0, (-2147483648), 2147483647) (by decide) rfl).1 fa25 (eX1_settle (157, .getfield 31, 3) (List.mem_of_getElem? (i := 82) rfl)) ?_
              refine tz_rowV (As := [.int v25]) (st := []) (b := tx) (C := RX0) (Ts := gT) hx hb hml hown h2 (fun _ h => h) (hX0_blameN l D cA ro sz H0 tx v25 T (sg) htx) ⟨rfl, rfl⟩ ⟨by decide, by decide⟩ ⟨by decide, by decide⟩ (tb_4 64 rfl rfl) (tb_1 5 rfl rfl) (tb_5 34 rfl rfl) (tb_4 62 rfl rfl) (tb_4 63 rfl rfl) (show yX0_blame.cls ≠ "java/lang/invoke/MethodHandle" ∧ yX0_blame.cls ≠ "java/lang/invoke/VarHandle" ∧ (parseMethodDescriptor yX0_blame.desc).map (fun d => d.parameters.length) = some 1 by decide +kernel) zs_blind (zs_ob hh1 htx (show RTg[0]? = some (0, 0, 0, fsX0) from rfl) (zCX0 hKn.1)) (fun U hU hW => ⟨rfl, by rw [hU]; exact hh1.l0, zKb s U hW.alike hKn, by rw [hU]; exact hJ⟩) hh1.2.2.1 hl9.1 (Nat.le_of_ble_eq_true rfl) (eX1_settle (160, .invokevirtual 90, 3) (List.mem_of_getElem? (i := 83) rfl)) (fun r26 s26 t26 lo26 g26 f26 l26 => ?_)
              obtain ⟨v26, q26, e26, z26, c26, j26, fx26⟩ := f26
              cases q26
              rw [g26] at c26 fx26
              have fr26 : ∀ p9 : Nat, p9 ∉ [tx] → t26.heap[p9]? = s.heap[p9]? := fun p9 h9 => (fx26 p9 (fun q => h9 (by rw [List.mem_singleton.mp q]; exact List.mem_cons_self))).trans (fr0 p9 h9)
              have hh26 : zh_ok D cA RTg ro sz H0 t26.heap lo26 := ⟨z26.1, z26.2.1, l26, z26.2.2.2⟩
              have kp26 := kp0.trans (c26.mono (ms' := uM) (by decide))
              have e26 : v26.toInt = NONEI := e26
              have j26 : jU D cA ro t26.heap tx T (blF (f 6) sg) := by rw [← show v25.toInt = f 6 by omega]; exact j26
              have mf26_tx_0 := (c26.1 tx 0 0 0 0 fsX0 htx rfl (by decide) (by decide)).trans f0
              have mf26_tx_1 := (c26.1 tx 0 1 0 0 fsX0 htx rfl (by decide) (by decide)).trans f1
              have mf26_dt_4 := (c26.1 dt 1 4 1 0 fsX1 hdt rfl (by decide) (by decide)).trans fa4
              have mf26_dt_5 := (c26.1 dt 1 5 1 0 fsX1 hdt rfl (by decide) (by decide)).trans fa8
              have mf26_dt_0 := (c26.1 dt 1 0 1 0 fsX1 hdt rfl (by decide) (by decide)).trans fa10
              have mf26_dt_7 := (c26.1 dt 1 7 1 0 fsX1 hdt rfl (by decide) (by decide)).trans fa21
              have mf26_dt_6 := (c26.1 dt 1 6 1 0 fsX1 hdt rfl (by decide) (by decide)).trans fa25
              refine W.eq (g2 := F0 m 163 ls9 [.long v26]) rfl ?_
              have hfin : dqF f sg = (NONEI, blF (f 6) sg) := by first | (simp only [dqF, if_pos d3, if_neg d6, if_neg d17, if_neg d20, if_pos d24, up_eq]; done) | (simp only [dqF, if_pos d3, if_neg d6, if_neg d17, if_neg d20, if_pos d24, up_eq] <;> rfl) | rfl
              exact W.lret hx hb hr (fun t ht hW => ⟨_, rfl, by rw [hfin]; (first | (show v26.toInt = _; omega) | (show v26.toInt = NONEI; unfold NONEI; omega)), by rw [ht]; exact hh26.l0, by rw [ht]; exact kp26, by rw [ht, hfin]; exact j26, by rw [ht]; exact fr26⟩) hh26.2.2.1 (eX1_settle (163, .lreturn, 1) (List.mem_of_getElem? (i := 84) rfl))
            · skip
              refine lv_aload_n hx hb (eX1_settle (146, .aload_n 0, 1) (List.mem_of_getElem? (i := 76) rfl)) rfl (lv_at hl9 1 rfl) ?_
              refine tz_get (r := 1) (k := 7) (t := (0, (-2147483648), 2147483647)) hx hb hh1 hdt rfl rfl (hcl1 34 7 (0, (-2147483648), 2147483647) (by decide) rfl).1 fa21 (eX1_settle (147, .getfield 34, 3) (List.mem_of_getElem? (i := 77) rfl)) ?_
              refine ff_bipush hx hb (eX1_settle (150, .bipush 12, 2) (List.mem_of_getElem? (i := 78) rfl)) (by decide) (by decide) (fun v27 e27 => ?_)
              refine ff_icmp_le hx hb (eX1_settle (152, .if_icmp .le 12, 3) (List.mem_of_getElem? (i := 79) rfl)) (tgt := 164) rfl (fun c28 => ?_) (fun c28 => ?_)
              · skip
                have d29 : ¬ (f 7 < 1 ∨ 12 < f 7) := by omega
                refine lv_aload_n hx hb (eX1_settle (164, .aload_n 0, 1) (List.mem_of_getElem? (i := 85) rfl)) rfl (lv_at hl9 1 rfl) ?_
                obtain ⟨v30, fa30, e30⟩ := jd0 9 (by decide)
                have e30 : v30.toInt = f 9 := e30
                refine tz_get (r := 1) (k := 9) (t := (0, (-2147483648), 2147483647)) hx hb hh1 hdt rfl rfl (hcl1 40 9 (0, (-2147483648), 2147483647) (by decide) rfl).1 fa30 (eX1_settle (165, .getfield 40, 3) (List.mem_of_getElem? (i := 86) rfl)) ?_
                refine ff_iconst hx hb (eX1_settle (168, .iconst 1, 1) (List.mem_of_getElem? (i := 87) rfl)) (by decide) (by decide) (fun v31 e31 => ?_)
                refine ff_icmp_lt hx hb (eX1_settle (169, .if_icmp .lt 22, 3) (List.mem_of_getElem? (i := 88) rfl)) (tgt := 191) rfl (fun c32 => ?_) (fun c32 => ?_)
                · skip
                  have d33 : ¬ (1 ≤ f 9 ∧ f 9 ≤ mlI (tlF f) (f 7)) := by omega
                  refine ff_iconst hx hb (eX1_settle (191, .iconst 0, 1) (List.mem_of_getElem? (i := 98) rfl)) (by decide) (by decide) (fun v34 e34 => ?_)
                  refine lv_istore_n hx hb (eX1_settle (192, .istore_n 3, 1) (List.mem_of_getElem? (i := 99) rfl)) rfl hl9 (by decide) rfl (fun ls35 hl35 => ?_)
                  refine lv_iload_n hx hb (eX1_settle (193, .iload_n 3, 1) (List.mem_of_getElem? (i := 100) rfl)) rfl (lv_at hl35 0 rfl) ?_
                  refine ff_if_eq hx hb (eX1_settle (194, .ifCond .eq 18, 3) (List.mem_of_getElem? (i := 101) rfl)) (tgt := 212) rfl (fun c36 => ?_) (fun c36 => (by exfalso; omega))
                  refine lv_aload_n hx hb (eX1_settle (212, .aload_n 1, 1) (List.mem_of_getElem? (i := 109) rfl)) rfl (lv_at hl35 3 rfl) ?_
                  refine lv_aload_n hx hb (eX1_settle (213, .aload_n 0, 1) (List.mem_of_getElem? (i := 110) rfl)) rfl (lv_at hl35 2 rfl) ?_
                  obtain ⟨v37, fa37, e37⟩ := jd0 8 (by decide)
                  have e37 : v37.toInt = f 8 := e37
                  refine tz_get (r := 1) (k := 8) (t := (0, (-2147483648), 2147483647)) hx hb hh1 hdt rfl rfl (hcl1 37 8 (0, (-2147483648), 2147483647) (by decide) rfl).1 fa37 (eX1_settle (214, .getfield 37, 3) (List.mem_of_getElem? (i := 111) rfl)) ?_
                  refine tz_rowV (As := [.int v37]) (st := []) (b := tx) (C := RX0) (Ts := gT) hx hb hml hown h2 (fun _ h => h) (hX0_blameN l D cA ro sz H0 tx v37 T (sg) htx) ⟨rfl, rfl⟩ ⟨by decide, by decide⟩ ⟨by decide, by decide⟩ (tb_4 64 rfl rfl) (tb_1 5 rfl rfl) (tb_5 34 rfl rfl) (tb_4 62 rfl rfl) (tb_4 63 rfl rfl) (show yX0_blame.cls ≠ "java/lang/invoke/MethodHandle" ∧ yX0_blame.cls ≠ "java/lang/invoke/VarHandle" ∧ (parseMethodDescriptor yX0_blame.desc).map (fun d => d.parameters.length) = some 1 by decide +kernel) zs_blind (zs_ob hh1 htx (show RTg[0]? = some (0, 0, 0, fsX0) from rfl) (zCX0 hKn.1)) (fun U hU hW => ⟨rfl, by rw [hU]; exact hh1.l0, zKb s U hW.alike hKn, by rw [hU]; exact hJ⟩) hh1.2.2.1 hl35.1 (Nat.le_of_ble_eq_true rfl) (eX1_settle (217, .invokevirtual 90, 3) (List.mem_of_getElem? (i := 112) rfl)) (fun r38 s38 t38 lo38 g38 f38 l38 => ?_)
                  obtain ⟨v38, q38, e38, z38, c38, j38, fx38⟩ := f38
                  cases q38
                  rw [g38] at c38 fx38
                  have fr38 : ∀ p9 : Nat, p9 ∉ [tx] → t38.heap[p9]? = s.heap[p9]? := fun p9 h9 => (fx38 p9 (fun q => h9 (by rw [List.mem_singleton.mp q]; exact List.mem_cons_self))).trans (fr0 p9 h9)
                  have hh38 : zh_ok D cA RTg ro sz H0 t38.heap lo38 := ⟨z38.1, z38.2.1, l38, z38.2.2.2⟩
                  have kp38 := kp0.trans (c38.mono (ms' := uM) (by decide))
                  have e38 : v38.toInt = NONEI := e38
                  have j38 : jU D cA ro t38.heap tx T (blF (f 8) sg) := by rw [← show v37.toInt = f 8 by omega]; exact j38
                  have mf38_tx_0 := (c38.1 tx 0 0 0 0 fsX0 htx rfl (by decide) (by decide)).trans f0
                  have mf38_tx_1 := (c38.1 tx 0 1 0 0 fsX0 htx rfl (by decide) (by decide)).trans f1
                  have mf38_dt_4 := (c38.1 dt 1 4 1 0 fsX1 hdt rfl (by decide) (by decide)).trans fa4
                  have mf38_dt_5 := (c38.1 dt 1 5 1 0 fsX1 hdt rfl (by decide) (by decide)).trans fa8
                  have mf38_dt_0 := (c38.1 dt 1 0 1 0 fsX1 hdt rfl (by decide) (by decide)).trans fa10
                  have mf38_dt_7 := (c38.1 dt 1 7 1 0 fsX1 hdt rfl (by decide) (by decide)).trans fa21
                  have mf38_dt_9 := (c38.1 dt 1 9 1 0 fsX1 hdt rfl (by decide) (by decide)).trans fa30
                  have mf38_dt_8 := (c38.1 dt 1 8 1 0 fsX1 hdt rfl (by decide) (by decide)).trans fa37
                  refine W.eq (g2 := F0 m 220 ls35 [.long v38]) rfl ?_
                  have hfin : dqF f sg = (NONEI, blF (f 8) sg) := by first | (simp only [dqF, if_pos d3, if_neg d6, if_neg d17, if_neg d20, if_neg d29, if_neg d33, up_eq]; done) | (simp only [dqF, if_pos d3, if_neg d6, if_neg d17, if_neg d20, if_neg d29, if_neg d33, up_eq] <;> rfl) | rfl
                  exact W.lret hx hb hr (fun t ht hW => ⟨_, rfl, by rw [hfin]; (first | (show v38.toInt = _; omega) | (show v38.toInt = NONEI; unfold NONEI; omega)), by rw [ht]; exact hh38.l0, by rw [ht]; exact kp38, by rw [ht, hfin]; exact j38, by rw [ht]; exact fr38⟩) hh38.2.2.1 (eX1_settle (220, .lreturn, 1) (List.mem_of_getElem? (i := 113) rfl))
                · skip
                  refine lv_aload_n hx hb (eX1_settle (172, .aload_n 0, 1) (List.mem_of_getElem? (i := 89) rfl)) rfl (lv_at hl9 1 rfl) ?_
                  refine tz_get (r := 1) (k := 9) (t := (0, (-2147483648), 2147483647)) hx hb hh1 hdt rfl rfl (hcl1 40 9 (0, (-2147483648), 2147483647) (by decide) rfl).1 fa30 (eX1_settle (173, .getfield 40, 3) (List.mem_of_getElem? (i := 90) rfl)) ?_
                  refine lv_iload_n hx hb (eX1_settle (176, .iload_n 2, 1) (List.mem_of_getElem? (i := 91) rfl)) rfl (lv_at hl9 0 rfl) ?_
                  refine lv_aload_n hx hb (eX1_settle (177, .aload_n 0, 1) (List.mem_of_getElem? (i := 92) rfl)) rfl (lv_at hl9 1 rfl) ?_
                  refine tz_get (r := 1) (k := 7) (t := (0, (-2147483648), 2147483647)) hx hb hh1 hdt rfl rfl (hcl1 34 7 (0, (-2147483648), 2147483647) (by decide) rfl).1 fa21 (eX1_settle (178, .getfield 34, 3) (List.mem_of_getElem? (i := 93) rfl)) ?_
                  refine zu_S (vs := [.int v8, .int v21]) (rest := [.int v30]) hx hb hml hown hts0 zBM_B (hX2_monthLength l cA v8 v21) ⟨rfl, rfl⟩ ⟨by decide, by decide⟩ ⟨by decide, by decide⟩ (tb_2 115 rfl rfl) (tb_1 13 rfl rfl) (tb_5 46 rfl rfl) (tb_2 114 rfl rfl) (show yX2_monthLength.cls ≠ "java/lang/invoke/MethodHandle" ∧ yX2_monthLength.cls ≠ "java/lang/invoke/VarHandle" ∧ (parseMethodDescriptor yX2_monthLength.desc).map (fun d => d.parameters.length) = some 2 by decide +kernel) rfl (fun U hU hW => (hBQ.alike hW.alike).bm (D := D) (ro := ro) (by rw [hU]; exact hh1.l0)) hl9.1 (Nat.le_of_ble_eq_true rfl) (eX1_settle (181, .invokestatic 107, 3) (List.mem_of_getElem? (i := 94) rfl)) (fun w39 f39 => ?_)
                  obtain ⟨v39, rfl, e39⟩ := f39
                  have g39 := (show v39.toInt = mlI (tlF f) (f 7) by rw [e39, htl, show v21.toInt = f 7 by omega])
                  refine ff_icmp_gt hx hb (eX1_settle (184, .if_icmp .gt 7, 3) (List.mem_of_getElem? (i := 95) rfl)) (tgt := 191) rfl (fun c40 => ?_) (fun c40 => ?_)
                  · skip
                    have d41 : ¬ (1 ≤ f 9 ∧ f 9 ≤ mlI (tlF f) (f 7)) := by omega
                    refine ff_iconst hx hb (eX1_settle (191, .iconst 0, 1) (List.mem_of_getElem? (i := 98) rfl)) (by decide) (by decide) (fun v42 e42 => ?_)
                    refine lv_istore_n hx hb (eX1_settle (192, .istore_n 3, 1) (List.mem_of_getElem? (i := 99) rfl)) rfl hl9 (by decide) rfl (fun ls43 hl43 => ?_)
                    refine lv_iload_n hx hb (eX1_settle (193, .iload_n 3, 1) (List.mem_of_getElem? (i := 100) rfl)) rfl (lv_at hl43 0 rfl) ?_
                    refine ff_if_eq hx hb (eX1_settle (194, .ifCond .eq 18, 3) (List.mem_of_getElem? (i := 101) rfl)) (tgt := 212) rfl (fun c44 => ?_) (fun c44 => (by exfalso; omega))
                    refine lv_aload_n hx hb (eX1_settle (212, .aload_n 1, 1) (List.mem_of_getElem? (i := 109) rfl)) rfl (lv_at hl43 3 rfl) ?_
                    refine lv_aload_n hx hb (eX1_settle (213, .aload_n 0, 1) (List.mem_of_getElem? (i := 110) rfl)) rfl (lv_at hl43 2 rfl) ?_
                    obtain ⟨v45, fa45, e45⟩ := jd0 8 (by decide)
                    have e45 : v45.toInt = f 8 := e45
                    refine tz_get (r := 1) (k := 8) (t := (0, (-2147483648), 2147483647)) hx hb hh1 hdt rfl rfl (hcl1 37 8 (0, (-2147483648), 2147483647) (by decide) rfl).1 fa45 (eX1_settle (214, .getfield 37, 3) (List.mem_of_getElem? (i := 111) rfl)) ?_
                    refine tz_rowV (As := [.int v45]) (st := []) (b := tx) (C := RX0) (Ts := gT) hx hb hml hown h2 (fun _ h => h) (hX0_blameN l D cA ro sz H0 tx v45 T (sg) htx) ⟨rfl, rfl⟩ ⟨by decide, by decide⟩ ⟨by decide, by decide⟩ (tb_4 64 rfl rfl) (tb_1 5 rfl rfl) (tb_5 34 rfl rfl) (tb_4 62 rfl rfl) (tb_4 63 rfl rfl) (show yX0_blame.cls ≠ "java/lang/invoke/MethodHandle" ∧ yX0_blame.cls ≠ "java/lang/invoke/VarHandle" ∧ (parseMethodDescriptor yX0_blame.desc).map (fun d => d.parameters.length) = some 1 by decide +kernel) zs_blind (zs_ob hh1 htx (show RTg[0]? = some (0, 0, 0, fsX0) from rfl) (zCX0 hKn.1)) (fun U hU hW => ⟨rfl, by rw [hU]; exact hh1.l0, zKb s U hW.alike hKn, by rw [hU]; exact hJ⟩) hh1.2.2.1 hl43.1 (Nat.le_of_ble_eq_true rfl) (eX1_settle (217, .invokevirtual 90, 3) (List.mem_of_getElem? (i := 112) rfl)) (fun r46 s46 t46 lo46 g46 f46 l46 => ?_)
                    obtain ⟨v46, q46, e46, z46, c46, j46, fx46⟩ := f46
                    cases q46
                    rw [g46] at c46 fx46
                    have fr46 : ∀ p9 : Nat, p9 ∉ [tx] → t46.heap[p9]? = s.heap[p9]? := fun p9 h9 => (fx46 p9 (fun q => h9 (by rw [List.mem_singleton.mp q]; exact List.mem_cons_self))).trans (fr0 p9 h9)
                    have hh46 : zh_ok D cA RTg ro sz H0 t46.heap lo46 := ⟨z46.1, z46.2.1, l46, z46.2.2.2⟩
                    have kp46 := kp0.trans (c46.mono (ms' := uM) (by decide))
                    have e46 : v46.toInt = NONEI := e46
                    have j46 : jU D cA ro t46.heap tx T (blF (f 8) sg) := by rw [← show v45.toInt = f 8 by omega]; exact j46
                    have mf46_tx_0 := (c46.1 tx 0 0 0 0 fsX0 htx rfl (by decide) (by decide)).trans f0
                    have mf46_tx_1 := (c46.1 tx 0 1 0 0 fsX0 htx rfl (by decide) (by decide)).trans f1
                    have mf46_dt_4 := (c46.1 dt 1 4 1 0 fsX1 hdt rfl (by decide) (by decide)).trans fa4
                    have mf46_dt_5 := (c46.1 dt 1 5 1 0 fsX1 hdt rfl (by decide) (by decide)).trans fa8
                    have mf46_dt_0 := (c46.1 dt 1 0 1 0 fsX1 hdt rfl (by decide) (by decide)).trans fa10
                    have mf46_dt_7 := (c46.1 dt 1 7 1 0 fsX1 hdt rfl (by decide) (by decide)).trans fa21
                    have mf46_dt_9 := (c46.1 dt 1 9 1 0 fsX1 hdt rfl (by decide) (by decide)).trans fa30
                    have mf46_dt_8 := (c46.1 dt 1 8 1 0 fsX1 hdt rfl (by decide) (by decide)).trans fa45
                    refine W.eq (g2 := F0 m 220 ls43 [.long v46]) rfl ?_
                    have hfin : dqF f sg = (NONEI, blF (f 8) sg) := by first | (simp only [dqF, if_pos d3, if_neg d6, if_neg d17, if_neg d20, if_neg d29, if_neg d41, up_eq]; done) | (simp only [dqF, if_pos d3, if_neg d6, if_neg d17, if_neg d20, if_neg d29, if_neg d41, up_eq] <;> rfl) | rfl
                    exact W.lret hx hb hr (fun t ht hW => ⟨_, rfl, by rw [hfin]; (first | (show v46.toInt = _; omega) | (show v46.toInt = NONEI; unfold NONEI; omega)), by rw [ht]; exact hh46.l0, by rw [ht]; exact kp46, by rw [ht, hfin]; exact j46, by rw [ht]; exact fr46⟩) hh46.2.2.1 (eX1_settle (220, .lreturn, 1) (List.mem_of_getElem? (i := 113) rfl))
                  · skip
                    have d47 : 1 ≤ f 9 ∧ f 9 ≤ mlI (tlF f) (f 7) := by omega
                    refine ff_iconst hx hb (eX1_settle (187, .iconst 1, 1) (List.mem_of_getElem? (i := 96) rfl)) (by decide) (by decide) (fun v48 e48 => ?_)
                    refine lv_goto hx hb (eX1_settle (188, .goto 4, 3) (List.mem_of_getElem? (i := 97) rfl)) (tgt := 192) rfl ?_
                    refine lv_istore_n hx hb (eX1_settle (192, .istore_n 3, 1) (List.mem_of_getElem? (i := 99) rfl)) rfl hl9 (by decide) rfl (fun ls49 hl49 => ?_)
                    refine lv_iload_n hx hb (eX1_settle (193, .iload_n 3, 1) (List.mem_of_getElem? (i := 100) rfl)) rfl (lv_at hl49 0 rfl) ?_
                    refine ff_if_eq hx hb (eX1_settle (194, .ifCond .eq 18, 3) (List.mem_of_getElem? (i := 101) rfl)) (tgt := 212) rfl (fun c50 => (by exfalso; omega)) (fun c50 => ?_)
                    refine lv_iload_n hx hb (eX1_settle (197, .iload_n 2, 1) (List.mem_of_getElem? (i := 102) rfl)) rfl (lv_at hl49 1 rfl) ?_
                    refine lv_aload_n hx hb (eX1_settle (198, .aload_n 0, 1) (List.mem_of_getElem? (i := 103) rfl)) rfl (lv_at hl49 2 rfl) ?_
                    refine tz_get (r := 1) (k := 7) (t := (0, (-2147483648), 2147483647)) hx hb hh1 hdt rfl rfl (hcl1 34 7 (0, (-2147483648), 2147483647) (by decide) rfl).1 fa21 (eX1_settle (199, .getfield 34, 3) (List.mem_of_getElem? (i := 104) rfl)) ?_
                    refine lv_aload_n hx hb (eX1_settle (202, .aload_n 0, 1) (List.mem_of_getElem? (i := 105) rfl)) rfl (lv_at hl49 2 rfl) ?_
                    refine tz_get (r := 1) (k := 9) (t := (0, (-2147483648), 2147483647)) hx hb hh1 hdt rfl rfl (hcl1 40 9 (0, (-2147483648), 2147483647) (by decide) rfl).1 fa30 (eX1_settle (203, .getfield 40, 3) (List.mem_of_getElem? (i := 106) rfl)) ?_
                    refine zu_S (vs := [.int v8, .int v21, .int v30]) (rest := []) hx hb hml hown hts0 zBM_B (hX2_numberOf l cA v8 v21 v30 (by omega) (by omega) (by omega) (by omega) (by omega) (by omega)) ⟨rfl, rfl⟩ ⟨by decide, by decide⟩ ⟨by decide, by decide⟩ (tb_2 190 rfl rfl) (tb_1 13 rfl rfl) (tb_5 47 rfl rfl) (tb_2 189 rfl rfl) (show yX2_numberOf.cls ≠ "java/lang/invoke/MethodHandle" ∧ yX2_numberOf.cls ≠ "java/lang/invoke/VarHandle" ∧ (parseMethodDescriptor yX2_numberOf.desc).map (fun d => d.parameters.length) = some 3 by decide +kernel) rfl (fun U hU hW => (hBQ.alike hW.alike).bm (D := D) (ro := ro) (by rw [hU]; exact hh1.l0)) hl49.1 (Nat.le_of_ble_eq_true rfl) (eX1_settle (206, .invokestatic 110, 3) (List.mem_of_getElem? (i := 107) rfl)) (fun w51 f51 => ?_)
                    obtain ⟨v51, rfl, e51⟩ := f51
                    have g51 := (show v51.toInt = nuI (tlF f) (f 7) (f 9) by rw [e51, htl, show v21.toInt = f 7 by omega, show v30.toInt = f 9 by omega])
                    refine lv_goto hx hb (eX1_settle (209, .goto 11, 3) (List.mem_of_getElem? (i := 108) rfl)) (tgt := 220) rfl ?_
                    have hfin : dqF f sg = (nuI (tlF f) (f 7) (f 9), sg) := by first | (simp only [dqF, if_pos d3, if_neg d6, if_neg d17, if_neg d20, if_neg d29, if_pos d47, up_eq]; done) | (simp only [dqF, if_pos d3, if_neg d6, if_neg d17, if_neg d20, if_neg d29, if_pos d47, up_eq] <;> rfl) | rfl
                    exact W.lret hx hb hr (fun t ht hW => ⟨_, rfl, by rw [hfin]; (first | (show v51.toInt = _; omega) | (show v51.toInt = NONEI; unfold NONEI; omega)), by rw [ht]; exact hh1.l0, by rw [ht]; exact kp0, by rw [ht, hfin]; exact hJ, by rw [ht]; exact fr0⟩) hh1.2.2.1 (eX1_settle (220, .lreturn, 1) (List.mem_of_getElem? (i := 113) rfl))
              · skip
                have d52 : f 7 < 1 ∨ 12 < f 7 := by omega
                refine lv_aload_n hx hb (eX1_settle (155, .aload_n 1, 1) (List.mem_of_getElem? (i := 80) rfl)) rfl (lv_at hl9 2 rfl) ?_
                refine lv_aload_n hx hb (eX1_settle (156, .aload_n 0, 1) (List.mem_of_getElem? (i := 81) rfl)) rfl (lv_at hl9 1 rfl) ?_
                obtain ⟨v53, fa53, e53⟩ := jd0 6 (by decide)
                have e53 : v53.toInt = f 6 := e53
                refine tz_get (r := 1) (k := 6) (t := (0, (-2147483648), 2147483647)) hx hb hh1 hdt rfl rfl (hcl1 31 6 (0, (-2147483648), 2147483647) (by decide) rfl).1 fa53 (eX1_settle (157, .getfield 31, 3) (List.mem_of_getElem? (i := 82) rfl)) ?_
                refine tz_rowV (As := [.int v53]) (st := []) (b := tx) (C := RX0) (Ts := gT) hx hb hml hown h2 (fun _ h => h) (hX0_blameN l D cA ro sz H0 tx v53 T (sg) htx) ⟨rfl, rfl⟩ ⟨by decide, by decide⟩ ⟨by decide, by decide⟩ (tb_4 64 rfl rfl) (tb_1 5 rfl rfl) (tb_5 34 rfl rfl) (tb_4 62 rfl rfl) (tb_4 63 rfl rfl) (show yX0_blame.cls ≠ "java/lang/invoke/MethodHandle" ∧ yX0_blame.cls ≠ "java/lang/invoke/VarHandle" ∧ (parseMethodDescriptor yX0_blame.desc).map (fun d => d.parameters.length) = some 1 by decide +kernel) zs_blind (zs_ob hh1 htx (show RTg[0]? = some (0, 0, 0, fsX0) from rfl) (zCX0 hKn.1)) (fun U hU hW => ⟨rfl, by rw [hU]; exact hh1.l0, zKb s U hW.alike hKn, by rw [hU]; exact hJ⟩) hh1.2.2.1 hl9.1 (Nat.le_of_ble_eq_true rfl) (eX1_settle (160, .invokevirtual 90, 3) (List.mem_of_getElem? (i := 83) rfl)) (fun r54 s54 t54 lo54 g54 f54 l54 => ?_)
                obtain ⟨v54, q54, e54, z54, c54, j54, fx54⟩ := f54
                cases q54
                rw [g54] at c54 fx54
                have fr54 : ∀ p9 : Nat, p9 ∉ [tx] → t54.heap[p9]? = s.heap[p9]? := fun p9 h9 => (fx54 p9 (fun q => h9 (by rw [List.mem_singleton.mp q]; exact List.mem_cons_self))).trans (fr0 p9 h9)
                have hh54 : zh_ok D cA RTg ro sz H0 t54.heap lo54 := ⟨z54.1, z54.2.1, l54, z54.2.2.2⟩
                have kp54 := kp0.trans (c54.mono (ms' := uM) (by decide))
                have e54 : v54.toInt = NONEI := e54
                have j54 : jU D cA ro t54.heap tx T (blF (f 6) sg) := by rw [← show v53.toInt = f 6 by omega]; exact j54
                have mf54_tx_0 := (c54.1 tx 0 0 0 0 fsX0 htx rfl (by decide) (by decide)).trans f0
                have mf54_tx_1 := (c54.1 tx 0 1 0 0 fsX0 htx rfl (by decide) (by decide)).trans f1
                have mf54_dt_4 := (c54.1 dt 1 4 1 0 fsX1 hdt rfl (by decide) (by decide)).trans fa4
                have mf54_dt_5 := (c54.1 dt 1 5 1 0 fsX1 hdt rfl (by decide) (by decide)).trans fa8
                have mf54_dt_0 := (c54.1 dt 1 0 1 0 fsX1 hdt rfl (by decide) (by decide)).trans fa10
                have mf54_dt_7 := (c54.1 dt 1 7 1 0 fsX1 hdt rfl (by decide) (by decide)).trans fa21
                have mf54_dt_6 := (c54.1 dt 1 6 1 0 fsX1 hdt rfl (by decide) (by decide)).trans fa53
                refine W.eq (g2 := F0 m 163 ls9 [.long v54]) rfl ?_
                have hfin : dqF f sg = (NONEI, blF (f 6) sg) := by first | (simp only [dqF, if_pos d3, if_neg d6, if_neg d17, if_neg d20, if_pos d52, up_eq]; done) | (simp only [dqF, if_pos d3, if_neg d6, if_neg d17, if_neg d20, if_pos d52, up_eq] <;> rfl) | rfl
                exact W.lret hx hb hr (fun t ht hW => ⟨_, rfl, by rw [hfin]; (first | (show v54.toInt = _; omega) | (show v54.toInt = NONEI; unfold NONEI; omega)), by rw [ht]; exact hh54.l0, by rw [ht]; exact kp54, by rw [ht, hfin]; exact j54, by rw [ht]; exact fr54⟩) hh54.2.2.1 (eX1_settle (163, .lreturn, 1) (List.mem_of_getElem? (i := 84) rfl))
          · skip
            have d55 : f 0 = 2 := by omega
            refine lv_aload_n hx hb (eX1_settle (85, .aload_n 0, 1) (List.mem_of_getElem? (i := 43) rfl)) rfl (lv_at hl9 1 rfl) ?_
            obtain ⟨v56, fa56, e56⟩ := jd0 7 (by decide)
            have e56 : v56.toInt = f 7 := e56
            refine tz_get (r := 1) (k := 7) (t := (0, (-2147483648), 2147483647)) hx hb hh1 hdt rfl rfl (hcl1 34 7 (0, (-2147483648), 2147483647) (by decide) rfl).1 fa56 (eX1_settle (86, .getfield 34, 3) (List.mem_of_getElem? (i := 44) rfl)) ?_
            refine ff_iconst hx hb (eX1_settle (89, .iconst 1, 1) (List.mem_of_getElem? (i := 45) rfl)) (by decide) (by decide) (fun v57 e57 => ?_)
            refine ff_icmp_lt hx hb (eX1_settle (90, .if_icmp .lt 18, 3) (List.mem_of_getElem? (i := 46) rfl)) (tgt := 108) rfl (fun c58 => ?_) (fun c58 => ?_)
            · skip
              have d59 : ¬ (1 ≤ f 7 ∧ f 7 ≤ 365 + lpI (tlF f)) := by omega
              refine ff_iconst hx hb (eX1_settle (108, .iconst 0, 1) (List.mem_of_getElem? (i := 54) rfl)) (by decide) (by decide) (fun v60 e60 => ?_)
              refine lv_istore_n hx hb (eX1_settle (109, .istore_n 3, 1) (List.mem_of_getElem? (i := 55) rfl)) rfl hl9 (by decide) rfl (fun ls61 hl61 => ?_)
              refine lv_iload_n hx hb (eX1_settle (110, .iload_n 3, 1) (List.mem_of_getElem? (i := 56) rfl)) rfl (lv_at hl61 0 rfl) ?_
              refine ff_if_eq hx hb (eX1_settle (111, .ifCond .eq 18, 3) (List.mem_of_getElem? (i := 57) rfl)) (tgt := 129) rfl (fun c62 => ?_) (fun c62 => (by exfalso; omega))
              refine lv_aload_n hx hb (eX1_settle (129, .aload_n 1, 1) (List.mem_of_getElem? (i := 67) rfl)) rfl (lv_at hl61 3 rfl) ?_
              refine lv_aload_n hx hb (eX1_settle (130, .aload_n 0, 1) (List.mem_of_getElem? (i := 68) rfl)) rfl (lv_at hl61 2 rfl) ?_
              obtain ⟨v63, fa63, e63⟩ := jd0 6 (by decide)
              have e63 : v63.toInt = f 6 := e63
              refine tz_get (r := 1) (k := 6) (t := (0, (-2147483648), 2147483647)) hx hb hh1 hdt rfl rfl (hcl1 31 6 (0, (-2147483648), 2147483647) (by decide) rfl).1 fa63 (eX1_settle (131, .getfield 31, 3) (List.mem_of_getElem? (i := 69) rfl)) ?_
              refine tz_rowV (As := [.int v63]) (st := []) (b := tx) (C := RX0) (Ts := gT) hx hb hml hown h2 (fun _ h => h) (hX0_blameN l D cA ro sz H0 tx v63 T (sg) htx) ⟨rfl, rfl⟩ ⟨by decide, by decide⟩ ⟨by decide, by decide⟩ (tb_4 64 rfl rfl) (tb_1 5 rfl rfl) (tb_5 34 rfl rfl) (tb_4 62 rfl rfl) (tb_4 63 rfl rfl) (show yX0_blame.cls ≠ "java/lang/invoke/MethodHandle" ∧ yX0_blame.cls ≠ "java/lang/invoke/VarHandle" ∧ (parseMethodDescriptor yX0_blame.desc).map (fun d => d.parameters.length) = some 1 by decide +kernel) zs_blind (zs_ob hh1 htx (show RTg[0]? = some (0, 0, 0, fsX0) from rfl) (zCX0 hKn.1)) (fun U hU hW => ⟨rfl, by rw [hU]; exact hh1.l0, zKb s U hW.alike hKn, by rw [hU]; exact hJ⟩) hh1.2.2.1 hl61.1 (Nat.le_of_ble_eq_true rfl) (eX1_settle (134, .invokevirtual 90, 3) (List.mem_of_getElem? (i := 70) rfl)) (fun r64 s64 t64 lo64 g64 f64 l64 => ?_)
              obtain ⟨v64, q64, e64, z64, c64, j64, fx64⟩ := f64
              cases q64
              rw [g64] at c64 fx64
              have fr64 : ∀ p9 : Nat, p9 ∉ [tx] → t64.heap[p9]? = s.heap[p9]? := fun p9 h9 => (fx64 p9 (fun q => h9 (by rw [List.mem_singleton.mp q]; exact List.mem_cons_self))).trans (fr0 p9 h9)
              have hh64 : zh_ok D cA RTg ro sz H0 t64.heap lo64 := ⟨z64.1, z64.2.1, l64, z64.2.2.2⟩
              have kp64 := kp0.trans (c64.mono (ms' := uM) (by decide))
              have e64 : v64.toInt = NONEI := e64
              have j64 : jU D cA ro t64.heap tx T (blF (f 6) sg) := by rw [← show v63.toInt = f 6 by omega]; exact j64
              have mf64_tx_0 := (c64.1 tx 0 0 0 0 fsX0 htx rfl (by decide) (by decide)).trans f0
              have mf64_tx_1 := (c64.1 tx 0 1 0 0 fsX0 htx rfl (by decide) (by decide)).trans f1
              have mf64_dt_4 := (c64.1 dt 1 4 1 0 fsX1 hdt rfl (by decide) (by decide)).trans fa4
              have mf64_dt_5 := (c64.1 dt 1 5 1 0 fsX1 hdt rfl (by decide) (by decide)).trans fa8
              have mf64_dt_0 := (c64.1 dt 1 0 1 0 fsX1 hdt rfl (by decide) (by decide)).trans fa10
              have mf64_dt_7 := (c64.1 dt 1 7 1 0 fsX1 hdt rfl (by decide) (by decide)).trans fa56
              have mf64_dt_6 := (c64.1 dt 1 6 1 0 fsX1 hdt rfl (by decide) (by decide)).trans fa63
              refine W.eq (g2 := F0 m 137 ls61 [.long v64]) rfl ?_
              have hfin : dqF f sg = (NONEI, blF (f 6) sg) := by first | (simp only [dqF, if_pos d3, if_neg d6, if_neg d17, if_pos d55, if_neg d59, up_eq]; done) | (simp only [dqF, if_pos d3, if_neg d6, if_neg d17, if_pos d55, if_neg d59, up_eq] <;> rfl) | rfl
              exact W.lret hx hb hr (fun t ht hW => ⟨_, rfl, by rw [hfin]; (first | (show v64.toInt = _; omega) | (show v64.toInt = NONEI; unfold NONEI; omega)), by rw [ht]; exact hh64.l0, by rw [ht]; exact kp64, by rw [ht, hfin]; exact j64, by rw [ht]; exact fr64⟩) hh64.2.2.1 (eX1_settle (137, .lreturn, 1) (List.mem_of_getElem? (i := 71) rfl))
            · skip
              refine lv_aload_n hx hb (eX1_settle (93, .aload_n 0, 1) (List.mem_of_getElem? (i := 47) rfl)) rfl (lv_at hl9 1 rfl) ?_
              refine tz_get (r := 1) (k := 7) (t := (0, (-2147483648), 2147483647)) hx hb hh1 hdt rfl rfl (hcl1 34 7 (0, (-2147483648), 2147483647) (by decide) rfl).1 fa56 (eX1_settle (94, .getfield 34, 3) (List.mem_of_getElem? (i := 48) rfl)) ?_
              refine lv_iload_n hx hb (eX1_settle (97, .iload_n 2, 1) (List.mem_of_getElem? (i := 49) rfl)) rfl (lv_at hl9 0 rfl) ?_
              refine zu_S (vs := [.int v8]) (rest := [.int v56]) hx hb hml hown hts0 zu_BT (hX2_yearLength l v8) ⟨rfl, rfl⟩ ⟨by decide, by decide⟩ ⟨by decide, by decide⟩ (tb_5 44 rfl rfl) (tb_1 13 rfl rfl) (tb_5 42 rfl rfl) (tb_5 43 rfl rfl) (show yX2_yearLength.cls ≠ "java/lang/invoke/MethodHandle" ∧ yX2_yearLength.cls ≠ "java/lang/invoke/VarHandle" ∧ (parseMethodDescriptor yX2_yearLength.desc).map (fun d => d.parameters.length) = some 1 by decide +kernel) rfl (fun _ _ _ => trivial) hl9.1 (Nat.le_of_ble_eq_true rfl) (eX1_settle (98, .invokestatic 98, 3) (List.mem_of_getElem? (i := 50) rfl)) (fun w65 f65 => ?_)
              obtain ⟨v65, rfl, e65⟩ := f65
              have g65 := (show v65.toInt = 365 + lpI (tlF f) by rw [e65, htl])
              refine ff_icmp_gt hx hb (eX1_settle (101, .if_icmp .gt 7, 3) (List.mem_of_getElem? (i := 51) rfl)) (tgt := 108) rfl (fun c66 => ?_) (fun c66 => ?_)
              · skip
                have d67 : ¬ (1 ≤ f 7 ∧ f 7 ≤ 365 + lpI (tlF f)) := by omega
                refine ff_iconst hx hb (eX1_settle (108, .iconst 0, 1) (List.mem_of_getElem? (i := 54) rfl)) (by decide) (by decide) (fun v68 e68 => ?_)
                refine lv_istore_n hx hb (eX1_settle (109, .istore_n 3, 1) (List.mem_of_getElem? (i := 55) rfl)) rfl hl9 (by decide) rfl (fun ls69 hl69 => ?_)
                refine lv_iload_n hx hb (eX1_settle (110, .iload_n 3, 1) (List.mem_of_getElem? (i := 56) rfl)) rfl (lv_at hl69 0 rfl) ?_
                refine ff_if_eq hx hb (eX1_settle (111, .ifCond .eq 18, 3) (List.mem_of_getElem? (i := 57) rfl)) (tgt := 129) rfl (fun c70 => ?_) (fun c70 => (by exfalso; omega))
                refine lv_aload_n hx hb (eX1_settle (129, .aload_n 1, 1) (List.mem_of_getElem? (i := 67) rfl)) rfl (lv_at hl69 3 rfl) ?_
                refine lv_aload_n hx hb (eX1_settle (130, .aload_n 0, 1) (List.mem_of_getElem? (i := 68) rfl)) rfl (lv_at hl69 2 rfl) ?_
                obtain ⟨v71, fa71, e71⟩ := jd0 6 (by decide)
                have e71 : v71.toInt = f 6 := e71
                refine tz_get (r := 1) (k := 6) (t := (0, (-2147483648), 2147483647)) hx hb hh1 hdt rfl rfl (hcl1 31 6 (0, (-2147483648), 2147483647) (by decide) rfl).1 fa71 (eX1_settle (131, .getfield 31, 3) (List.mem_of_getElem? (i := 69) rfl)) ?_
                refine tz_rowV (As := [.int v71]) (st := []) (b := tx) (C := RX0) (Ts := gT) hx hb hml hown h2 (fun _ h => h) (hX0_blameN l D cA ro sz H0 tx v71 T (sg) htx) ⟨rfl, rfl⟩ ⟨by decide, by decide⟩ ⟨by decide, by decide⟩ (tb_4 64 rfl rfl) (tb_1 5 rfl rfl) (tb_5 34 rfl rfl) (tb_4 62 rfl rfl) (tb_4 63 rfl rfl) (show yX0_blame.cls ≠ "java/lang/invoke/MethodHandle" ∧ yX0_blame.cls ≠ "java/lang/invoke/VarHandle" ∧ (parseMethodDescriptor yX0_blame.desc).map (fun d => d.parameters.length) = some 1 by decide +kernel) zs_blind (zs_ob hh1 htx (show RTg[0]? = some (0, 0, 0, fsX0) from rfl) (zCX0 hKn.1)) (fun U hU hW => ⟨rfl, by rw [hU]; exact hh1.l0, zKb s U hW.alike hKn, by rw [hU]; exact hJ⟩) hh1.2.2.1 hl69.1 (Nat.le_of_ble_eq_true rfl) (eX1_settle (134, .invokevirtual 90, 3) (List.mem_of_getElem? (i := 70) rfl)) (fun r72 s72 t72 lo72 g72 f72 l72 => ?_)
                obtain ⟨v72, q72, e72, z72, c72, j72, fx72⟩ := f72
                cases q72
                rw [g72] at c72 fx72
                have fr72 : ∀ p9 : Nat, p9 ∉ [tx] → t72.heap[p9]? = s.heap[p9]? := fun p9 h9 => (fx72 p9 (fun q => h9 (by rw [List.mem_singleton.mp q]; exact List.mem_cons_self))).trans (fr0 p9 h9)
                have hh72 : zh_ok D cA RTg ro sz H0 t72.heap lo72 := ⟨z72.1, z72.2.1, l72, z72.2.2.2⟩
                have kp72 := kp0.trans (c72.mono (ms' := uM) (by decide))
                have e72 : v72.toInt = NONEI := e72
                have j72 : jU D cA ro t72.heap tx T (blF (f 6) sg) := by rw [← show v71.toInt = f 6 by omega]; exact j72
                have mf72_tx_0 := (c72.1 tx 0 0 0 0 fsX0 htx rfl (by decide) (by decide)).trans f0
                have mf72_tx_1 := (c72.1 tx 0 1 0 0 fsX0 htx rfl (by decide) (by decide)).trans f1
                have mf72_dt_4 := (c72.1 dt 1 4 1 0 fsX1 hdt rfl (by decide) (by decide)).trans fa4
                have mf72_dt_5 := (c72.1 dt 1 5 1 0 fsX1 hdt rfl (by decide) (by decide)).trans fa8
                have mf72_dt_0 := (c72.1 dt 1 0 1 0 fsX1 hdt rfl (by decide) (by decide)).trans fa10
                have mf72_dt_7 := (c72.1 dt 1 7 1 0 fsX1 hdt rfl (by decide) (by decide)).trans fa56
                have mf72_dt_6 := (c72.1 dt 1 6 1 0 fsX1 hdt rfl (by decide) (by decide)).trans fa71
                refine W.eq (g2 := F0 m 137 ls69 [.long v72]) rfl ?_
                have hfin : dqF f sg = (NONEI, blF (f 6) sg) := by first | (simp only [dqF, if_pos d3, if_neg d6, if_neg d17, if_pos d55, if_neg d67, up_eq]; done) | (simp only [dqF, if_pos d3, if_neg d6, if_neg d17, if_pos d55, if_neg d67, up_eq] <;> rfl) | rfl
                exact W.lret hx hb hr (fun t ht hW => ⟨_, rfl, by rw [hfin]; (first | (show v72.toInt = _; omega) | (show v72.toInt = NONEI; unfold NONEI; omega)), by rw [ht]; exact hh72.l0, by rw [ht]; exact kp72, by rw [ht, hfin]; exact j72, by rw [ht]; exact fr72⟩) hh72.2.2.1 (eX1_settle (137, .lreturn, 1) (List.mem_of_getElem? (i := 71) rfl))
              · skip
                have d73 : 1 ≤ f 7 ∧ f 7 ≤ 365 + lpI (tlF f) := by omega
                refine ff_iconst hx hb (eX1_settle (104, .iconst 1, 1) (List.mem_of_getElem? (i := 52) rfl)) (by decide) (by decide) (fun v74 e74 => ?_)
                refine lv_goto hx hb (eX1_settle (105, .goto 4, 3) (List.mem_of_getElem? (i := 53) rfl)) (tgt := 109) rfl ?_
                refine lv_istore_n hx hb (eX1_settle (109, .istore_n 3, 1) (List.mem_of_getElem? (i := 55) rfl)) rfl hl9 (by decide) rfl (fun ls75 hl75 => ?_)
                refine lv_iload_n hx hb (eX1_settle (110, .iload_n 3, 1) (List.mem_of_getElem? (i := 56) rfl)) rfl (lv_at hl75 0 rfl) ?_
                refine ff_if_eq hx hb (eX1_settle (111, .ifCond .eq 18, 3) (List.mem_of_getElem? (i := 57) rfl)) (tgt := 129) rfl (fun c76 => (by exfalso; omega)) (fun c76 => ?_)
                refine lv_iload_n hx hb (eX1_settle (114, .iload_n 2, 1) (List.mem_of_getElem? (i := 58) rfl)) rfl (lv_at hl75 1 rfl) ?_
                refine zu_S (vs := [.int v8]) (rest := []) hx hb hml hown hts0 zu_BT (hX2_yearStart l v8 (by omega) (by omega)) ⟨rfl, rfl⟩ ⟨by decide, by decide⟩ ⟨by decide, by decide⟩ (tb_2 193 rfl rfl) (tb_1 13 rfl rfl) (tb_5 45 rfl rfl) (tb_2 192 rfl rfl) (show yX2_yearStart.cls ≠ "java/lang/invoke/MethodHandle" ∧ yX2_yearStart.cls ≠ "java/lang/invoke/VarHandle" ∧ (parseMethodDescriptor yX2_yearStart.desc).map (fun d => d.parameters.length) = some 1 by decide +kernel) rfl (fun _ _ _ => trivial) hl75.1 (Nat.le_of_ble_eq_true rfl) (eX1_settle (115, .invokestatic 104, 3) (List.mem_of_getElem? (i := 59) rfl)) (fun w77 f77 => ?_)
                obtain ⟨v77, rfl, e77⟩ := f77
                have g77 := (show v77.toInt = ysI (tlF f) by rw [e77, htl])
                refine lv_aload_n hx hb (eX1_settle (118, .aload_n 0, 1) (List.mem_of_getElem? (i := 60) rfl)) rfl (lv_at hl75 2 rfl) ?_
                refine tz_get (r := 1) (k := 7) (t := (0, (-2147483648), 2147483647)) hx hb hh1 hdt rfl rfl (hcl1 34 7 (0, (-2147483648), 2147483647) (by decide) rfl).1 fa56 (eX1_settle (119, .getfield 34, 3) (List.mem_of_getElem? (i := 61) rfl)) ?_
                refine ff_i2l hx hb (eX1_settle (122, .i2l, 1) (List.mem_of_getElem? (i := 62) rfl)) (fun v78 e78 => ?_)
                refine ff_ladd hx hb (eX1_settle (123, .ladd, 1) (List.mem_of_getElem? (i := 63) rfl)) (by omega) (by omega) (fun v79 e79 => ?_)
                refine ff_lconst hx hb (eX1_settle (124, .lconst 1, 1) (List.mem_of_getElem? (i := 64) rfl)) rfl (fun v80 e80 => ?_)
                refine ff_lsub hx hb (eX1_settle (125, .lsub, 1) (List.mem_of_getElem? (i := 65) rfl)) (by omega) (by omega) (fun v81 e81 => ?_)
                refine lv_goto hx hb (eX1_settle (126, .goto 11, 3) (List.mem_of_getElem? (i := 66) rfl)) (tgt := 137) rfl ?_
                have hfin : dqF f sg = (ysI (tlF f) + f 7 - 1, sg) := by first | (simp only [dqF, if_pos d3, if_neg d6, if_neg d17, if_pos d55, if_pos d73, up_eq]; done) | (simp only [dqF, if_pos d3, if_neg d6, if_neg d17, if_pos d55, if_pos d73, up_eq] <;> rfl) | rfl
                exact W.lret hx hb hr (fun t ht hW => ⟨_, rfl, by rw [hfin]; (first | (show v81.toInt = _; omega) | (show v81.toInt = NONEI; unfold NONEI; omega)), by rw [ht]; exact hh1.l0, by rw [ht]; exact kp0, by rw [ht, hfin]; exact hJ, by rw [ht]; exact fr0⟩) hh1.2.2.1 (eX1_settle (137, .lreturn, 1) (List.mem_of_getElem? (i := 71) rfl))
        · skip
          have d82 : f 0 = 1 ∨ f 0 = 5 := by omega
          refine lv_aload_n hx hb (eX1_settle (70, .aload_n 0, 1) (List.mem_of_getElem? (i := 34) rfl)) rfl (lv_at hl9 1 rfl) ?_
          refine lv_aload_n hx hb (eX1_settle (71, .aload_n 1, 1) (List.mem_of_getElem? (i := 35) rfl)) rfl (lv_at hl9 2 rfl) ?_
          refine lv_iload_n hx hb (eX1_settle (72, .iload_n 2, 1) (List.mem_of_getElem? (i := 36) rfl)) rfl (lv_at hl9 0 rfl) ?_
          refine tz_rowV (As := [.ref tx, .int v8]) (st := []) (b := dt) (C := RX1) (Ts := gT) hx hb hml hown h2 (fun _ h => h) (hX1_settleWeek l D cA ro sz H0 dt tx v8 (tlF f) T sg f hdt htx htl (by omega) (by omega)) ⟨rfl, rfl⟩ ⟨by decide, by decide⟩ ⟨by decide, by decide⟩ (tb_5 38 rfl rfl) (tb_1 8 rfl rfl) (tb_5 35 rfl rfl) (tb_5 36 rfl rfl) (tb_5 37 rfl rfl) (show yX1_settleWeek.cls ≠ "java/lang/invoke/MethodHandle" ∧ yX1_settleWeek.cls ≠ "java/lang/invoke/VarHandle" ∧ (parseMethodDescriptor yX1_settleWeek.desc).map (fun d => d.parameters.length) = some 2 by decide +kernel) zs_blind (zs_ob hh1 hdt (show RTg[1]? = some (0, 1, 0, fsX1) from rfl) (zCX1 hKn.1)) (fun U hU hW => ⟨rfl, by rw [hU]; exact hh1.l0, zKb s U hW.alike hKn, by rw [hU]; exact ⟨hJ, jd0⟩⟩) hh1.2.2.1 hl9.1 (Nat.le_of_ble_eq_true rfl) (eX1_settle (73, .invokevirtual 94, 3) (List.mem_of_getElem? (i := 37) rfl)) (fun r83 s83 t83 lo83 g83 f83 l83 => ?_)
          obtain ⟨v83, q83, e83, z83, c83, j83, fx83⟩ := f83
          cases q83
          rw [g83] at c83 fx83
          have fr83 : ∀ p9 : Nat, p9 ∉ [tx] → t83.heap[p9]? = s.heap[p9]? := fun p9 h9 => (fx83 p9 (fun q => h9 (by rw [List.mem_singleton.mp q]; exact List.mem_cons_self))).trans (fr0 p9 h9)
          have hh83 : zh_ok D cA RTg ro sz H0 t83.heap lo83 := ⟨z83.1, z83.2.1, l83, z83.2.2.2⟩
          have kp83 := kp0.trans (c83.mono (ms' := uM) (by decide))
          refine W.eq (g2 := F0 m 76 ls9 [.long v83]) rfl ?_
          have hfin : dqF f sg = ((dwF (tlF f) f sg).1, (dwF (tlF f) f sg).2) := by first | (simp only [dqF, if_pos d3, if_neg d6, if_pos d82, up_eq]; done) | (simp only [dqF, if_pos d3, if_neg d6, if_pos d82, up_eq] <;> rfl) | rfl
          exact W.lret hx hb hr (fun t ht hW => ⟨_, rfl, by rw [hfin]; (first | (show v83.toInt = _; omega) | (show v83.toInt = NONEI; unfold NONEI; omega)), by rw [ht]; exact hh83.l0, by rw [ht]; exact kp83, by rw [ht, hfin]; exact j83, by rw [ht]; exact fr83⟩) hh83.2.2.1 (eX1_settle (76, .lreturn, 1) (List.mem_of_getElem? (i := 38) rfl))
    · skip
      refine lv_aload_n hx hb (eX1_settle (18, .aload_n 0, 1) (List.mem_of_getElem? (i := 8) rfl)) rfl (lv_at hl 0 rfl) ?_
      obtain ⟨v84, fa84, e84⟩ := jd0 5 (by decide)
      have e84 : v84.toInt = f 5 := e84
      refine tz_get (r := 1) (k := 5) (t := (0, (-2147483648), 2147483647)) hx hb hh1 hdt rfl rfl (hcl1 28 5 (0, (-2147483648), 2147483647) (by decide) rfl).1 fa84 (eX1_settle (19, .getfield 28, 3) (List.mem_of_getElem? (i := 9) rfl)) ?_
      refine ff_if_ne hx hb (eX1_settle (22, .ifCond .ne 12, 3) (List.mem_of_getElem? (i := 10) rfl)) (tgt := 34) rfl (fun c85 => ?_) (fun c85 => ?_)
      · skip
        have d86 : ¬ (f 4 = 1 ∧ f 5 = 0) := by omega
        refine lv_aload_n hx hb (eX1_settle (34, .aload_n 0, 1) (List.mem_of_getElem? (i := 16) rfl)) rfl (lv_at hl 0 rfl) ?_
        refine tz_get (r := 1) (k := 4) (t := (0, 0, 1)) hx hb hh1 hdt rfl rfl (hcl1 25 4 (0, 0, 1) (by decide) rfl).1 fa4 (eX1_settle (35, .getfield 25, 3) (List.mem_of_getElem? (i := 17) rfl)) ?_
        refine ff_if_eq hx hb (eX1_settle (38, .ifCond .eq 11, 3) (List.mem_of_getElem? (i := 18) rfl)) (tgt := 49) rfl (fun c87 => (by exfalso; omega)) (fun c87 => ?_)
        refine lv_aload_n hx hb (eX1_settle (41, .aload_n 0, 1) (List.mem_of_getElem? (i := 19) rfl)) rfl (lv_at hl 0 rfl) ?_
        refine tz_get (r := 1) (k := 5) (t := (0, (-2147483648), 2147483647)) hx hb hh1 hdt rfl rfl (hcl1 28 5 (0, (-2147483648), 2147483647) (by decide) rfl).1 fa84 (eX1_settle (42, .getfield 28, 3) (List.mem_of_getElem? (i := 20) rfl)) ?_
        refine ff_ineg hx hb (eX1_settle (45, .ineg, 1) (List.mem_of_getElem? (i := 21) rfl)) (by omega) (by omega) (fun v88 e88 => ?_)
        refine lv_goto hx hb (eX1_settle (46, .goto 7, 3) (List.mem_of_getElem? (i := 22) rfl)) (tgt := 53) rfl ?_
        refine lv_istore_n hx hb (eX1_settle (53, .istore_n 2, 1) (List.mem_of_getElem? (i := 25) rfl)) rfl hl (by decide) rfl (fun ls89 hl89 => ?_)
        have htl : v88.toInt = tlF f := by unfold tlF; rw [if_pos (by omega)]; omega
        have htb := tl_b9 hf4 (hyr (d3).1)
        have hyb := ysI_bd (y := tlF f) (by omega) (by omega)
        have hmlb := mlI_bd (tlF f) (f 7)
        have hlp := lpI_bd (tlF f)
        refine lv_aload_n hx hb (eX1_settle (54, .aload_n 0, 1) (List.mem_of_getElem? (i := 26) rfl)) rfl (lv_at hl89 1 rfl) ?_
        obtain ⟨v90, fa90, e90⟩ := jd0 0 (by decide)
        have e90 : v90.toInt = f 0 := e90
        refine tz_get (r := 1) (k := 0) (t := (0, (-2147483648), 2147483647)) hx hb hh1 hdt rfl rfl (hcl1 9 0 (0, (-2147483648), 2147483647) (by decide) rfl).1 fa90 (eX1_settle (55, .getfield 9, 3) (List.mem_of_getElem? (i := 27) rfl)) ?_
        refine ff_iconst hx hb (eX1_settle (58, .iconst 1, 1) (List.mem_of_getElem? (i := 28) rfl)) (by decide) (by decide) (fun v91 e91 => ?_)
        refine ff_icmp_eq hx hb (eX1_settle (59, .if_icmp .eq 11, 3) (List.mem_of_getElem? (i := 29) rfl)) (tgt := 70) rfl (fun c92 => ?_) (fun c92 => ?_)
        · skip
          have d93 : f 0 = 1 ∨ f 0 = 5 := by omega
          refine lv_aload_n hx hb (eX1_settle (70, .aload_n 0, 1) (List.mem_of_getElem? (i := 34) rfl)) rfl (lv_at hl89 1 rfl) ?_
          refine lv_aload_n hx hb (eX1_settle (71, .aload_n 1, 1) (List.mem_of_getElem? (i := 35) rfl)) rfl (lv_at hl89 2 rfl) ?_
          refine lv_iload_n hx hb (eX1_settle (72, .iload_n 2, 1) (List.mem_of_getElem? (i := 36) rfl)) rfl (lv_at hl89 0 rfl) ?_
          refine tz_rowV (As := [.ref tx, .int v88]) (st := []) (b := dt) (C := RX1) (Ts := gT) hx hb hml hown h2 (fun _ h => h) (hX1_settleWeek l D cA ro sz H0 dt tx v88 (tlF f) T sg f hdt htx htl (by omega) (by omega)) ⟨rfl, rfl⟩ ⟨by decide, by decide⟩ ⟨by decide, by decide⟩ (tb_5 38 rfl rfl) (tb_1 8 rfl rfl) (tb_5 35 rfl rfl) (tb_5 36 rfl rfl) (tb_5 37 rfl rfl) (show yX1_settleWeek.cls ≠ "java/lang/invoke/MethodHandle" ∧ yX1_settleWeek.cls ≠ "java/lang/invoke/VarHandle" ∧ (parseMethodDescriptor yX1_settleWeek.desc).map (fun d => d.parameters.length) = some 2 by decide +kernel) zs_blind (zs_ob hh1 hdt (show RTg[1]? = some (0, 1, 0, fsX1) from rfl) (zCX1 hKn.1)) (fun U hU hW => ⟨rfl, by rw [hU]; exact hh1.l0, zKb s U hW.alike hKn, by rw [hU]; exact ⟨hJ, jd0⟩⟩) hh1.2.2.1 hl89.1 (Nat.le_of_ble_eq_true rfl) (eX1_settle (73, .invokevirtual 94, 3) (List.mem_of_getElem? (i := 37) rfl)) (fun r94 s94 t94 lo94 g94 f94 l94 => ?_)
          obtain ⟨v94, q94, e94, z94, c94, j94, fx94⟩ := f94
          cases q94
          rw [g94] at c94 fx94
          have fr94 : ∀ p9 : Nat, p9 ∉ [tx] → t94.heap[p9]? = s.heap[p9]? := fun p9 h9 => (fx94 p9 (fun q => h9 (by rw [List.mem_singleton.mp q]; exact List.mem_cons_self))).trans (fr0 p9 h9)
          have hh94 : zh_ok D cA RTg ro sz H0 t94.heap lo94 := ⟨z94.1, z94.2.1, l94, z94.2.2.2⟩
          have kp94 := kp0.trans (c94.mono (ms' := uM) (by decide))
          refine W.eq (g2 := F0 m 76 ls89 [.long v94]) rfl ?_
          have hfin : dqF f sg = ((dwF (tlF f) f sg).1, (dwF (tlF f) f sg).2) := by first | (simp only [dqF, if_pos d3, if_neg d86, if_pos d93, up_eq]; done) | (simp only [dqF, if_pos d3, if_neg d86, if_pos d93, up_eq] <;> rfl) | rfl
          exact W.lret hx hb hr (fun t ht hW => ⟨_, rfl, by rw [hfin]; (first | (show v94.toInt = _; omega) | (show v94.toInt = NONEI; unfold NONEI; omega)), by rw [ht]; exact hh94.l0, by rw [ht]; exact kp94, by rw [ht, hfin]; exact j94, by rw [ht]; exact fr94⟩) hh94.2.2.1 (eX1_settle (76, .lreturn, 1) (List.mem_of_getElem? (i := 38) rfl))
        · skip
          refine lv_aload_n hx hb (eX1_settle (62, .aload_n 0, 1) (List.mem_of_getElem? (i := 30) rfl)) rfl (lv_at hl89 1 rfl) ?_
          refine tz_get (r := 1) (k := 0) (t := (0, (-2147483648), 2147483647)) hx hb hh1 hdt rfl rfl (hcl1 9 0 (0, (-2147483648), 2147483647) (by decide) rfl).1 fa90 (eX1_settle (63, .getfield 9, 3) (List.mem_of_getElem? (i := 31) rfl)) ?_
          refine ff_iconst hx hb (eX1_settle (66, .iconst 5, 1) (List.mem_of_getElem? (i := 32) rfl)) (by decide) (by decide) (fun v95 e95 => ?_)
          refine ff_icmp_ne hx hb (eX1_settle (67, .if_icmp .ne 10, 3) (List.mem_of_getElem? (i := 33) rfl)) (tgt := 77) rfl (fun c96 => ?_) (fun c96 => ?_)
          · skip
            have d97 : ¬ (f 0 = 1 ∨ f 0 = 5) := by omega
            refine lv_aload_n hx hb (eX1_settle (77, .aload_n 0, 1) (List.mem_of_getElem? (i := 39) rfl)) rfl (lv_at hl89 1 rfl) ?_
            refine tz_get (r := 1) (k := 0) (t := (0, (-2147483648), 2147483647)) hx hb hh1 hdt rfl rfl (hcl1 9 0 (0, (-2147483648), 2147483647) (by decide) rfl).1 fa90 (eX1_settle (78, .getfield 9, 3) (List.mem_of_getElem? (i := 40) rfl)) ?_
            refine ff_iconst hx hb (eX1_settle (81, .iconst 2, 1) (List.mem_of_getElem? (i := 41) rfl)) (by decide) (by decide) (fun v98 e98 => ?_)
            refine ff_icmp_ne hx hb (eX1_settle (82, .if_icmp .ne 56, 3) (List.mem_of_getElem? (i := 42) rfl)) (tgt := 138) rfl (fun c99 => ?_) (fun c99 => ?_)
            · skip
              have d100 : ¬ f 0 = 2 := by omega
              refine lv_aload_n hx hb (eX1_settle (138, .aload_n 0, 1) (List.mem_of_getElem? (i := 72) rfl)) rfl (lv_at hl89 1 rfl) ?_
              obtain ⟨v101, fa101, e101⟩ := jd0 7 (by decide)
              have e101 : v101.toInt = f 7 := e101
              refine tz_get (r := 1) (k := 7) (t := (0, (-2147483648), 2147483647)) hx hb hh1 hdt rfl rfl (hcl1 34 7 (0, (-2147483648), 2147483647) (by decide) rfl).1 fa101 (eX1_settle (139, .getfield 34, 3) (List.mem_of_getElem? (i := 73) rfl)) ?_
              refine ff_iconst hx hb (eX1_settle (142, .iconst 1, 1) (List.mem_of_getElem? (i := 74) rfl)) (by decide) (by decide) (fun v102 e102 => ?_)
              refine ff_icmp_lt hx hb (eX1_settle (143, .if_icmp .lt 12, 3) (List.mem_of_getElem? (i := 75) rfl)) (tgt := 155) rfl (fun c103 => ?_) (fun c103 => ?_)
              · skip
                have d104 : f 7 < 1 ∨ 12 < f 7 := by omega
                refine lv_aload_n hx hb (eX1_settle (155, .aload_n 1, 1) (List.mem_of_getElem? (i := 80) rfl)) rfl (lv_at hl89 2 rfl) ?_
                refine lv_aload_n hx hb (eX1_settle (156, .aload_n 0, 1) (List.mem_of_getElem? (i := 81) rfl)) rfl (lv_at hl89 1 rfl) ?_
                obtain ⟨v105, fa105, e105⟩ := jd0 6 (by decide)
                have e105 : v105.toInt = f 6 := e105
                refine tz_get (r := 1) (k := 6) (t := (0, (-2147483648), 2147483647)) hx hb hh1 hdt rfl rfl (hcl1 31 6 (0, (-2147483648), 2147483647) (by decide) rfl).1 fa105 (eX1_settle (157, .getfield 31, 3) (List.mem_of_getElem? (i := 82) rfl)) ?_
                refine tz_rowV (As := [.int v105]) (st := []) (b := tx) (C := RX0) (Ts := gT) hx hb hml hown h2 (fun _ h => h) (hX0_blameN l D cA ro sz H0 tx v105 T (sg) htx) ⟨rfl, rfl⟩ ⟨by decide, by decide⟩ ⟨by decide, by decide⟩ (tb_4 64 rfl rfl) (tb_1 5 rfl rfl) (tb_5 34 rfl rfl) (tb_4 62 rfl rfl) (tb_4 63 rfl rfl) (show yX0_blame.cls ≠ "java/lang/invoke/MethodHandle" ∧ yX0_blame.cls ≠ "java/lang/invoke/VarHandle" ∧ (parseMethodDescriptor yX0_blame.desc).map (fun d => d.parameters.length) = some 1 by decide +kernel) zs_blind (zs_ob hh1 htx (show RTg[0]? = some (0, 0, 0, fsX0) from rfl) (zCX0 hKn.1)) (fun U hU hW => ⟨rfl, by rw [hU]; exact hh1.l0, zKb s U hW.alike hKn, by rw [hU]; exact hJ⟩) hh1.2.2.1 hl89.1 (Nat.le_of_ble_eq_true rfl) (eX1_settle (160, .invokevirtual 90, 3) (List.mem_of_getElem? (i := 83) rfl)) (fun r106 s106 t106 lo106 g106 f106 l106 => ?_)
                obtain ⟨v106, q106, e106, z106, c106, j106, fx106⟩ := f106
                cases q106
                rw [g106] at c106 fx106
                have fr106 : ∀ p9 : Nat, p9 ∉ [tx] → t106.heap[p9]? = s.heap[p9]? := fun p9 h9 => (fx106 p9 (fun q => h9 (by rw [List.mem_singleton.mp q]; exact List.mem_cons_self))).trans (fr0 p9 h9)
                have hh106 : zh_ok D cA RTg ro sz H0 t106.heap lo106 := ⟨z106.1, z106.2.1, l106, z106.2.2.2⟩
                have kp106 := kp0.trans (c106.mono (ms' := uM) (by decide))
                have e106 : v106.toInt = NONEI := e106
                have j106 : jU D cA ro t106.heap tx T (blF (f 6) sg) := by rw [← show v105.toInt = f 6 by omega]; exact j106
                have mf106_tx_0 := (c106.1 tx 0 0 0 0 fsX0 htx rfl (by decide) (by decide)).trans f0
                have mf106_tx_1 := (c106.1 tx 0 1 0 0 fsX0 htx rfl (by decide) (by decide)).trans f1
                have mf106_dt_4 := (c106.1 dt 1 4 1 0 fsX1 hdt rfl (by decide) (by decide)).trans fa4
                have mf106_dt_5 := (c106.1 dt 1 5 1 0 fsX1 hdt rfl (by decide) (by decide)).trans fa84
                have mf106_dt_0 := (c106.1 dt 1 0 1 0 fsX1 hdt rfl (by decide) (by decide)).trans fa90
                have mf106_dt_7 := (c106.1 dt 1 7 1 0 fsX1 hdt rfl (by decide) (by decide)).trans fa101
                have mf106_dt_6 := (c106.1 dt 1 6 1 0 fsX1 hdt rfl (by decide) (by decide)).trans fa105
                refine W.eq (g2 := F0 m 163 ls89 [.long v106]) rfl ?_
                have hfin : dqF f sg = (NONEI, blF (f 6) sg) := by first | (simp only [dqF, if_pos d3, if_neg d86, if_neg d97, if_neg d100, if_pos d104, up_eq]; done) | (simp only [dqF, if_pos d3, if_neg d86, if_neg d97, if_neg d100, if_pos d104, up_eq] <;> rfl) | rfl
                exact W.lret hx hb hr (fun t ht hW => ⟨_, rfl, by rw [hfin]; (first | (show v106.toInt = _; omega) | (show v106.toInt = NONEI; unfold NONEI; omega)), by rw [ht]; exact hh106.l0, by rw [ht]; exact kp106, by rw [ht, hfin]; exact j106, by rw [ht]; exact fr106⟩) hh106.2.2.1 (eX1_settle (163, .lreturn, 1) (List.mem_of_getElem? (i := 84) rfl))
              · skip
                refine lv_aload_n hx hb (eX1_settle (146, .aload_n 0, 1) (List.mem_of_getElem? (i := 76) rfl)) rfl (lv_at hl89 1 rfl) ?_
                refine tz_get (r := 1) (k := 7) (t := (0, (-2147483648), 2147483647)) hx hb hh1 hdt rfl rfl (hcl1 34 7 (0, (-2147483648), 2147483647) (by decide) rfl).1 fa101 (eX1_settle (147, .getfield 34, 3) (List.mem_of_getElem? (i := 77) rfl)) ?_
                refine ff_bipush hx hb (eX1_settle (150, .bipush 12, 2) (List.mem_of_getElem? (i := 78) rfl)) (by decide) (by decide) (fun v107 e107 => ?_)
                refine ff_icmp_le hx hb (eX1_settle (152, .if_icmp .le 12, 3) (List.mem_of_getElem? (i := 79) rfl)) (tgt := 164) rfl (fun c108 => ?_) (fun c108 => ?_)
                · skip
                  have d109 : ¬ (f 7 < 1 ∨ 12 < f 7) := by omega
                  refine lv_aload_n hx hb (eX1_settle (164, .aload_n 0, 1) (List.mem_of_getElem? (i := 85) rfl)) rfl (lv_at hl89 1 rfl) ?_
                  obtain ⟨v110, fa110, e110⟩ := jd0 9 (by decide)
                  have e110 : v110.toInt = f 9 := e110
                  refine tz_get (r := 1) (k := 9) (t := (0, (-2147483648), 2147483647)) hx hb hh1 hdt rfl rfl (hcl1 40 9 (0, (-2147483648), 2147483647) (by decide) rfl).1 fa110 (eX1_settle (165, .getfield 40, 3) (List.mem_of_getElem? (i := 86) rfl)) ?_
                  refine ff_iconst hx hb (eX1_settle (168, .iconst 1, 1) (List.mem_of_getElem? (i := 87) rfl)) (by decide) (by decide) (fun v111 e111 => ?_)
                  refine ff_icmp_lt hx hb (eX1_settle (169, .if_icmp .lt 22, 3) (List.mem_of_getElem? (i := 88) rfl)) (tgt := 191) rfl (fun c112 => ?_) (fun c112 => ?_)
                  · skip
                    have d113 : ¬ (1 ≤ f 9 ∧ f 9 ≤ mlI (tlF f) (f 7)) := by omega
                    refine ff_iconst hx hb (eX1_settle (191, .iconst 0, 1) (List.mem_of_getElem? (i := 98) rfl)) (by decide) (by decide) (fun v114 e114 => ?_)
                    refine lv_istore_n hx hb (eX1_settle (192, .istore_n 3, 1) (List.mem_of_getElem? (i := 99) rfl)) rfl hl89 (by decide) rfl (fun ls115 hl115 => ?_)
                    refine lv_iload_n hx hb (eX1_settle (193, .iload_n 3, 1) (List.mem_of_getElem? (i := 100) rfl)) rfl (lv_at hl115 0 rfl) ?_
                    refine ff_if_eq hx hb (eX1_settle (194, .ifCond .eq 18, 3) (List.mem_of_getElem? (i := 101) rfl)) (tgt := 212) rfl (fun c116 => ?_) (fun c116 => (by exfalso; omega))
                    refine lv_aload_n hx hb (eX1_settle (212, .aload_n 1, 1) (List.mem_of_getElem? (i := 109) rfl)) rfl (lv_at hl115 3 rfl) ?_
                    refine lv_aload_n hx hb (eX1_settle (213, .aload_n 0, 1) (List.mem_of_getElem? (i := 110) rfl)) rfl (lv_at hl115 2 rfl) ?_
                    obtain ⟨v117, fa117, e117⟩ := jd0 8 (by decide)
                    have e117 : v117.toInt = f 8 := e117
                    refine tz_get (r := 1) (k := 8) (t := (0, (-2147483648), 2147483647)) hx hb hh1 hdt rfl rfl (hcl1 37 8 (0, (-2147483648), 2147483647) (by decide) rfl).1 fa117 (eX1_settle (214, .getfield 37, 3) (List.mem_of_getElem? (i := 111) rfl)) ?_
                    refine tz_rowV (As := [.int v117]) (st := []) (b := tx) (C := RX0) (Ts := gT) hx hb hml hown h2 (fun _ h => h) (hX0_blameN l D cA ro sz H0 tx v117 T (sg) htx) ⟨rfl, rfl⟩ ⟨by decide, by decide⟩ ⟨by decide, by decide⟩ (tb_4 64 rfl rfl) (tb_1 5 rfl rfl) (tb_5 34 rfl rfl) (tb_4 62 rfl rfl) (tb_4 63 rfl rfl) (show yX0_blame.cls ≠ "java/lang/invoke/MethodHandle" ∧ yX0_blame.cls ≠ "java/lang/invoke/VarHandle" ∧ (parseMethodDescriptor yX0_blame.desc).map (fun d => d.parameters.length) = some 1 by decide +kernel) zs_blind (zs_ob hh1 htx (show RTg[0]? = some (0, 0, 0, fsX0) from rfl) (zCX0 hKn.1)) (fun U hU hW => ⟨rfl, by rw [hU]; exact hh1.l0, zKb s U hW.alike hKn, by rw [hU]; exact hJ⟩) hh1.2.2.1 hl115.1 (Nat.le_of_ble_eq_true rfl) (eX1_settle (217, .invokevirtual 90, 3) (List.mem_of_getElem? (i := 112) rfl)) (fun r118 s118 t118 lo118 g118 f118 l118 => ?_)
                    obtain ⟨v118, q118, e118, z118, c118, j118, fx118⟩ := f118
                    cases q118
                    rw [g118] at c118 fx118
                    have fr118 : ∀ p9 : Nat, p9 ∉ [tx] → t118.heap[p9]? = s.heap[p9]? := fun p9 h9 => (fx118 p9 (fun q => h9 (by rw [List.mem_singleton.mp q]; exact List.mem_cons_self))).trans (fr0 p9 h9)
                    have hh118 : zh_ok D cA RTg ro sz H0 t118.heap lo118 := ⟨z118.1, z118.2.1, l118, z118.2.2.2⟩
                    have kp118 := kp0.trans (c118.mono (ms' := uM) (by decide))
                    have e118 : v118.toInt = NONEI := e118
                    have j118 : jU D cA ro t118.heap tx T (blF (f 8) sg) := by rw [← show v117.toInt = f 8 by omega]; exact j118
                    have mf118_tx_0 := (c118.1 tx 0 0 0 0 fsX0 htx rfl (by decide) (by decide)).trans f0
                    have mf118_tx_1 := (c118.1 tx 0 1 0 0 fsX0 htx rfl (by decide) (by decide)).trans f1
                    have mf118_dt_4 := (c118.1 dt 1 4 1 0 fsX1 hdt rfl (by decide) (by decide)).trans fa4
                    have mf118_dt_5 := (c118.1 dt 1 5 1 0 fsX1 hdt rfl (by decide) (by decide)).trans fa84
                    have mf118_dt_0 := (c118.1 dt 1 0 1 0 fsX1 hdt rfl (by decide) (by decide)).trans fa90
                    have mf118_dt_7 := (c118.1 dt 1 7 1 0 fsX1 hdt rfl (by decide) (by decide)).trans fa101
                    have mf118_dt_9 := (c118.1 dt 1 9 1 0 fsX1 hdt rfl (by decide) (by decide)).trans fa110
                    have mf118_dt_8 := (c118.1 dt 1 8 1 0 fsX1 hdt rfl (by decide) (by decide)).trans fa117
                    refine W.eq (g2 := F0 m 220 ls115 [.long v118]) rfl ?_
                    have hfin : dqF f sg = (NONEI, blF (f 8) sg) := by first | (simp only [dqF, if_pos d3, if_neg d86, if_neg d97, if_neg d100, if_neg d109, if_neg d113, up_eq]; done) | (simp only [dqF, if_pos d3, if_neg d86, if_neg d97, if_neg d100, if_neg d109, if_neg d113, up_eq] <;> rfl) | rfl
                    exact W.lret hx hb hr (fun t ht hW => ⟨_, rfl, by rw [hfin]; (first | (show v118.toInt = _; omega) | (show v118.toInt = NONEI; unfold NONEI; omega)), by rw [ht]; exact hh118.l0, by rw [ht]; exact kp118, by rw [ht, hfin]; exact j118, by rw [ht]; exact fr118⟩) hh118.2.2.1 (eX1_settle (220, .lreturn, 1) (List.mem_of_getElem? (i := 113) rfl))
                  · skip
                    refine lv_aload_n hx hb (eX1_settle (172, .aload_n 0, 1) (List.mem_of_getElem? (i := 89) rfl)) rfl (lv_at hl89 1 rfl) ?_
                    refine tz_get (r := 1) (k := 9) (t := (0, (-2147483648), 2147483647)) hx hb hh1 hdt rfl rfl (hcl1 40 9 (0, (-2147483648), 2147483647) (by decide) rfl).1 fa110 (eX1_settle (173, .getfield 40, 3) (List.mem_of_getElem? (i := 90) rfl)) ?_
                    refine lv_iload_n hx hb (eX1_settle (176, .iload_n 2, 1) (List.mem_of_getElem? (i := 91) rfl)) rfl (lv_at hl89 0 rfl) ?_
                    refine lv_aload_n hx hb (eX1_settle (177, .aload_n 0, 1) (List.mem_of_getElem? (i := 92) rfl)) rfl (lv_at hl89 1 rfl) ?_
                    refine tz_get (r := 1) (k := 7) (t := (0, (-2147483648), 2147483647)) hx hb hh1 hdt rfl rfl (hcl1 34 7 (0, (-2147483648), 2147483647) (by decide) rfl).1 fa101 (eX1_settle (178, .getfield 34, 3) (List.mem_of_getElem? (i := 93) rfl)) ?_
                    refine zu_S (vs := [.int v88, .int v101]) (rest := [.int v110]) hx hb hml hown hts0 zBM_B (hX2_monthLength l cA v88 v101) ⟨rfl, rfl⟩ ⟨by decide, by decide⟩ ⟨by decide, by decide⟩ (tb_2 115 rfl rfl) (tb_1 13 rfl rfl) (tb_5 46 rfl rfl) (tb_2 114 rfl rfl) (show yX2_monthLength.cls ≠ "java/lang/invoke/MethodHandle" ∧ yX2_monthLength.cls ≠ "java/lang/invoke/VarHandle" ∧ (parseMethodDescriptor yX2_monthLength.desc).map (fun d => d.parameters.length) = some 2 by decide +kernel) rfl (fun U hU hW => (hBQ.alike hW.alike).bm (D := D) (ro := ro) (by rw [hU]; exact hh1.l0)) hl89.1 (Nat.le_of_ble_eq_true rfl) (eX1_settle (181, .invokestatic 107, 3) (List.mem_of_getElem? (i := 94) rfl)) (fun w119 f119 => ?_)
                    obtain ⟨v119, rfl, e119⟩ := f119
                    have g119 := (show v119.toInt = mlI (tlF f) (f 7) by rw [e119, htl, show v101.toInt = f 7 by omega])
                    refine ff_icmp_gt hx hb (eX1_settle (184, .if_icmp .gt 7, 3) (List.mem_of_getElem? (i := 95) rfl)) (tgt := 191) rfl (fun c120 => ?_) (fun c120 => ?_)
                    · skip
                      have d121 : ¬ (1 ≤ f 9 ∧ f 9 ≤ mlI (tlF f) (f 7)) := by omega
                      refine ff_iconst hx hb (eX1_settle (191, .iconst 0, 1) (List.mem_of_getElem? (i := 98) rfl)) (by decide) (by decide) (fun v122 e122 => ?_)
                      refine lv_istore_n hx hb (eX1_settle (192, .istore_n 3, 1) (List.mem_of_getElem? (i := 99) rfl)) rfl hl89 (by decide) rfl (fun ls123 hl123 => ?_)
                      refine lv_iload_n hx hb (eX1_settle (193, .iload_n 3, 1) (List.mem_of_getElem? (i := 100) rfl)) rfl (lv_at hl123 0 rfl) ?_
                      refine ff_if_eq hx hb (eX1_settle (194, .ifCond .eq 18, 3) (List.mem_of_getElem? (i := 101) rfl)) (tgt := 212) rfl (fun c124 => ?_) (fun c124 => (by exfalso; omega))
                      refine lv_aload_n hx hb (eX1_settle (212, .aload_n 1, 1) (List.mem_of_getElem? (i := 109) rfl)) rfl (lv_at hl123 3 rfl) ?_
                      refine lv_aload_n hx hb (eX1_settle (213, .aload_n 0, 1) (List.mem_of_getElem? (i := 110) rfl)) rfl (lv_at hl123 2 rfl) ?_
                      obtain ⟨v125, fa125, e125⟩ := jd0 8 (by decide)
                      have e125 : v125.toInt = f 8 := e125
                      refine tz_get (r := 1) (k := 8) (t := (0, (-2147483648), 2147483647)) hx hb hh1 hdt rfl rfl (hcl1 37 8 (0, (-2147483648), 2147483647) (by decide) rfl).1 fa125 (eX1_settle (214, .getfield 37, 3) (List.mem_of_getElem? (i := 111) rfl)) ?_
                      refine tz_rowV (As := [.int v125]) (st := []) (b := tx) (C := RX0) (Ts := gT) hx hb hml hown h2 (fun _ h => h) (hX0_blameN l D cA ro sz H0 tx v125 T (sg) htx) ⟨rfl, rfl⟩ ⟨by decide, by decide⟩ ⟨by decide, by decide⟩ (tb_4 64 rfl rfl) (tb_1 5 rfl rfl) (tb_5 34 rfl rfl) (tb_4 62 rfl rfl) (tb_4 63 rfl rfl) (show yX0_blame.cls ≠ "java/lang/invoke/MethodHandle" ∧ yX0_blame.cls ≠ "java/lang/invoke/VarHandle" ∧ (parseMethodDescriptor yX0_blame.desc).map (fun d => d.parameters.length) = some 1 by decide +kernel) zs_blind (zs_ob hh1 htx (show RTg[0]? = some (0, 0, 0, fsX0) from rfl) (zCX0 hKn.1)) (fun U hU hW => ⟨rfl, by rw [hU]; exact hh1.l0, zKb s U hW.alike hKn, by rw [hU]; exact hJ⟩) hh1.2.2.1 hl123.1 (Nat.le_of_ble_eq_true rfl) (eX1_settle (217, .invokevirtual 90, 3) (List.mem_of_getElem? (i := 112) rfl)) (fun r126 s126 t126 lo126 g126 f126 l126 => ?_)
                      obtain ⟨v126, q126, e126, z126, c126, j126, fx126⟩ := f126
                      cases q126
                      rw [g126] at c126 fx126
                      have fr126 : ∀ p9 : Nat, p9 ∉ [tx] → t126.heap[p9]? = s.heap[p9]? := fun p9 h9 => (fx126 p9 (fun q => h9 (by rw [List.mem_singleton.mp q]; exact List.mem_cons_self))).trans (fr0 p9 h9)
                      have hh126 : zh_ok D cA RTg ro sz H0 t126.heap lo126 := ⟨z126.1, z126.2.1, l126, z126.2.2.2⟩
                      have kp126 := kp0.trans (c126.mono (ms' := uM) (by decide))
                      have e126 : v126.toInt = NONEI := e126
                      have j126 : jU D cA ro t126.heap tx T (blF (f 8) sg) := by rw [← show v125.toInt = f 8 by omega]; exact j126
                      have mf126_tx_0 := (c126.1 tx 0 0 0 0 fsX0 htx rfl (by decide) (by decide)).trans f0
                      have mf126_tx_1 := (c126.1 tx 0 1 0 0 fsX0 htx rfl (by decide) (by decide)).trans f1
                      have mf126_dt_4 := (c126.1 dt 1 4 1 0 fsX1 hdt rfl (by decide) (by decide)).trans fa4
                      have mf126_dt_5 := (c126.1 dt 1 5 1 0 fsX1 hdt rfl (by decide) (by decide)).trans fa84
                      have mf126_dt_0 := (c126.1 dt 1 0 1 0 fsX1 hdt rfl (by decide) (by decide)).trans fa90
                      have mf126_dt_7 := (c126.1 dt 1 7 1 0 fsX1 hdt rfl (by decide) (by decide)).trans fa101
                      have mf126_dt_9 := (c126.1 dt 1 9 1 0 fsX1 hdt rfl (by decide) (by decide)).trans fa110
                      have mf126_dt_8 := (c126.1 dt 1 8 1 0 fsX1 hdt rfl (by decide) (by decide)).trans fa125
                      refine W.eq (g2 := F0 m 220 ls123 [.long v126]) rfl ?_
                      have hfin : dqF f sg = (NONEI, blF (f 8) sg) := by first | (simp only [dqF, if_pos d3, if_neg d86, if_neg d97, if_neg d100, if_neg d109, if_neg d121, up_eq]; done) | (simp only [dqF, if_pos d3, if_neg d86, if_neg d97, if_neg d100, if_neg d109, if_neg d121, up_eq] <;> rfl) | rfl
                      exact W.lret hx hb hr (fun t ht hW => ⟨_, rfl, by rw [hfin]; (first | (show v126.toInt = _; omega) | (show v126.toInt = NONEI; unfold NONEI; omega)), by rw [ht]; exact hh126.l0, by rw [ht]; exact kp126, by rw [ht, hfin]; exact j126, by rw [ht]; exact fr126⟩) hh126.2.2.1 (eX1_settle (220, .lreturn, 1) (List.mem_of_getElem? (i := 113) rfl))
                    · skip
                      have d127 : 1 ≤ f 9 ∧ f 9 ≤ mlI (tlF f) (f 7) := by omega
                      refine ff_iconst hx hb (eX1_settle (187, .iconst 1, 1) (List.mem_of_getElem? (i := 96) rfl)) (by decide) (by decide) (fun v128 e128 => ?_)
                      refine lv_goto hx hb (eX1_settle (188, .goto 4, 3) (List.mem_of_getElem? (i := 97) rfl)) (tgt := 192) rfl ?_
                      refine lv_istore_n hx hb (eX1_settle (192, .istore_n 3, 1) (List.mem_of_getElem? (i := 99) rfl)) rfl hl89 (by decide) rfl (fun ls129 hl129 => ?_)
                      refine lv_iload_n hx hb (eX1_settle (193, .iload_n 3, 1) (List.mem_of_getElem? (i := 100) rfl)) rfl (lv_at hl129 0 rfl) ?_
                      refine ff_if_eq hx hb (eX1_settle (194, .ifCond .eq 18, 3) (List.mem_of_getElem? (i := 101) rfl)) (tgt := 212) rfl (fun c130 => (by exfalso; omega)) (fun c130 => ?_)
                      refine lv_iload_n hx hb (eX1_settle (197, .iload_n 2, 1) (List.mem_of_getElem? (i := 102) rfl)) rfl (lv_at hl129 1 rfl) ?_
                      refine lv_aload_n hx hb (eX1_settle (198, .aload_n 0, 1) (List.mem_of_getElem? (i := 103) rfl)) rfl (lv_at hl129 2 rfl) ?_
                      refine tz_get (r := 1) (k := 7) (t := (0, (-2147483648), 2147483647)) hx hb hh1 hdt rfl rfl (hcl1 34 7 (0, (-2147483648), 2147483647) (by decide) rfl).1 fa101 (eX1_settle (199, .getfield 34, 3) (List.mem_of_getElem? (i := 104) rfl)) ?_
                      refine lv_aload_n hx hb (eX1_settle (202, .aload_n 0, 1) (List.mem_of_getElem? (i := 105) rfl)) rfl (lv_at hl129 2 rfl) ?_
                      refine tz_get (r := 1) (k := 9) (t := (0, (-2147483648), 2147483647)) hx hb hh1 hdt rfl rfl (hcl1 40 9 (0, (-2147483648), 2147483647) (by decide) rfl).1 fa110 (eX1_settle (203, .getfield 40, 3) (List.mem_of_getElem? (i := 106) rfl)) ?_
                      refine zu_S (vs := [.int v88, .int v101, .int v110]) (rest := []) hx hb hml hown hts0 zBM_B (hX2_numberOf l cA v88 v101 v110 (by omega) (by omega) (by omega) (by omega) (by omega) (by omega)) ⟨rfl, rfl⟩ ⟨by decide, by decide⟩ ⟨by decide, by decide⟩ (tb_2 190 rfl rfl) (tb_1 13 rfl rfl) (tb_5 47 rfl rfl) (tb_2 189 rfl rfl) (show yX2_numberOf.cls ≠ "java/lang/invoke/MethodHandle" ∧ yX2_numberOf.cls ≠ "java/lang/invoke/VarHandle" ∧ (parseMethodDescriptor yX2_numberOf.desc).map (fun d => d.parameters.length) = some 3 by decide +kernel) rfl (fun U hU hW => (hBQ.alike hW.alike).bm (D := D) (ro := ro) (by rw [hU]; exact hh1.l0)) hl129.1 (Nat.le_of_ble_eq_true rfl) (eX1_settle (206, .invokestatic 110, 3) (List.mem_of_getElem? (i := 107) rfl)) (fun w131 f131 => ?_)
                      obtain ⟨v131, rfl, e131⟩ := f131
                      have g131 := (show v131.toInt = nuI (tlF f) (f 7) (f 9) by rw [e131, htl, show v101.toInt = f 7 by omega, show v110.toInt = f 9 by omega])
                      refine lv_goto hx hb (eX1_settle (209, .goto 11, 3) (List.mem_of_getElem? (i := 108) rfl)) (tgt := 220) rfl ?_
                      have hfin : dqF f sg = (nuI (tlF f) (f 7) (f 9), sg) := by first | (simp only [dqF, if_pos d3, if_neg d86, if_neg d97, if_neg d100, if_neg d109, if_pos d127, up_eq]; done) | (simp only [dqF, if_pos d3, if_neg d86, if_neg d97, if_neg d100, if_neg d109, if_pos d127, up_eq] <;> rfl) | rfl
                      exact W.lret hx hb hr (fun t ht hW => ⟨_, rfl, by rw [hfin]; (first | (show v131.toInt = _; omega) | (show v131.toInt = NONEI; unfold NONEI; omega)), by rw [ht]; exact hh1.l0, by rw [ht]; exact kp0, by rw [ht, hfin]; exact hJ, by rw [ht]; exact fr0⟩) hh1.2.2.1 (eX1_settle (220, .lreturn, 1) (List.mem_of_getElem? (i := 113) rfl))
                · skip
                  have d132 : f 7 < 1 ∨ 12 < f 7 := by omega
                  refine lv_aload_n hx hb (eX1_settle (155, .aload_n 1, 1) (List.mem_of_getElem? (i := 80) rfl)) rfl (lv_at hl89 2 rfl) ?_
                  refine lv_aload_n hx hb (eX1_settle (156, .aload_n 0, 1) (List.mem_of_getElem? (i := 81) rfl)) rfl (lv_at hl89 1 rfl) ?_
                  obtain ⟨v133, fa133, e133⟩ := jd0 6 (by decide)
                  have e133 : v133.toInt = f 6 := e133
                  refine tz_get (r := 1) (k := 6) (t := (0, (-2147483648), 2147483647)) hx hb hh1 hdt rfl rfl (hcl1 31 6 (0, (-2147483648), 2147483647) (by decide) rfl).1 fa133 (eX1_settle (157, .getfield 31, 3) (List.mem_of_getElem? (i := 82) rfl)) ?_
                  refine tz_rowV (As := [.int v133]) (st := []) (b := tx) (C := RX0) (Ts := gT) hx hb hml hown h2 (fun _ h => h) (hX0_blameN l D cA ro sz H0 tx v133 T (sg) htx) ⟨rfl, rfl⟩ ⟨by decide, by decide⟩ ⟨by decide, by decide⟩ (tb_4 64 rfl rfl) (tb_1 5 rfl rfl) (tb_5 34 rfl rfl) (tb_4 62 rfl rfl) (tb_4 63 rfl rfl) (show yX0_blame.cls ≠ "java/lang/invoke/MethodHandle" ∧ yX0_blame.cls ≠ "java/lang/invoke/VarHandle" ∧ (parseMethodDescriptor yX0_blame.desc).map (fun d => d.parameters.length) = some 1 by decide +kernel) zs_blind (zs_ob hh1 htx (show RTg[0]? = some (0, 0, 0, fsX0) from rfl) (zCX0 hKn.1)) (fun U hU hW => ⟨rfl, by rw [hU]; exact hh1.l0, zKb s U hW.alike hKn, by rw [hU]; exact hJ⟩) hh1.2.2.1 hl89.1 (Nat.le_of_ble_eq_true rfl) (eX1_settle (160, .invokevirtual 90, 3) (List.mem_of_getElem? (i := 83) rfl)) (fun r134 s134 t134 lo134 g134 f134 l134 => ?_)
                  obtain ⟨v134, q134, e134, z134, c134, j134, fx134⟩ := f134
                  cases q134
                  rw [g134] at c134 fx134
                  have fr134 : ∀ p9 : Nat, p9 ∉ [tx] → t134.heap[p9]? = s.heap[p9]? := fun p9 h9 => (fx134 p9 (fun q => h9 (by rw [List.mem_singleton.mp q]; exact List.mem_cons_self))).trans (fr0 p9 h9)
                  have hh134 : zh_ok D cA RTg ro sz H0 t134.heap lo134 := ⟨z134.1, z134.2.1, l134, z134.2.2.2⟩
                  have kp134 := kp0.trans (c134.mono (ms' := uM) (by decide))
                  have e134 : v134.toInt = NONEI := e134
                  have j134 : jU D cA ro t134.heap tx T (blF (f 6) sg) := by rw [← show v133.toInt = f 6 by omega]; exact j134
                  have mf134_tx_0 := (c134.1 tx 0 0 0 0 fsX0 htx rfl (by decide) (by decide)).trans f0
                  have mf134_tx_1 := (c134.1 tx 0 1 0 0 fsX0 htx rfl (by decide) (by decide)).trans f1
                  have mf134_dt_4 := (c134.1 dt 1 4 1 0 fsX1 hdt rfl (by decide) (by decide)).trans fa4
                  have mf134_dt_5 := (c134.1 dt 1 5 1 0 fsX1 hdt rfl (by decide) (by decide)).trans fa84
                  have mf134_dt_0 := (c134.1 dt 1 0 1 0 fsX1 hdt rfl (by decide) (by decide)).trans fa90
                  have mf134_dt_7 := (c134.1 dt 1 7 1 0 fsX1 hdt rfl (by decide) (by decide)).trans fa101
                  have mf134_dt_6 := (c134.1 dt 1 6 1 0 fsX1 hdt rfl (by decide) (by decide)).trans fa133
                  refine W.eq (g2 := F0 m 163 ls89 [.long v134]) rfl ?_
                  have hfin : dqF f sg = (NONEI, blF (f 6) sg) := by first | (simp only [dqF, if_pos d3, if_neg d86, if_neg d97, if_neg d100, if_pos d132, up_eq]; done) | (simp only [dqF, if_pos d3, if_neg d86, if_neg d97, if_neg d100, if_pos d132, up_eq] <;> rfl) | rfl
                  exact W.lret hx hb hr (fun t ht hW => ⟨_, rfl, by rw [hfin]; (first | (show v134.toInt = _; omega) | (show v134.toInt = NONEI; unfold NONEI; omega)), by rw [ht]; exact hh134.l0, by rw [ht]; exact kp134, by rw [ht, hfin]; exact j134, by rw [ht]; exact fr134⟩) hh134.2.2.1 (eX1_settle (163, .lreturn, 1) (List.mem_of_getElem? (i := 84) rfl))
            · skip
              have d135 : f 0 = 2 := by omega
              refine lv_aload_n hx hb (eX1_settle (85, .aload_n 0, 1) (List.mem_of_getElem? (i := 43) rfl)) rfl (lv_at hl89 1 rfl) ?_
              obtain ⟨v136, fa136, e136⟩ := jd0 7 (by decide)
              have e136 : v136.toInt = f 7 := e136
              refine tz_get (r := 1) (k := 7) (t := (0, (-2147483648), 2147483647)) hx hb hh1 hdt rfl rfl (hcl1 34 7 (0, (-2147483648), 2147483647) (by decide) rfl).1 fa136 (eX1_settle (86, .getfield 34, 3) (List.mem_of_getElem? (i := 44) rfl)) ?_
              refine ff_iconst hx hb (eX1_settle (89, .iconst 1, 1) (List.mem_of_getElem? (i := 45) rfl)) (by decide) (by decide) (fun v137 e137 => ?_)
              refine ff_icmp_lt hx hb (eX1_settle (90, .if_icmp .lt 18, 3) (List.mem_of_getElem? (i := 46) rfl)) (tgt := 108) rfl (fun c138 => ?_) (fun c138 => ?_)
              · skip
                have d139 : ¬ (1 ≤ f 7 ∧ f 7 ≤ 365 + lpI (tlF f)) := by omega
                refine ff_iconst hx hb (eX1_settle (108, .iconst 0, 1) (List.mem_of_getElem? (i := 54) rfl)) (by decide) (by decide) (fun v140 e140 => ?_)
                refine lv_istore_n hx hb (eX1_settle (109, .istore_n 3, 1) (List.mem_of_getElem? (i := 55) rfl)) rfl hl89 (by decide) rfl (fun ls141 hl141 => ?_)
                refine lv_iload_n hx hb (eX1_settle (110, .iload_n 3, 1) (List.mem_of_getElem? (i := 56) rfl)) rfl (lv_at hl141 0 rfl) ?_
                refine ff_if_eq hx hb (eX1_settle (111, .ifCond .eq 18, 3) (List.mem_of_getElem? (i := 57) rfl)) (tgt := 129) rfl (fun c142 => ?_) (fun c142 => (by exfalso; omega))
                refine lv_aload_n hx hb (eX1_settle (129, .aload_n 1, 1) (List.mem_of_getElem? (i := 67) rfl)) rfl (lv_at hl141 3 rfl) ?_
                refine lv_aload_n hx hb (eX1_settle (130, .aload_n 0, 1) (List.mem_of_getElem? (i := 68) rfl)) rfl (lv_at hl141 2 rfl) ?_
                obtain ⟨v143, fa143, e143⟩ := jd0 6 (by decide)
                have e143 : v143.toInt = f 6 := e143
                refine tz_get (r := 1) (k := 6) (t := (0, (-2147483648), 2147483647)) hx hb hh1 hdt rfl rfl (hcl1 31 6 (0, (-2147483648), 2147483647) (by decide) rfl).1 fa143 (eX1_settle (131, .getfield 31, 3) (List.mem_of_getElem? (i := 69) rfl)) ?_
                refine tz_rowV (As := [.int v143]) (st := []) (b := tx) (C := RX0) (Ts := gT) hx hb hml hown h2 (fun _ h => h) (hX0_blameN l D cA ro sz H0 tx v143 T (sg) htx) ⟨rfl, rfl⟩ ⟨by decide, by decide⟩ ⟨by decide, by decide⟩ (tb_4 64 rfl rfl) (tb_1 5 rfl rfl) (tb_5 34 rfl rfl) (tb_4 62 rfl rfl) (tb_4 63 rfl rfl) (show yX0_blame.cls ≠ "java/lang/invoke/MethodHandle" ∧ yX0_blame.cls ≠ "java/lang/invoke/VarHandle" ∧ (parseMethodDescriptor yX0_blame.desc).map (fun d => d.parameters.length) = some 1 by decide +kernel) zs_blind (zs_ob hh1 htx (show RTg[0]? = some (0, 0, 0, fsX0) from rfl) (zCX0 hKn.1)) (fun U hU hW => ⟨rfl, by rw [hU]; exact hh1.l0, zKb s U hW.alike hKn, by rw [hU]; exact hJ⟩) hh1.2.2.1 hl141.1 (Nat.le_of_ble_eq_true rfl) (eX1_settle (134, .invokevirtual 90, 3) (List.mem_of_getElem? (i := 70) rfl)) (fun r144 s144 t144 lo144 g144 f144 l144 => ?_)
                obtain ⟨v144, q144, e144, z144, c144, j144, fx144⟩ := f144
                cases q144
                rw [g144] at c144 fx144
                have fr144 : ∀ p9 : Nat, p9 ∉ [tx] → t144.heap[p9]? = s.heap[p9]? := fun p9 h9 => (fx144 p9 (fun q => h9 (by rw [List.mem_singleton.mp q]; exact List.mem_cons_self))).trans (fr0 p9 h9)
                have hh144 : zh_ok D cA RTg ro sz H0 t144.heap lo144 := ⟨z144.1, z144.2.1, l144, z144.2.2.2⟩
                have kp144 := kp0.trans (c144.mono (ms' := uM) (by decide))
                have e144 : v144.toInt = NONEI := e144
                have j144 : jU D cA ro t144.heap tx T (blF (f 6) sg) := by rw [← show v143.toInt = f 6 by omega]; exact j144
                have mf144_tx_0 := (c144.1 tx 0 0 0 0 fsX0 htx rfl (by decide) (by decide)).trans f0
                have mf144_tx_1 := (c144.1 tx 0 1 0 0 fsX0 htx rfl (by decide) (by decide)).trans f1
                have mf144_dt_4 := (c144.1 dt 1 4 1 0 fsX1 hdt rfl (by decide) (by decide)).trans fa4
                have mf144_dt_5 := (c144.1 dt 1 5 1 0 fsX1 hdt rfl (by decide) (by decide)).trans fa84
                have mf144_dt_0 := (c144.1 dt 1 0 1 0 fsX1 hdt rfl (by decide) (by decide)).trans fa90
                have mf144_dt_7 := (c144.1 dt 1 7 1 0 fsX1 hdt rfl (by decide) (by decide)).trans fa136
                have mf144_dt_6 := (c144.1 dt 1 6 1 0 fsX1 hdt rfl (by decide) (by decide)).trans fa143
                refine W.eq (g2 := F0 m 137 ls141 [.long v144]) rfl ?_
                have hfin : dqF f sg = (NONEI, blF (f 6) sg) := by first | (simp only [dqF, if_pos d3, if_neg d86, if_neg d97, if_pos d135, if_neg d139, up_eq]; done) | (simp only [dqF, if_pos d3, if_neg d86, if_neg d97, if_pos d135, if_neg d139, up_eq] <;> rfl) | rfl
                exact W.lret hx hb hr (fun t ht hW => ⟨_, rfl, by rw [hfin]; (first | (show v144.toInt = _; omega) | (show v144.toInt = NONEI; unfold NONEI; omega)), by rw [ht]; exact hh144.l0, by rw [ht]; exact kp144, by rw [ht, hfin]; exact j144, by rw [ht]; exact fr144⟩) hh144.2.2.1 (eX1_settle (137, .lreturn, 1) (List.mem_of_getElem? (i := 71) rfl))
              · skip
                refine lv_aload_n hx hb (eX1_settle (93, .aload_n 0, 1) (List.mem_of_getElem? (i := 47) rfl)) rfl (lv_at hl89 1 rfl) ?_
                refine tz_get (r := 1) (k := 7) (t := (0, (-2147483648), 2147483647)) hx hb hh1 hdt rfl rfl (hcl1 34 7 (0, (-2147483648), 2147483647) (by decide) rfl).1 fa136 (eX1_settle (94, .getfield 34, 3) (List.mem_of_getElem? (i := 48) rfl)) ?_
                refine lv_iload_n hx hb (eX1_settle (97, .iload_n 2, 1) (List.mem_of_getElem? (i := 49) rfl)) rfl (lv_at hl89 0 rfl) ?_
                refine zu_S (vs := [.int v88]) (rest := [.int v136]) hx hb hml hown hts0 zu_BT (hX2_yearLength l v88) ⟨rfl, rfl⟩ ⟨by decide, by decide⟩ ⟨by decide, by decide⟩ (tb_5 44 rfl rfl) (tb_1 13 rfl rfl) (tb_5 42 rfl rfl) (tb_5 43 rfl rfl) (show yX2_yearLength.cls ≠ "java/lang/invoke/MethodHandle" ∧ yX2_yearLength.cls ≠ "java/lang/invoke/VarHandle" ∧ (parseMethodDescriptor yX2_yearLength.desc).map (fun d => d.parameters.length) = some 1 by decide +kernel) rfl (fun _ _ _ => trivial) hl89.1 (Nat.le_of_ble_eq_true rfl) (eX1_settle (98, .invokestatic 98, 3) (List.mem_of_getElem? (i := 50) rfl)) (fun w145 f145 => ?_)
                obtain ⟨v145, rfl, e145⟩ := f145
                have g145 := (show v145.toInt = 365 + lpI (tlF f) by rw [e145, htl])
                refine ff_icmp_gt hx hb (eX1_settle (101, .if_icmp .gt 7, 3) (List.mem_of_getElem? (i := 51) rfl)) (tgt := 108) rfl (fun c146 => ?_) (fun c146 => ?_)
                · skip
                  have d147 : ¬ (1 ≤ f 7 ∧ f 7 ≤ 365 + lpI (tlF f)) := by omega
                  refine ff_iconst hx hb (eX1_settle (108, .iconst 0, 1) (List.mem_of_getElem? (i := 54) rfl)) (by decide) (by decide) (fun v148 e148 => ?_)
                  refine lv_istore_n hx hb (eX1_settle (109, .istore_n 3, 1) (List.mem_of_getElem? (i := 55) rfl)) rfl hl89 (by decide) rfl (fun ls149 hl149 => ?_)
                  refine lv_iload_n hx hb (eX1_settle (110, .iload_n 3, 1) (List.mem_of_getElem? (i := 56) rfl)) rfl (lv_at hl149 0 rfl) ?_
                  refine ff_if_eq hx hb (eX1_settle (111, .ifCond .eq 18, 3) (List.mem_of_getElem? (i := 57) rfl)) (tgt := 129) rfl (fun c150 => ?_) (fun c150 => (by exfalso; omega))
                  refine lv_aload_n hx hb (eX1_settle (129, .aload_n 1, 1) (List.mem_of_getElem? (i := 67) rfl)) rfl (lv_at hl149 3 rfl) ?_
                  refine lv_aload_n hx hb (eX1_settle (130, .aload_n 0, 1) (List.mem_of_getElem? (i := 68) rfl)) rfl (lv_at hl149 2 rfl) ?_
                  obtain ⟨v151, fa151, e151⟩ := jd0 6 (by decide)
                  have e151 : v151.toInt = f 6 := e151
                  refine tz_get (r := 1) (k := 6) (t := (0, (-2147483648), 2147483647)) hx hb hh1 hdt rfl rfl (hcl1 31 6 (0, (-2147483648), 2147483647) (by decide) rfl).1 fa151 (eX1_settle (131, .getfield 31, 3) (List.mem_of_getElem? (i := 69) rfl)) ?_
                  refine tz_rowV (As := [.int v151]) (st := []) (b := tx) (C := RX0) (Ts := gT) hx hb hml hown h2 (fun _ h => h) (hX0_blameN l D cA ro sz H0 tx v151 T (sg) htx) ⟨rfl, rfl⟩ ⟨by decide, by decide⟩ ⟨by decide, by decide⟩ (tb_4 64 rfl rfl) (tb_1 5 rfl rfl) (tb_5 34 rfl rfl) (tb_4 62 rfl rfl) (tb_4 63 rfl rfl) (show yX0_blame.cls ≠ "java/lang/invoke/MethodHandle" ∧ yX0_blame.cls ≠ "java/lang/invoke/VarHandle" ∧ (parseMethodDescriptor yX0_blame.desc).map (fun d => d.parameters.length) = some 1 by decide +kernel) zs_blind (zs_ob hh1 htx (show RTg[0]? = some (0, 0, 0, fsX0) from rfl) (zCX0 hKn.1)) (fun U hU hW => ⟨rfl, by rw [hU]; exact hh1.l0, zKb s U hW.alike hKn, by rw [hU]; exact hJ⟩) hh1.2.2.1 hl149.1 (Nat.le_of_ble_eq_true rfl) (eX1_settle (134, .invokevirtual 90, 3) (List.mem_of_getElem? (i := 70) rfl)) (fun r152 s152 t152 lo152 g152 f152 l152 => ?_)
                  obtain ⟨v152, q152, e152, z152, c152, j152, fx152⟩ := f152
                  cases q152
                  rw [g152] at c152 fx152
                  have fr152 : ∀ p9 : Nat, p9 ∉ [tx] → t152.heap[p9]? = s.heap[p9]? := fun p9 h9 => (fx152 p9 (fun q => h9 (by rw [List.mem_singleton.mp q]; exact List.mem_cons_self))).trans (fr0 p9 h9)
                  have hh152 : zh_ok D cA RTg ro sz H0 t152.heap lo152 := ⟨z152.1, z152.2.1, l152, z152.2.2.2⟩
                  have kp152 := kp0.trans (c152.mono (ms' := uM) (by decide))
                  have e152 : v152.toInt = NONEI := e152
                  have j152 : jU D cA ro t152.heap tx T (blF (f 6) sg) := by rw [← show v151.toInt = f 6 by omega]; exact j152
                  have mf152_tx_0 := (c152.1 tx 0 0 0 0 fsX0 htx rfl (by decide) (by decide)).trans f0
                  have mf152_tx_1 := (c152.1 tx 0 1 0 0 fsX0 htx rfl (by decide) (by decide)).trans f1
                  have mf152_dt_4 := (c152.1 dt 1 4 1 0 fsX1 hdt rfl (by decide) (by decide)).trans fa4
                  have mf152_dt_5 := (c152.1 dt 1 5 1 0 fsX1 hdt rfl (by decide) (by decide)).trans fa84
                  have mf152_dt_0 := (c152.1 dt 1 0 1 0 fsX1 hdt rfl (by decide) (by decide)).trans fa90
                  have mf152_dt_7 := (c152.1 dt 1 7 1 0 fsX1 hdt rfl (by decide) (by decide)).trans fa136
                  have mf152_dt_6 := (c152.1 dt 1 6 1 0 fsX1 hdt rfl (by decide) (by decide)).trans fa151
                  refine W.eq (g2 := F0 m 137 ls149 [.long v152]) rfl ?_
                  have hfin : dqF f sg = (NONEI, blF (f 6) sg) := by first | (simp only [dqF, if_pos d3, if_neg d86, if_neg d97, if_pos d135, if_neg d147, up_eq]; done) | (simp only [dqF, if_pos d3, if_neg d86, if_neg d97, if_pos d135, if_neg d147, up_eq] <;> rfl) | rfl
                  exact W.lret hx hb hr (fun t ht hW => ⟨_, rfl, by rw [hfin]; (first | (show v152.toInt = _; omega) | (show v152.toInt = NONEI; unfold NONEI; omega)), by rw [ht]; exact hh152.l0, by rw [ht]; exact kp152, by rw [ht, hfin]; exact j152, by rw [ht]; exact fr152⟩) hh152.2.2.1 (eX1_settle (137, .lreturn, 1) (List.mem_of_getElem? (i := 71) rfl))
                · skip
                  have d153 : 1 ≤ f 7 ∧ f 7 ≤ 365 + lpI (tlF f) := by omega
                  refine ff_iconst hx hb (eX1_settle (104, .iconst 1, 1) (List.mem_of_getElem? (i := 52) rfl)) (by decide) (by decide) (fun v154 e154 => ?_)
                  refine lv_goto hx hb (eX1_settle (105, .goto 4, 3) (List.mem_of_getElem? (i := 53) rfl)) (tgt := 109) rfl ?_
                  refine lv_istore_n hx hb (eX1_settle (109, .istore_n 3, 1) (List.mem_of_getElem? (i := 55) rfl)) rfl hl89 (by decide) rfl (fun ls155 hl155 => ?_)
                  refine lv_iload_n hx hb (eX1_settle (110, .iload_n 3, 1) (List.mem_of_getElem? (i := 56) rfl)) rfl (lv_at hl155 0 rfl) ?_
                  refine ff_if_eq hx hb (eX1_settle (111, .ifCond .eq 18, 3) (List.mem_of_getElem? (i := 57) rfl)) (tgt := 129) rfl (fun c156 => (by exfalso; omega)) (fun c156 => ?_)
                  refine lv_iload_n hx hb (eX1_settle (114, .iload_n 2, 1) (List.mem_of_getElem? (i := 58) rfl)) rfl (lv_at hl155 1 rfl) ?_
                  refine zu_S (vs := [.int v88]) (rest := []) hx hb hml hown hts0 zu_BT (hX2_yearStart l v88 (by omega) (by omega)) ⟨rfl, rfl⟩ ⟨by decide, by decide⟩ ⟨by decide, by decide⟩ (tb_2 193 rfl rfl) (tb_1 13 rfl rfl) (tb_5 45 rfl rfl) (tb_2 192 rfl rfl) (show yX2_yearStart.cls ≠ "java/lang/invoke/MethodHandle" ∧ yX2_yearStart.cls ≠ "java/lang/invoke/VarHandle" ∧ (parseMethodDescriptor yX2_yearStart.desc).map (fun d => d.parameters.length) = some 1 by decide +kernel) rfl (fun _ _ _ => trivial) hl155.1 (Nat.le_of_ble_eq_true rfl) (eX1_settle (115, .invokestatic 104, 3) (List.mem_of_getElem? (i := 59) rfl)) (fun w157 f157 => ?_)
                  obtain ⟨v157, rfl, e157⟩ := f157
                  have g157 := (show v157.toInt = ysI (tlF f) by rw [e157, htl])
                  refine lv_aload_n hx hb (eX1_settle (118, .aload_n 0, 1) (List.mem_of_getElem? (i := 60) rfl)) rfl (lv_at hl155 2 rfl) ?_
                  refine tz_get (r := 1) (k := 7) (t := (0, (-2147483648), 2147483647)) hx hb hh1 hdt rfl rfl (hcl1 34 7 (0, (-2147483648), 2147483647) (by decide) rfl).1 fa136 (eX1_settle (119, .getfield 34, 3) (List.mem_of_getElem? (i := 61) rfl)) ?_
                  refine ff_i2l hx hb (eX1_settle (122, .i2l, 1) (List.mem_of_getElem? (i := 62) rfl)) (fun v158 e158 => ?_)
                  refine ff_ladd hx hb (eX1_settle (123, .ladd, 1) (List.mem_of_getElem? (i := 63) rfl)) (by omega) (by omega) (fun v159 e159 => ?_)
                  refine ff_lconst hx hb (eX1_settle (124, .lconst 1, 1) (List.mem_of_getElem? (i := 64) rfl)) rfl (fun v160 e160 => ?_)
                  refine ff_lsub hx hb (eX1_settle (125, .lsub, 1) (List.mem_of_getElem? (i := 65) rfl)) (by omega) (by omega) (fun v161 e161 => ?_)
                  refine lv_goto hx hb (eX1_settle (126, .goto 11, 3) (List.mem_of_getElem? (i := 66) rfl)) (tgt := 137) rfl ?_
                  have hfin : dqF f sg = (ysI (tlF f) + f 7 - 1, sg) := by first | (simp only [dqF, if_pos d3, if_neg d86, if_neg d97, if_pos d135, if_pos d153, up_eq]; done) | (simp only [dqF, if_pos d3, if_neg d86, if_neg d97, if_pos d135, if_pos d153, up_eq] <;> rfl) | rfl
                  exact W.lret hx hb hr (fun t ht hW => ⟨_, rfl, by rw [hfin]; (first | (show v161.toInt = _; omega) | (show v161.toInt = NONEI; unfold NONEI; omega)), by rw [ht]; exact hh1.l0, by rw [ht]; exact kp0, by rw [ht, hfin]; exact hJ, by rw [ht]; exact fr0⟩) hh1.2.2.1 (eX1_settle (137, .lreturn, 1) (List.mem_of_getElem? (i := 71) rfl))
          · skip
            have d162 : f 0 = 1 ∨ f 0 = 5 := by omega
            refine lv_aload_n hx hb (eX1_settle (70, .aload_n 0, 1) (List.mem_of_getElem? (i := 34) rfl)) rfl (lv_at hl89 1 rfl) ?_
            refine lv_aload_n hx hb (eX1_settle (71, .aload_n 1, 1) (List.mem_of_getElem? (i := 35) rfl)) rfl (lv_at hl89 2 rfl) ?_
            refine lv_iload_n hx hb (eX1_settle (72, .iload_n 2, 1) (List.mem_of_getElem? (i := 36) rfl)) rfl (lv_at hl89 0 rfl) ?_
            refine tz_rowV (As := [.ref tx, .int v88]) (st := []) (b := dt) (C := RX1) (Ts := gT) hx hb hml hown h2 (fun _ h => h) (hX1_settleWeek l D cA ro sz H0 dt tx v88 (tlF f) T sg f hdt htx htl (by omega) (by omega)) ⟨rfl, rfl⟩ ⟨by decide, by decide⟩ ⟨by decide, by decide⟩ (tb_5 38 rfl rfl) (tb_1 8 rfl rfl) (tb_5 35 rfl rfl) (tb_5 36 rfl rfl) (tb_5 37 rfl rfl) (show yX1_settleWeek.cls ≠ "java/lang/invoke/MethodHandle" ∧ yX1_settleWeek.cls ≠ "java/lang/invoke/VarHandle" ∧ (parseMethodDescriptor yX1_settleWeek.desc).map (fun d => d.parameters.length) = some 2 by decide +kernel) zs_blind (zs_ob hh1 hdt (show RTg[1]? = some (0, 1, 0, fsX1) from rfl) (zCX1 hKn.1)) (fun U hU hW => ⟨rfl, by rw [hU]; exact hh1.l0, zKb s U hW.alike hKn, by rw [hU]; exact ⟨hJ, jd0⟩⟩) hh1.2.2.1 hl89.1 (Nat.le_of_ble_eq_true rfl) (eX1_settle (73, .invokevirtual 94, 3) (List.mem_of_getElem? (i := 37) rfl)) (fun r163 s163 t163 lo163 g163 f163 l163 => ?_)
            obtain ⟨v163, q163, e163, z163, c163, j163, fx163⟩ := f163
            cases q163
            rw [g163] at c163 fx163
            have fr163 : ∀ p9 : Nat, p9 ∉ [tx] → t163.heap[p9]? = s.heap[p9]? := fun p9 h9 => (fx163 p9 (fun q => h9 (by rw [List.mem_singleton.mp q]; exact List.mem_cons_self))).trans (fr0 p9 h9)
            have hh163 : zh_ok D cA RTg ro sz H0 t163.heap lo163 := ⟨z163.1, z163.2.1, l163, z163.2.2.2⟩
            have kp163 := kp0.trans (c163.mono (ms' := uM) (by decide))
            refine W.eq (g2 := F0 m 76 ls89 [.long v163]) rfl ?_
            have hfin : dqF f sg = ((dwF (tlF f) f sg).1, (dwF (tlF f) f sg).2) := by first | (simp only [dqF, if_pos d3, if_neg d86, if_pos d162, up_eq]; done) | (simp only [dqF, if_pos d3, if_neg d86, if_pos d162, up_eq] <;> rfl) | rfl
            exact W.lret hx hb hr (fun t ht hW => ⟨_, rfl, by rw [hfin]; (first | (show v163.toInt = _; omega) | (show v163.toInt = NONEI; unfold NONEI; omega)), by rw [ht]; exact hh163.l0, by rw [ht]; exact kp163, by rw [ht, hfin]; exact j163, by rw [ht]; exact fr163⟩) hh163.2.2.1 (eX1_settle (76, .lreturn, 1) (List.mem_of_getElem? (i := 38) rfl))
      · skip
        have d164 : f 4 = 1 ∧ f 5 = 0 := by omega
        refine lv_aload_n hx hb (eX1_settle (25, .aload_n 1, 1) (List.mem_of_getElem? (i := 11) rfl)) rfl (lv_at hl 1 rfl) ?_
        refine lv_aload_n hx hb (eX1_settle (26, .aload_n 0, 1) (List.mem_of_getElem? (i := 12) rfl)) rfl (lv_at hl 0 rfl) ?_
        obtain ⟨v165, fa165, e165⟩ := jd0 2 (by decide)
        have e165 : v165.toInt = f 2 := e165
        refine tz_get (r := 1) (k := 2) (t := (0, (-2147483648), 2147483647)) hx hb hh1 hdt rfl rfl (hcl1 19 2 (0, (-2147483648), 2147483647) (by decide) rfl).1 fa165 (eX1_settle (27, .getfield 19, 3) (List.mem_of_getElem? (i := 13) rfl)) ?_
        refine tz_rowV (As := [.int v165]) (st := []) (b := tx) (C := RX0) (Ts := gT) hx hb hml hown h2 (fun _ h => h) (hX0_blameN l D cA ro sz H0 tx v165 T (sg) htx) ⟨rfl, rfl⟩ ⟨by decide, by decide⟩ ⟨by decide, by decide⟩ (tb_4 64 rfl rfl) (tb_1 5 rfl rfl) (tb_5 34 rfl rfl) (tb_4 62 rfl rfl) (tb_4 63 rfl rfl) (show yX0_blame.cls ≠ "java/lang/invoke/MethodHandle" ∧ yX0_blame.cls ≠ "java/lang/invoke/VarHandle" ∧ (parseMethodDescriptor yX0_blame.desc).map (fun d => d.parameters.length) = some 1 by decide +kernel) zs_blind (zs_ob hh1 htx (show RTg[0]? = some (0, 0, 0, fsX0) from rfl) (zCX0 hKn.1)) (fun U hU hW => ⟨rfl, by rw [hU]; exact hh1.l0, zKb s U hW.alike hKn, by rw [hU]; exact hJ⟩) hh1.2.2.1 hl.1 (Nat.le_of_ble_eq_true rfl) (eX1_settle (30, .invokevirtual 90, 3) (List.mem_of_getElem? (i := 14) rfl)) (fun r166 s166 t166 lo166 g166 f166 l166 => ?_)
        obtain ⟨v166, q166, e166, z166, c166, j166, fx166⟩ := f166
        cases q166
        rw [g166] at c166 fx166
        have fr166 : ∀ p9 : Nat, p9 ∉ [tx] → t166.heap[p9]? = s.heap[p9]? := fun p9 h9 => (fx166 p9 (fun q => h9 (by rw [List.mem_singleton.mp q]; exact List.mem_cons_self))).trans (fr0 p9 h9)
        have hh166 : zh_ok D cA RTg ro sz H0 t166.heap lo166 := ⟨z166.1, z166.2.1, l166, z166.2.2.2⟩
        have kp166 := kp0.trans (c166.mono (ms' := uM) (by decide))
        have e166 : v166.toInt = NONEI := e166
        have j166 : jU D cA ro t166.heap tx T (blF (f 2) sg) := by rw [← show v165.toInt = f 2 by omega]; exact j166
        have mf166_tx_0 := (c166.1 tx 0 0 0 0 fsX0 htx rfl (by decide) (by decide)).trans f0
        have mf166_tx_1 := (c166.1 tx 0 1 0 0 fsX0 htx rfl (by decide) (by decide)).trans f1
        have mf166_dt_4 := (c166.1 dt 1 4 1 0 fsX1 hdt rfl (by decide) (by decide)).trans fa4
        have mf166_dt_5 := (c166.1 dt 1 5 1 0 fsX1 hdt rfl (by decide) (by decide)).trans fa84
        have mf166_dt_2 := (c166.1 dt 1 2 1 0 fsX1 hdt rfl (by decide) (by decide)).trans fa165
        refine W.eq (g2 := F0 m 33 ls [.long v166]) rfl ?_
        have hfin : dqF f sg = (NONEI, blF (f 2) sg) := by first | (simp only [dqF, if_pos d3, if_pos d164, up_eq]; done) | (simp only [dqF, if_pos d3, if_pos d164, up_eq] <;> rfl) | rfl
        exact W.lret hx hb hr (fun t ht hW => ⟨_, rfl, by rw [hfin]; (first | (show v166.toInt = _; omega) | (show v166.toInt = NONEI; unfold NONEI; omega)), by rw [ht]; exact hh166.l0, by rw [ht]; exact kp166, by rw [ht, hfin]; exact j166, by rw [ht]; exact fr166⟩) hh166.2.2.1 (eX1_settle (33, .lreturn, 1) (List.mem_of_getElem? (i := 15) rfl))
  · skip
    have d167 : ¬ (sg.2.1 = 0 ∧ sg.2.2 < 0) := by omega
    refine ff_ldc2 (n := (-9223372036854775808)) hx hb hown h2 (clX1_ok 88 (-9223372036854775808) (List.mem_of_getElem? (i := 0) rfl)) (eX1_settle (7, .ldc2_w 88, 3) (List.mem_of_getElem? (i := 3) rfl)) (fun v168 e168 => ?_)
    have hfin : dqF f sg = (NONEI, sg) := by first | (simp only [dqF, if_neg d167, up_eq]; done) | (simp only [dqF, if_neg d167, up_eq] <;> rfl) | rfl
    exact W.lret hx hb hr (fun t ht hW => ⟨_, rfl, by rw [hfin]; (first | (show v168.toInt = _; omega) | (show v168.toInt = NONEI; unfold NONEI; omega)), by rw [ht]; exact hh1.l0, by rw [ht]; exact kp0, by rw [ht, hfin]; exact hJ, by rw [ht]; exact fr0⟩) hh1.2.2.1 (eX1_settle (10, .lreturn, 1) (List.mem_of_getElem? (i := 4) rfl))
set_option maxRecDepth 100000 in
set_option maxHeartbeats 4000000 in
theorem hX8_offsetTold (l : Launch) (D : va_G) (cA : Nat → ClassId) (ro : Nat → Option Nat) (sz : Nat) (H0 : Heap) (tm : Nat)  (f : fN) (htm : ro tm = some 7) (h11 : 0 ≤ f 11 ∧ f 11 ≤ 99) (h13 : 0 ≤ f 13 ∧ f 13 ≤ 99) (h9 : f 9 = 0 ∨ f 9 = 1) : Met l yX8_offsetTold (gW yX8_offsetTold cX8_offsetTold 2 (some .int)) { frames := 0, cells := 0, slots := 0, locals := 0 } (zs_P D cA ro sz H0 (fun H => jF D H tm 7 14 f) [.ref tm]) (fun _ st oc t => t.heap = st.heap ∧ ∃ r : Int32, oc = .returned (some (.int r)) ∧ r.toInt = otF f) 0 0 (zy_fr sz) := by
  refine zy_ofW (cc := cX8_offsetTold) (maxL := 2) (ret := (some .int)) (by decide +kernel) rfl ?_
  intro p e s m args below meth c s1 B hml hv
  obtain ⟨rfl, hh, hKn, hJ⟩ := hv
  have hx := B.exec
  have hb := B.bytes
  have hr := B.returns
  have hlk := B.notSynchronized
  have hts0 := atoms_spec (ws := gW yX8_offsetTold cX8_offsetTold 2 (some .int)) B.pre
  have h2 : ∀ w ∈ gT, w.before ([.ref tm] : List Value).toArray s = true := fun w hw => hts0 w (List.mem_cons_of_mem _ hw)
  have hown : s.vm.findClass RX8 = some m.cls := findClass_of_methodNamed B.named
  have hl := lv_entry [.ref tm] (n := 2) (Nat.le_of_ble_eq_true rfl)
  rw [lg_entry_eq]
  generalize (lg_sl [.ref tm] ++ List.replicate (2 - (lg_sl [.ref tm]).length) Slot.unset).toArray = ls at hl ⊢
  have hD := zD_all h2 hKn.1
  have hcl7 := fun (idx k : Nat) (t : zt_T) (h : (idx, 7, k) ∈ gfX8) (hk : fsX8[k]? = some t) => zf_clause (ro := ro) (ms := []) h2 hown hKn.1 gfX8_ok (by decide +kernel) idx 7 k 7 0 fsX8 t h rfl hk
  have kp0 : zc_kept D RTg ro [] s.heap s.heap := zc_kept.refl

  refine lv_aload_n hx hb (eX8_offsetTold (0, .aload_n 0, 1) (List.mem_of_getElem? (i := 0) rfl)) rfl (lv_at hl 0 rfl) ?_
  obtain ⟨v1, fa1, e1⟩ := hJ 11 (by decide)
  refine tz_get (r := 7) (k := 11) (t := (0, (-2147483648), 2147483647)) hx hb hh htm rfl rfl (hcl7 46 11 (0, (-2147483648), 2147483647) (by decide) rfl).1 fa1 (eX8_offsetTold (1, .getfield 46, 3) (List.mem_of_getElem? (i := 1) rfl)) ?_
  refine ff_bipush hx hb (eX8_offsetTold (4, .bipush 60, 2) (List.mem_of_getElem? (i := 2) rfl)) (by decide) (by decide) (fun v2 e2 => ?_)
  refine ff_imulR hx hb (eX8_offsetTold (6, .imul, 1) (List.mem_of_getElem? (i := 3) rfl)) (e2) (by omega) (by omega) (fun v3 e3 => ?_)
  refine lv_aload_n hx hb (eX8_offsetTold (7, .aload_n 0, 1) (List.mem_of_getElem? (i := 4) rfl)) rfl (lv_at hl 0 rfl) ?_
  obtain ⟨v4, fa4, e4⟩ := hJ 13 (by decide)
  refine tz_get (r := 7) (k := 13) (t := (0, (-2147483648), 2147483647)) hx hb hh htm rfl rfl (hcl7 52 13 (0, (-2147483648), 2147483647) (by decide) rfl).1 fa4 (eX8_offsetTold (8, .getfield 52, 3) (List.mem_of_getElem? (i := 5) rfl)) ?_
  refine ff_iadd hx hb (eX8_offsetTold (11, .iadd, 1) (List.mem_of_getElem? (i := 6) rfl)) (by omega) (by omega) (fun v5 e5 => ?_)
  refine lv_istore_n hx hb (eX8_offsetTold (12, .istore_n 1, 1) (List.mem_of_getElem? (i := 7) rfl)) rfl hl (by decide) rfl (fun ls6 hl6 => ?_)
  refine lv_aload_n hx hb (eX8_offsetTold (13, .aload_n 0, 1) (List.mem_of_getElem? (i := 8) rfl)) rfl (lv_at hl6 1 rfl) ?_
  obtain ⟨v7, fa7, e7⟩ := hJ 9 (by decide)
  refine tz_get (r := 7) (k := 9) (t := (0, 0, 1)) hx hb hh htm rfl rfl (hcl7 39 9 (0, 0, 1) (by decide) rfl).1 fa7 (eX8_offsetTold (14, .getfield 39, 3) (List.mem_of_getElem? (i := 9) rfl)) ?_
  refine ff_if_eq hx hb (eX8_offsetTold (17, .ifCond .eq 8, 3) (List.mem_of_getElem? (i := 10) rfl)) (tgt := 25) rfl (fun c8 => ?_) (fun c8 => ?_)
  · skip
    refine lv_iload_n hx hb (eX8_offsetTold (25, .iload_n 1, 1) (List.mem_of_getElem? (i := 14) rfl)) rfl (lv_at hl6 0 rfl) ?_
    exact W.zret hx hb hr rfl (fun t ht hW => ⟨ht, _, rfl, by unfold otF; (first | (rw [if_pos (show f 9 = 1 by omega)]; omega) | (rw [if_neg (show ¬ f 9 = 1 by omega)]; omega))⟩) hh.2.2.1 (eX8_offsetTold (26, .ireturn, 1) (List.mem_of_getElem? (i := 15) rfl))
  · skip
    refine lv_iload_n hx hb (eX8_offsetTold (20, .iload_n 1, 1) (List.mem_of_getElem? (i := 11) rfl)) rfl (lv_at hl6 0 rfl) ?_
    refine ff_ineg hx hb (eX8_offsetTold (21, .ineg, 1) (List.mem_of_getElem? (i := 12) rfl)) (by omega) (by omega) (fun v9 e9 => ?_)
    refine lv_goto hx hb (eX8_offsetTold (22, .goto 4, 3) (List.mem_of_getElem? (i := 13) rfl)) (tgt := 26) rfl ?_
    exact W.zret hx hb hr rfl (fun t ht hW => ⟨ht, _, rfl, by unfold otF; (first | (rw [if_pos (show f 9 = 1 by omega)]; omega) | (rw [if_neg (show ¬ f 9 = 1 by omega)]; omega))⟩) hh.2.2.1 (eX8_offsetTold (26, .ireturn, 1) (List.mem_of_getElem? (i := 15) rfl))
set_option maxRecDepth 100000 in
set_option maxHeartbeats 4000000 in
theorem hX8_settle (l : Launch) (D : va_G) (cA : Nat → ClassId) (ro : Nat → Option Nat) (sz : Nat) (H0 : Heap) (tm : Nat) (tx : Nat) (dv : Int64) (lp : Nat) (day : Int) (L : List Int) (T : List Int) (sg : uS) (f : fN) (htm : ro tm = some 7) (htx : ro tx = some 0) (hdv : dv.toInt = day) (hlp : ro lp = some 4) (hdy : day ≠ NONEI → -365961662 ≤ day ∧ day ≤ 364522971) (hfb : (0 ≤ f 1 ∧ f 1 ≤ 99) ∧ (0 ≤ f 3 ∧ f 3 ≤ 99) ∧ (0 ≤ f 11 ∧ f 11 ≤ 99) ∧ (0 ≤ f 13 ∧ f 13 ≤ 99)) (hf9 : f 9 = 0 ∨ f 9 = 1) : Met l yX8_settle (gW yX8_settle cX8_settle 8 none) { frames := 2, cells := 0, slots := 0, locals := 49 } (zs_P D cA ro sz H0 (fun H => jU D cA ro H tx T sg ∧ jF D H tm 7 14 f ∧ jLp D cA ro H lp L) [.ref tm, .ref tx, .long dv, .ref lp]) (ku_V D cA ro sz H0 uM [tx] tx T (tqF L day f sg)) 0 0 (zy_fr sz) := by
  refine zy_ofW (cc := cX8_settle) (maxL := 8) (ret := none) (by decide +kernel) rfl ?_
  intro p e s m args below meth c s1 B hml hv
  obtain ⟨rfl, hh, hKn, hJ⟩ := hv
  have hx := B.exec
  have hb := B.bytes
  have hr := B.returns
  have hlk := B.notSynchronized
  have hts0 := atoms_spec (ws := gW yX8_settle cX8_settle 8 none) B.pre
  have h2 : ∀ w ∈ gT, w.before ([.ref tm, .ref tx, .long dv, .ref lp] : List Value).toArray s = true := fun w hw => hts0 w (List.mem_cons_of_mem _ hw)
  have hown : s.vm.findClass RX8 = some m.cls := findClass_of_methodNamed B.named
  have hl := lv_entry [.ref tm, .ref tx, .long dv, .ref lp] (n := 8) (Nat.le_of_ble_eq_true rfl)
  rw [lg_entry_eq]
  generalize (lg_sl [.ref tm, .ref tx, .long dv, .ref lp] ++ List.replicate (8 - (lg_sl [.ref tm, .ref tx, .long dv, .ref lp]).length) Slot.unset).toArray = ls at hl ⊢
  have b_dv := zn_i64 dv
  have hD := zD_all h2 hKn.1
  have hcl0 := fun (idx k : Nat) (t : zt_T) (h : (idx, 0, k) ∈ gfX8) (hk : fsX0[k]? = some t) => zf_clause (ro := ro) (ms := uM) h2 hown hKn.1 gfX8_ok (by decide +kernel) idx 0 k 0 0 fsX0 t h rfl hk
  have hcl7 := fun (idx k : Nat) (t : zt_T) (h : (idx, 7, k) ∈ gfX8) (hk : fsX8[k]? = some t) => zf_clause (ro := ro) (ms := uM) h2 hown hKn.1 gfX8_ok (by decide +kernel) idx 7 k 7 0 fsX8 t h rfl hk
  have kp0 : zc_kept D RTg ro uM s.heap s.heap := zc_kept.refl
  obtain ⟨hJ, jd0, jl0⟩ := hJ
  obtain ⟨hjt, ⟨av, bv, wv, f2, f3, f4, hav, hbv, hwv⟩, hu⟩ := id hJ
  obtain ⟨tb, n, z, f0, r0, f1, hn, hc, hz⟩ := id hjt
  obtain ⟨n9, g9, n1, n2⟩ := zh_fT (k := 1) (t := (0, 0, 120)) hh htx (show RTg[0]? = some (0, 0, 0, fsX0) from rfl) rfl
  cases f1.symm.trans g9
  dsimp only at n1 n2
  clear g9
  obtain ⟨-, z9, c9, hy9⟩ := zh_arr hh r0 (show RTg[12]? = some (1, 2, 120, [(0, (-128), 127)]) from rfl)
  have hy : ∀ i, i < 120 → zt_ok ro (z i) (0, (-128), 127) := zs_arr (hc.symm.trans c9) hy9
  obtain ⟨u1, u2, u3⟩ := id hu
  have fr0 : ∀ p9 : Nat, p9 ∉ [tx] → s.heap[p9]? = s.heap[p9]? := fun _ _ => rfl
  have hNN : NONEI = -9223372036854775808 := rfl
  have hob : -6039 ≤ otF f ∧ otF f ≤ 6039 := by unfold otF; split <;> omega
  have jn146 : ∀ (lv : Int32) (ls : Array Slot) (lo0 : List Loc), zh_ok D cA RTg ro sz H0 s.heap lo0 → lv.toInt = lsF9 L day f → tq2F L day f sg = tqF L day f sg → lv_has ls 8 [(6, .int lv), (0, .ref tm), (1, .ref tx), (2, .long dv), (4, .ref lp)] → W p l e (headSpec (gW yX8_settle cX8_settle 8 none) { frames := 2, cells := 0, slots := 0, locals := 49 }).room s m ([.ref tm, .ref tx, .long dv, .ref lp] : List Value).toArray below meth c s.heap lo0 0 0 (MQ below (ku_V D cA ro sz H0 uM [tx] tx T (tqF L day f sg)) ([.ref tm, .ref tx, .long dv, .ref lp] : List Value).toArray s 0 0 (zy_fr sz)) (F0 m 146 ls []) := by
    intro lv ls lo0 hh0 hlv htot hl
    refine lv_aload_n hx hb (eX8_settle (146, .aload_n 0, 1) (List.mem_of_getElem? (i := 73) rfl)) rfl (lv_at hl 1 rfl) ?_
    obtain ⟨v1, fa1, e1⟩ := jd0 3 (by decide)
    have e1 : v1.toInt = f 3 := e1
    refine tz_get (r := 7) (k := 3) (t := (0, (-2147483648), 2147483647)) hx hb hh0 htm rfl rfl (hcl7 21 3 (0, (-2147483648), 2147483647) (by decide) rfl).1 fa1 (eX8_settle (147, .getfield 21, 3) (List.mem_of_getElem? (i := 74) rfl)) ?_
    refine ff_bipush hx hb (eX8_settle (150, .bipush 59, 2) (List.mem_of_getElem? (i := 75) rfl)) (by decide) (by decide) (fun v2 e2 => ?_)
    refine ff_icmp_le hx hb (eX8_settle (152, .if_icmp .le 15, 3) (List.mem_of_getElem? (i := 76) rfl)) (tgt := 167) rfl (fun c3 => ?_) (fun c3 => ?_)
    · skip
      have d4 : ¬ 59 < f 3 := by omega
      refine lv_aload_n hx hb (eX8_settle (167, .aload_n 0, 1) (List.mem_of_getElem? (i := 83) rfl)) rfl (lv_at hl 1 rfl) ?_
      obtain ⟨v5, fa5, e5⟩ := jd0 5 (by decide)
      have e5 : v5.toInt = f 5 := e5
      refine tz_get (r := 7) (k := 5) (t := (0, (-2147483648), 2147483647)) hx hb hh0 htm rfl rfl (hcl7 27 5 (0, (-2147483648), 2147483647) (by decide) rfl).1 fa5 (eX8_settle (168, .getfield 27, 3) (List.mem_of_getElem? (i := 84) rfl)) ?_
      refine lv_iload hx hb (eX8_settle (171, .iload 6, 2) (List.mem_of_getElem? (i := 85) rfl)) (lv_at hl 0 rfl) ?_
      refine ff_icmp_le hx hb (eX8_settle (173, .if_icmp .le 15, 3) (List.mem_of_getElem? (i := 86) rfl)) (tgt := 188) rfl (fun c6 => ?_) (fun c6 => ?_)
      · skip
        have d7 : ¬ lsF9 L day f < f 5 := by omega
        refine lv_aload_n hx hb (eX8_settle (188, .aload_n 0, 1) (List.mem_of_getElem? (i := 93) rfl)) rfl (lv_at hl 1 rfl) ?_
        obtain ⟨v8, fa8, e8⟩ := jd0 11 (by decide)
        have e8 : v8.toInt = f 11 := e8
        refine tz_get (r := 7) (k := 11) (t := (0, (-2147483648), 2147483647)) hx hb hh0 htm rfl rfl (hcl7 46 11 (0, (-2147483648), 2147483647) (by decide) rfl).1 fa8 (eX8_settle (189, .getfield 46, 3) (List.mem_of_getElem? (i := 94) rfl)) ?_
        refine ff_bipush hx hb (eX8_settle (192, .bipush 23, 2) (List.mem_of_getElem? (i := 95) rfl)) (by decide) (by decide) (fun v9 e9 => ?_)
        refine ff_icmp_le hx hb (eX8_settle (194, .if_icmp .le 15, 3) (List.mem_of_getElem? (i := 96) rfl)) (tgt := 209) rfl (fun c10 => ?_) (fun c10 => ?_)
        · skip
          have d11 : ¬ 23 < f 11 := by omega
          refine lv_aload_n hx hb (eX8_settle (209, .aload_n 0, 1) (List.mem_of_getElem? (i := 103) rfl)) rfl (lv_at hl 1 rfl) ?_
          obtain ⟨v12, fa12, e12⟩ := jd0 13 (by decide)
          have e12 : v12.toInt = f 13 := e12
          refine tz_get (r := 7) (k := 13) (t := (0, (-2147483648), 2147483647)) hx hb hh0 htm rfl rfl (hcl7 52 13 (0, (-2147483648), 2147483647) (by decide) rfl).1 fa12 (eX8_settle (210, .getfield 52, 3) (List.mem_of_getElem? (i := 104) rfl)) ?_
          refine ff_bipush hx hb (eX8_settle (213, .bipush 59, 2) (List.mem_of_getElem? (i := 105) rfl)) (by decide) (by decide) (fun v13 e13 => ?_)
          refine ff_icmp_le hx hb (eX8_settle (215, .if_icmp .le 12, 3) (List.mem_of_getElem? (i := 106) rfl)) (tgt := 227) rfl (fun c14 => ?_) (fun c14 => ?_)
          · skip
            have d15 : ¬ 59 < f 13 := by omega
            have hfin : tqF L day f sg = sg := by rw [← htot]; first | (simp only [tqF, tq2F, if_neg d4, if_neg d7, if_neg d11, if_neg d15, up_eq]; done) | (simp only [tqF, tq2F, if_neg d4, if_neg d7, if_neg d11, if_neg d15, up_eq] <;> rfl) | rfl
            exact W.vret hx hb hr (fun t ht hW => ⟨rfl, by rw [ht]; exact hh0.l0, by rw [ht]; exact kp0, by rw [ht, hfin]; exact hJ, by rw [ht]; exact fr0⟩) hh0.2.2.1 (eX8_settle (227, .return_, 1) (List.mem_of_getElem? (i := 112) rfl))
          · skip
            have d16 : 59 < f 13 := by omega
            refine lv_aload_n hx hb (eX8_settle (218, .aload_n 1, 1) (List.mem_of_getElem? (i := 107) rfl)) rfl (lv_at hl 2 rfl) ?_
            refine lv_aload_n hx hb (eX8_settle (219, .aload_n 0, 1) (List.mem_of_getElem? (i := 108) rfl)) rfl (lv_at hl 1 rfl) ?_
            obtain ⟨v17, fa17, e17⟩ := jd0 12 (by decide)
            have e17 : v17.toInt = f 12 := e17
            refine tz_get (r := 7) (k := 12) (t := (0, (-2147483648), 2147483647)) hx hb hh0 htm rfl rfl (hcl7 49 12 (0, (-2147483648), 2147483647) (by decide) rfl).1 fa17 (eX8_settle (220, .getfield 49, 3) (List.mem_of_getElem? (i := 109) rfl)) ?_
            refine tz_rowV (As := [.int v17]) (st := []) (b := tx) (C := RX0) (Ts := gT) hx hb hml hown h2 (fun _ h => h) (hX0_blameN l D cA ro sz H0 tx v17 T (sg) htx) ⟨rfl, rfl⟩ ⟨by decide, by decide⟩ ⟨by decide, by decide⟩ (tb_4 64 rfl rfl) (tb_1 5 rfl rfl) (tb_5 68 rfl rfl) (tb_4 62 rfl rfl) (tb_4 63 rfl rfl) (show yX0_blame.cls ≠ "java/lang/invoke/MethodHandle" ∧ yX0_blame.cls ≠ "java/lang/invoke/VarHandle" ∧ (parseMethodDescriptor yX0_blame.desc).map (fun d => d.parameters.length) = some 1 by decide +kernel) zs_blind (zs_ob hh0 htx (show RTg[0]? = some (0, 0, 0, fsX0) from rfl) (zCX0 hKn.1)) (fun U hU hW => ⟨rfl, by rw [hU]; exact hh0.l0, zKb s U hW.alike hKn, by rw [hU]; exact hJ⟩) hh0.2.2.1 hl.1 (Nat.le_of_ble_eq_true rfl) (eX8_settle (223, .invokevirtual 121, 3) (List.mem_of_getElem? (i := 110) rfl)) (fun r18 s18 t18 lo18 g18 f18 l18 => ?_)
            obtain ⟨v18, q18, e18, z18, c18, j18, fx18⟩ := f18
            cases q18
            rw [g18] at c18 fx18
            have fr18 : ∀ p9 : Nat, p9 ∉ [tx] → t18.heap[p9]? = s.heap[p9]? := fun p9 h9 => (fx18 p9 (fun q => h9 (by rw [List.mem_singleton.mp q]; exact List.mem_cons_self))).trans (fr0 p9 h9)
            have hh18 : zh_ok D cA RTg ro sz H0 t18.heap lo18 := ⟨z18.1, z18.2.1, l18, z18.2.2.2⟩
            have kp18 := kp0.trans (c18.mono (ms' := uM) (by decide))
            have e18 : v18.toInt = NONEI := e18
            have j18 : jU D cA ro t18.heap tx T (blF (f 12) sg) := by rw [← show v17.toInt = f 12 by omega]; exact j18
            have mf18_tx_0 := (c18.1 tx 0 0 0 0 fsX0 htx rfl (by decide) (by decide)).trans f0
            have mf18_tx_1 := (c18.1 tx 0 1 0 0 fsX0 htx rfl (by decide) (by decide)).trans f1
            have mf18_tm_3 := (c18.1 tm 7 3 7 0 fsX8 htm rfl (by decide) (by decide)).trans fa1
            have mf18_tm_5 := (c18.1 tm 7 5 7 0 fsX8 htm rfl (by decide) (by decide)).trans fa5
            have mf18_tm_11 := (c18.1 tm 7 11 7 0 fsX8 htm rfl (by decide) (by decide)).trans fa8
            have mf18_tm_13 := (c18.1 tm 7 13 7 0 fsX8 htm rfl (by decide) (by decide)).trans fa12
            have mf18_tm_12 := (c18.1 tm 7 12 7 0 fsX8 htm rfl (by decide) (by decide)).trans fa17
            refine W.eq (g2 := F0 m 226 ls [.long v18]) rfl ?_
            refine lv_pop2_2 hx hb (eX8_settle (226, .pop2, 1) (List.mem_of_getElem? (i := 111) rfl)) rfl ?_
            have hfin : tqF L day f sg = blF (f 12) sg := by rw [← htot]; first | (simp only [tqF, tq2F, if_neg d4, if_neg d7, if_neg d11, if_pos d16, up_eq]; done) | (simp only [tqF, tq2F, if_neg d4, if_neg d7, if_neg d11, if_pos d16, up_eq] <;> rfl) | rfl
            exact W.vret hx hb hr (fun t ht hW => ⟨rfl, by rw [ht]; exact hh18.l0, by rw [ht]; exact kp18, by rw [ht, hfin]; exact j18, by rw [ht]; exact fr18⟩) hh18.2.2.1 (eX8_settle (227, .return_, 1) (List.mem_of_getElem? (i := 112) rfl))
        · skip
          have d19 : 23 < f 11 := by omega
          refine lv_aload_n hx hb (eX8_settle (197, .aload_n 1, 1) (List.mem_of_getElem? (i := 97) rfl)) rfl (lv_at hl 2 rfl) ?_
          refine lv_aload_n hx hb (eX8_settle (198, .aload_n 0, 1) (List.mem_of_getElem? (i := 98) rfl)) rfl (lv_at hl 1 rfl) ?_
          obtain ⟨v20, fa20, e20⟩ := jd0 10 (by decide)
          have e20 : v20.toInt = f 10 := e20
          refine tz_get (r := 7) (k := 10) (t := (0, (-2147483648), 2147483647)) hx hb hh0 htm rfl rfl (hcl7 43 10 (0, (-2147483648), 2147483647) (by decide) rfl).1 fa20 (eX8_settle (199, .getfield 43, 3) (List.mem_of_getElem? (i := 99) rfl)) ?_
          refine tz_rowV (As := [.int v20]) (st := []) (b := tx) (C := RX0) (Ts := gT) hx hb hml hown h2 (fun _ h => h) (hX0_blameN l D cA ro sz H0 tx v20 T (sg) htx) ⟨rfl, rfl⟩ ⟨by decide, by decide⟩ ⟨by decide, by decide⟩ (tb_4 64 rfl rfl) (tb_1 5 rfl rfl) (tb_5 68 rfl rfl) (tb_4 62 rfl rfl) (tb_4 63 rfl rfl) (show yX0_blame.cls ≠ "java/lang/invoke/MethodHandle" ∧ yX0_blame.cls ≠ "java/lang/invoke/VarHandle" ∧ (parseMethodDescriptor yX0_blame.desc).map (fun d => d.parameters.length) = some 1 by decide +kernel) zs_blind (zs_ob hh0 htx (show RTg[0]? = some (0, 0, 0, fsX0) from rfl) (zCX0 hKn.1)) (fun U hU hW => ⟨rfl, by rw [hU]; exact hh0.l0, zKb s U hW.alike hKn, by rw [hU]; exact hJ⟩) hh0.2.2.1 hl.1 (Nat.le_of_ble_eq_true rfl) (eX8_settle (202, .invokevirtual 121, 3) (List.mem_of_getElem? (i := 100) rfl)) (fun r21 s21 t21 lo21 g21 f21 l21 => ?_)
          obtain ⟨v21, q21, e21, z21, c21, j21, fx21⟩ := f21
          cases q21
          rw [g21] at c21 fx21
          have fr21 : ∀ p9 : Nat, p9 ∉ [tx] → t21.heap[p9]? = s.heap[p9]? := fun p9 h9 => (fx21 p9 (fun q => h9 (by rw [List.mem_singleton.mp q]; exact List.mem_cons_self))).trans (fr0 p9 h9)
          have hh21 : zh_ok D cA RTg ro sz H0 t21.heap lo21 := ⟨z21.1, z21.2.1, l21, z21.2.2.2⟩
          have kp21 := kp0.trans (c21.mono (ms' := uM) (by decide))
          have e21 : v21.toInt = NONEI := e21
          have j21 : jU D cA ro t21.heap tx T (blF (f 10) sg) := by rw [← show v20.toInt = f 10 by omega]; exact j21
          have mf21_tx_0 := (c21.1 tx 0 0 0 0 fsX0 htx rfl (by decide) (by decide)).trans f0
          have mf21_tx_1 := (c21.1 tx 0 1 0 0 fsX0 htx rfl (by decide) (by decide)).trans f1
          have mf21_tm_3 := (c21.1 tm 7 3 7 0 fsX8 htm rfl (by decide) (by decide)).trans fa1
          have mf21_tm_5 := (c21.1 tm 7 5 7 0 fsX8 htm rfl (by decide) (by decide)).trans fa5
          have mf21_tm_11 := (c21.1 tm 7 11 7 0 fsX8 htm rfl (by decide) (by decide)).trans fa8
          have mf21_tm_10 := (c21.1 tm 7 10 7 0 fsX8 htm rfl (by decide) (by decide)).trans fa20
          refine W.eq (g2 := F0 m 205 ls [.long v21]) rfl ?_
          refine lv_pop2_2 hx hb (eX8_settle (205, .pop2, 1) (List.mem_of_getElem? (i := 101) rfl)) rfl ?_
          refine lv_goto hx hb (eX8_settle (206, .goto 21, 3) (List.mem_of_getElem? (i := 102) rfl)) (tgt := 227) rfl ?_
          have hfin : tqF L day f sg = blF (f 10) sg := by rw [← htot]; first | (simp only [tqF, tq2F, if_neg d4, if_neg d7, if_pos d19, up_eq]; done) | (simp only [tqF, tq2F, if_neg d4, if_neg d7, if_pos d19, up_eq] <;> rfl) | rfl
          exact W.vret hx hb hr (fun t ht hW => ⟨rfl, by rw [ht]; exact hh21.l0, by rw [ht]; exact kp21, by rw [ht, hfin]; exact j21, by rw [ht]; exact fr21⟩) hh21.2.2.1 (eX8_settle (227, .return_, 1) (List.mem_of_getElem? (i := 112) rfl))
      · skip
        have d22 : lsF9 L day f < f 5 := by omega
        refine lv_aload_n hx hb (eX8_settle (176, .aload_n 1, 1) (List.mem_of_getElem? (i := 87) rfl)) rfl (lv_at hl 2 rfl) ?_
        refine lv_aload_n hx hb (eX8_settle (177, .aload_n 0, 1) (List.mem_of_getElem? (i := 88) rfl)) rfl (lv_at hl 1 rfl) ?_
        obtain ⟨v23, fa23, e23⟩ := jd0 4 (by decide)
        have e23 : v23.toInt = f 4 := e23
        refine tz_get (r := 7) (k := 4) (t := (0, (-2147483648), 2147483647)) hx hb hh0 htm rfl rfl (hcl7 24 4 (0, (-2147483648), 2147483647) (by decide) rfl).1 fa23 (eX8_settle (178, .getfield 24, 3) (List.mem_of_getElem? (i := 89) rfl)) ?_
        refine tz_rowV (As := [.int v23]) (st := []) (b := tx) (C := RX0) (Ts := gT) hx hb hml hown h2 (fun _ h => h) (hX0_blameN l D cA ro sz H0 tx v23 T (sg) htx) ⟨rfl, rfl⟩ ⟨by decide, by decide⟩ ⟨by decide, by decide⟩ (tb_4 64 rfl rfl) (tb_1 5 rfl rfl) (tb_5 68 rfl rfl) (tb_4 62 rfl rfl) (tb_4 63 rfl rfl) (show yX0_blame.cls ≠ "java/lang/invoke/MethodHandle" ∧ yX0_blame.cls ≠ "java/lang/invoke/VarHandle" ∧ (parseMethodDescriptor yX0_blame.desc).map (fun d => d.parameters.length) = some 1 by decide +kernel) zs_blind (zs_ob hh0 htx (show RTg[0]? = some (0, 0, 0, fsX0) from rfl) (zCX0 hKn.1)) (fun U hU hW => ⟨rfl, by rw [hU]; exact hh0.l0, zKb s U hW.alike hKn, by rw [hU]; exact hJ⟩) hh0.2.2.1 hl.1 (Nat.le_of_ble_eq_true rfl) (eX8_settle (181, .invokevirtual 121, 3) (List.mem_of_getElem? (i := 90) rfl)) (fun r24 s24 t24 lo24 g24 f24 l24 => ?_)
        obtain ⟨v24, q24, e24, z24, c24, j24, fx24⟩ := f24
        cases q24
        rw [g24] at c24 fx24
        have fr24 : ∀ p9 : Nat, p9 ∉ [tx] → t24.heap[p9]? = s.heap[p9]? := fun p9 h9 => (fx24 p9 (fun q => h9 (by rw [List.mem_singleton.mp q]; exact List.mem_cons_self))).trans (fr0 p9 h9)
        have hh24 : zh_ok D cA RTg ro sz H0 t24.heap lo24 := ⟨z24.1, z24.2.1, l24, z24.2.2.2⟩
        have kp24 := kp0.trans (c24.mono (ms' := uM) (by decide))
        have e24 : v24.toInt = NONEI := e24
        have j24 : jU D cA ro t24.heap tx T (blF (f 4) sg) := by rw [← show v23.toInt = f 4 by omega]; exact j24
        have mf24_tx_0 := (c24.1 tx 0 0 0 0 fsX0 htx rfl (by decide) (by decide)).trans f0
        have mf24_tx_1 := (c24.1 tx 0 1 0 0 fsX0 htx rfl (by decide) (by decide)).trans f1
        have mf24_tm_3 := (c24.1 tm 7 3 7 0 fsX8 htm rfl (by decide) (by decide)).trans fa1
        have mf24_tm_5 := (c24.1 tm 7 5 7 0 fsX8 htm rfl (by decide) (by decide)).trans fa5
        have mf24_tm_4 := (c24.1 tm 7 4 7 0 fsX8 htm rfl (by decide) (by decide)).trans fa23
        refine W.eq (g2 := F0 m 184 ls [.long v24]) rfl ?_
        refine lv_pop2_2 hx hb (eX8_settle (184, .pop2, 1) (List.mem_of_getElem? (i := 91) rfl)) rfl ?_
        refine lv_goto hx hb (eX8_settle (185, .goto 42, 3) (List.mem_of_getElem? (i := 92) rfl)) (tgt := 227) rfl ?_
        have hfin : tqF L day f sg = blF (f 4) sg := by rw [← htot]; first | (simp only [tqF, tq2F, if_neg d4, if_pos d22, up_eq]; done) | (simp only [tqF, tq2F, if_neg d4, if_pos d22, up_eq] <;> rfl) | rfl
        exact W.vret hx hb hr (fun t ht hW => ⟨rfl, by rw [ht]; exact hh24.l0, by rw [ht]; exact kp24, by rw [ht, hfin]; exact j24, by rw [ht]; exact fr24⟩) hh24.2.2.1 (eX8_settle (227, .return_, 1) (List.mem_of_getElem? (i := 112) rfl))
    · skip
      have d25 : 59 < f 3 := by omega
      refine lv_aload_n hx hb (eX8_settle (155, .aload_n 1, 1) (List.mem_of_getElem? (i := 77) rfl)) rfl (lv_at hl 2 rfl) ?_
      refine lv_aload_n hx hb (eX8_settle (156, .aload_n 0, 1) (List.mem_of_getElem? (i := 78) rfl)) rfl (lv_at hl 1 rfl) ?_
      obtain ⟨v26, fa26, e26⟩ := jd0 2 (by decide)
      have e26 : v26.toInt = f 2 := e26
      refine tz_get (r := 7) (k := 2) (t := (0, (-2147483648), 2147483647)) hx hb hh0 htm rfl rfl (hcl7 18 2 (0, (-2147483648), 2147483647) (by decide) rfl).1 fa26 (eX8_settle (157, .getfield 18, 3) (List.mem_of_getElem? (i := 79) rfl)) ?_
      refine tz_rowV (As := [.int v26]) (st := []) (b := tx) (C := RX0) (Ts := gT) hx hb hml hown h2 (fun _ h => h) (hX0_blameN l D cA ro sz H0 tx v26 T (sg) htx) ⟨rfl, rfl⟩ ⟨by decide, by decide⟩ ⟨by decide, by decide⟩ (tb_4 64 rfl rfl) (tb_1 5 rfl rfl) (tb_5 68 rfl rfl) (tb_4 62 rfl rfl) (tb_4 63 rfl rfl) (show yX0_blame.cls ≠ "java/lang/invoke/MethodHandle" ∧ yX0_blame.cls ≠ "java/lang/invoke/VarHandle" ∧ (parseMethodDescriptor yX0_blame.desc).map (fun d => d.parameters.length) = some 1 by decide +kernel) zs_blind (zs_ob hh0 htx (show RTg[0]? = some (0, 0, 0, fsX0) from rfl) (zCX0 hKn.1)) (fun U hU hW => ⟨rfl, by rw [hU]; exact hh0.l0, zKb s U hW.alike hKn, by rw [hU]; exact hJ⟩) hh0.2.2.1 hl.1 (Nat.le_of_ble_eq_true rfl) (eX8_settle (160, .invokevirtual 121, 3) (List.mem_of_getElem? (i := 80) rfl)) (fun r27 s27 t27 lo27 g27 f27 l27 => ?_)
      obtain ⟨v27, q27, e27, z27, c27, j27, fx27⟩ := f27
      cases q27
      rw [g27] at c27 fx27
      have fr27 : ∀ p9 : Nat, p9 ∉ [tx] → t27.heap[p9]? = s.heap[p9]? := fun p9 h9 => (fx27 p9 (fun q => h9 (by rw [List.mem_singleton.mp q]; exact List.mem_cons_self))).trans (fr0 p9 h9)
      have hh27 : zh_ok D cA RTg ro sz H0 t27.heap lo27 := ⟨z27.1, z27.2.1, l27, z27.2.2.2⟩
      have kp27 := kp0.trans (c27.mono (ms' := uM) (by decide))
      have e27 : v27.toInt = NONEI := e27
      have j27 : jU D cA ro t27.heap tx T (blF (f 2) sg) := by rw [← show v26.toInt = f 2 by omega]; exact j27
      have mf27_tx_0 := (c27.1 tx 0 0 0 0 fsX0 htx rfl (by decide) (by decide)).trans f0
      have mf27_tx_1 := (c27.1 tx 0 1 0 0 fsX0 htx rfl (by decide) (by decide)).trans f1
      have mf27_tm_3 := (c27.1 tm 7 3 7 0 fsX8 htm rfl (by decide) (by decide)).trans fa1
      have mf27_tm_2 := (c27.1 tm 7 2 7 0 fsX8 htm rfl (by decide) (by decide)).trans fa26
      refine W.eq (g2 := F0 m 163 ls [.long v27]) rfl ?_
      refine lv_pop2_2 hx hb (eX8_settle (163, .pop2, 1) (List.mem_of_getElem? (i := 81) rfl)) rfl ?_
      refine lv_goto hx hb (eX8_settle (164, .goto 63, 3) (List.mem_of_getElem? (i := 82) rfl)) (tgt := 227) rfl ?_
      have hfin : tqF L day f sg = blF (f 2) sg := by rw [← htot]; first | (simp only [tqF, tq2F, if_pos d25, up_eq]; done) | (simp only [tqF, tq2F, if_pos d25, up_eq] <;> rfl) | rfl
      exact W.vret hx hb hr (fun t ht hW => ⟨rfl, by rw [ht]; exact hh27.l0, by rw [ht]; exact kp27, by rw [ht, hfin]; exact j27, by rw [ht]; exact fr27⟩) hh27.2.2.1 (eX8_settle (227, .return_, 1) (List.mem_of_getElem? (i := 112) rfl))
  have jn75 : ∀ (lv : Int32) (ls : Array Slot) (lo0 : List Loc), zh_ok D cA RTg ro sz H0 s.heap lo0 → lv.toInt = lsF9 L day f → lv_has ls 8 [(6, .int lv), (0, .ref tm), (1, .ref tx), (2, .long dv), (4, .ref lp)] → W p l e (headSpec (gW yX8_settle cX8_settle 8 none) { frames := 2, cells := 0, slots := 0, locals := 49 }).room s m ([.ref tm, .ref tx, .long dv, .ref lp] : List Value).toArray below meth c s.heap lo0 0 0 (MQ below (ku_V D cA ro sz H0 uM [tx] tx T (tqF L day f sg)) ([.ref tm, .ref tx, .long dv, .ref lp] : List Value).toArray s 0 0 (zy_fr sz)) (F0 m 75 ls []) := by
    intro lv ls lo0 hh0 hlv hl
    refine lv_aload_n hx hb (eX8_settle (75, .aload_n 0, 1) (List.mem_of_getElem? (i := 40) rfl)) rfl (lv_at hl 1 rfl) ?_
    obtain ⟨v28, fa28, e28⟩ := jd0 3 (by decide)
    have e28 : v28.toInt = f 3 := e28
    refine tz_get (r := 7) (k := 3) (t := (0, (-2147483648), 2147483647)) hx hb hh0 htm rfl rfl (hcl7 21 3 (0, (-2147483648), 2147483647) (by decide) rfl).1 fa28 (eX8_settle (76, .getfield 21, 3) (List.mem_of_getElem? (i := 41) rfl)) ?_
    refine ff_if_ne hx hb (eX8_settle (79, .ifCond .ne 21, 3) (List.mem_of_getElem? (i := 42) rfl)) (tgt := 100) rfl (fun c29 => ?_) (fun c29 => ?_)
    · skip
      refine ff_iconst hx hb (eX8_settle (100, .iconst 0, 1) (List.mem_of_getElem? (i := 51) rfl)) (by decide) (by decide) (fun v30 e30 => ?_)
      refine lv_istore hx hb (eX8_settle (101, .istore 7, 2) (List.mem_of_getElem? (i := 52) rfl)) hl (by decide) rfl (fun ls31 hl31 => ?_)
      refine lv_aload_n hx hb (eX8_settle (103, .aload_n 0, 1) (List.mem_of_getElem? (i := 53) rfl)) rfl (lv_at hl31 2 rfl) ?_
      obtain ⟨v32, fa32, e32⟩ := jd0 1 (by decide)
      have e32 : v32.toInt = f 1 := e32
      refine tz_get (r := 7) (k := 1) (t := (0, (-2147483648), 2147483647)) hx hb hh0 htm rfl rfl (hcl7 15 1 (0, (-2147483648), 2147483647) (by decide) rfl).1 fa32 (eX8_settle (104, .getfield 15, 3) (List.mem_of_getElem? (i := 54) rfl)) ?_
      refine ff_bipush hx hb (eX8_settle (107, .bipush 24, 2) (List.mem_of_getElem? (i := 55) rfl)) (by decide) (by decide) (fun v33 e33 => ?_)
      refine ff_icmp_gt hx hb (eX8_settle (109, .if_icmp .gt 25, 3) (List.mem_of_getElem? (i := 56) rfl)) (tgt := 134) rfl (fun c34 => ?_) (fun c34 => ?_)
      · skip
        have d35 : 24 < f 1 ∨ (f 1 = 24 ∧ (¬ (f 3 = 0 ∧ f 5 = 0 ∧ f 6 = 0) ∨ day = 364522971)) := by omega
        refine lv_aload_n hx hb (eX8_settle (134, .aload_n 1, 1) (List.mem_of_getElem? (i := 67) rfl)) rfl (lv_at hl31 3 rfl) ?_
        refine lv_aload_n hx hb (eX8_settle (135, .aload_n 0, 1) (List.mem_of_getElem? (i := 68) rfl)) rfl (lv_at hl31 2 rfl) ?_
        obtain ⟨v36, fa36, e36⟩ := jd0 0 (by decide)
        have e36 : v36.toInt = f 0 := e36
        refine tz_get (r := 7) (k := 0) (t := (0, (-2147483648), 2147483647)) hx hb hh0 htm rfl rfl (hcl7 9 0 (0, (-2147483648), 2147483647) (by decide) rfl).1 fa36 (eX8_settle (136, .getfield 9, 3) (List.mem_of_getElem? (i := 69) rfl)) ?_
        refine tz_rowV (As := [.int v36]) (st := []) (b := tx) (C := RX0) (Ts := gT) hx hb hml hown h2 (fun _ h => h) (hX0_blameN l D cA ro sz H0 tx v36 T (sg) htx) ⟨rfl, rfl⟩ ⟨by decide, by decide⟩ ⟨by decide, by decide⟩ (tb_4 64 rfl rfl) (tb_1 5 rfl rfl) (tb_5 68 rfl rfl) (tb_4 62 rfl rfl) (tb_4 63 rfl rfl) (show yX0_blame.cls ≠ "java/lang/invoke/MethodHandle" ∧ yX0_blame.cls ≠ "java/lang/invoke/VarHandle" ∧ (parseMethodDescriptor yX0_blame.desc).map (fun d => d.parameters.length) = some 1 by decide +kernel) zs_blind (zs_ob hh0 htx (show RTg[0]? = some (0, 0, 0, fsX0) from rfl) (zCX0 hKn.1)) (fun U hU hW => ⟨rfl, by rw [hU]; exact hh0.l0, zKb s U hW.alike hKn, by rw [hU]; exact hJ⟩) hh0.2.2.1 hl31.1 (Nat.le_of_ble_eq_true rfl) (eX8_settle (139, .invokevirtual 121, 3) (List.mem_of_getElem? (i := 70) rfl)) (fun r37 s37 t37 lo37 g37 f37 l37 => ?_)
        obtain ⟨v37, q37, e37, z37, c37, j37, fx37⟩ := f37
        cases q37
        rw [g37] at c37 fx37
        have fr37 : ∀ p9 : Nat, p9 ∉ [tx] → t37.heap[p9]? = s.heap[p9]? := fun p9 h9 => (fx37 p9 (fun q => h9 (by rw [List.mem_singleton.mp q]; exact List.mem_cons_self))).trans (fr0 p9 h9)
        have hh37 : zh_ok D cA RTg ro sz H0 t37.heap lo37 := ⟨z37.1, z37.2.1, l37, z37.2.2.2⟩
        have kp37 := kp0.trans (c37.mono (ms' := uM) (by decide))
        have e37 : v37.toInt = NONEI := e37
        have j37 : jU D cA ro t37.heap tx T (blF (f 0) sg) := by rw [← show v36.toInt = f 0 by omega]; exact j37
        have mf37_tx_0 := (c37.1 tx 0 0 0 0 fsX0 htx rfl (by decide) (by decide)).trans f0
        have mf37_tx_1 := (c37.1 tx 0 1 0 0 fsX0 htx rfl (by decide) (by decide)).trans f1
        have mf37_tm_3 := (c37.1 tm 7 3 7 0 fsX8 htm rfl (by decide) (by decide)).trans fa28
        have mf37_tm_1 := (c37.1 tm 7 1 7 0 fsX8 htm rfl (by decide) (by decide)).trans fa32
        have mf37_tm_0 := (c37.1 tm 7 0 7 0 fsX8 htm rfl (by decide) (by decide)).trans fa36
        refine W.eq (g2 := F0 m 142 ls31 [.long v37]) rfl ?_
        refine lv_pop2_2 hx hb (eX8_settle (142, .pop2, 1) (List.mem_of_getElem? (i := 71) rfl)) rfl ?_
        refine lv_goto hx hb (eX8_settle (143, .goto 84, 3) (List.mem_of_getElem? (i := 72) rfl)) (tgt := 227) rfl ?_
        have hfin : tqF L day f sg = blF (f 0) sg := by first | (simp only [tqF, tq2F, if_pos d35, up_eq]; done) | (simp only [tqF, tq2F, if_pos d35, up_eq] <;> rfl) | rfl
        exact W.vret hx hb hr (fun t ht hW => ⟨rfl, by rw [ht]; exact hh37.l0, by rw [ht]; exact kp37, by rw [ht, hfin]; exact j37, by rw [ht]; exact fr37⟩) hh37.2.2.1 (eX8_settle (227, .return_, 1) (List.mem_of_getElem? (i := 112) rfl))
      · skip
        refine lv_aload_n hx hb (eX8_settle (112, .aload_n 0, 1) (List.mem_of_getElem? (i := 57) rfl)) rfl (lv_at hl31 2 rfl) ?_
        refine tz_get (r := 7) (k := 1) (t := (0, (-2147483648), 2147483647)) hx hb hh0 htm rfl rfl (hcl7 15 1 (0, (-2147483648), 2147483647) (by decide) rfl).1 fa32 (eX8_settle (113, .getfield 15, 3) (List.mem_of_getElem? (i := 58) rfl)) ?_
        refine ff_bipush hx hb (eX8_settle (116, .bipush 24, 2) (List.mem_of_getElem? (i := 59) rfl)) (by decide) (by decide) (fun v38 e38 => ?_)
        refine ff_icmp_ne hx hb (eX8_settle (118, .if_icmp .ne 28, 3) (List.mem_of_getElem? (i := 60) rfl)) (tgt := 146) rfl (fun c39 => ?_) (fun c39 => ?_)
        · skip
          have d40 : ¬ (24 < f 1 ∨ (f 1 = 24 ∧ (¬ (f 3 = 0 ∧ f 5 = 0 ∧ f 6 = 0) ∨ day = 364522971))) := by omega
          exact jn146 lv ls31 _ hh0 (by omega) (by first | (simp only [tqF, if_neg d40, up_eq]; done) | (simp only [tqF, if_neg d40, up_eq] <;> rfl) | rfl) (lv_sub hl31 [1, 2, 3, 4, 5] rfl)
        · skip
          refine lv_iload hx hb (eX8_settle (121, .iload 7, 2) (List.mem_of_getElem? (i := 61) rfl)) (lv_at hl31 0 rfl) ?_
          refine ff_if_eq hx hb (eX8_settle (123, .ifCond .eq 11, 3) (List.mem_of_getElem? (i := 62) rfl)) (tgt := 134) rfl (fun c41 => ?_) (fun c41 => (by exfalso; omega))
          have d42 : 24 < f 1 ∨ (f 1 = 24 ∧ (¬ (f 3 = 0 ∧ f 5 = 0 ∧ f 6 = 0) ∨ day = 364522971)) := by omega
          refine lv_aload_n hx hb (eX8_settle (134, .aload_n 1, 1) (List.mem_of_getElem? (i := 67) rfl)) rfl (lv_at hl31 3 rfl) ?_
          refine lv_aload_n hx hb (eX8_settle (135, .aload_n 0, 1) (List.mem_of_getElem? (i := 68) rfl)) rfl (lv_at hl31 2 rfl) ?_
          obtain ⟨v43, fa43, e43⟩ := jd0 0 (by decide)
          have e43 : v43.toInt = f 0 := e43
          refine tz_get (r := 7) (k := 0) (t := (0, (-2147483648), 2147483647)) hx hb hh0 htm rfl rfl (hcl7 9 0 (0, (-2147483648), 2147483647) (by decide) rfl).1 fa43 (eX8_settle (136, .getfield 9, 3) (List.mem_of_getElem? (i := 69) rfl)) ?_
          refine tz_rowV (As := [.int v43]) (st := []) (b := tx) (C := RX0) (Ts := gT) hx hb hml hown h2 (fun _ h => h) (hX0_blameN l D cA ro sz H0 tx v43 T (sg) htx) ⟨rfl, rfl⟩ ⟨by decide, by decide⟩ ⟨by decide, by decide⟩ (tb_4 64 rfl rfl) (tb_1 5 rfl rfl) (tb_5 68 rfl rfl) (tb_4 62 rfl rfl) (tb_4 63 rfl rfl) (show yX0_blame.cls ≠ "java/lang/invoke/MethodHandle" ∧ yX0_blame.cls ≠ "java/lang/invoke/VarHandle" ∧ (parseMethodDescriptor yX0_blame.desc).map (fun d => d.parameters.length) = some 1 by decide +kernel) zs_blind (zs_ob hh0 htx (show RTg[0]? = some (0, 0, 0, fsX0) from rfl) (zCX0 hKn.1)) (fun U hU hW => ⟨rfl, by rw [hU]; exact hh0.l0, zKb s U hW.alike hKn, by rw [hU]; exact hJ⟩) hh0.2.2.1 hl31.1 (Nat.le_of_ble_eq_true rfl) (eX8_settle (139, .invokevirtual 121, 3) (List.mem_of_getElem? (i := 70) rfl)) (fun r44 s44 t44 lo44 g44 f44 l44 => ?_)
          obtain ⟨v44, q44, e44, z44, c44, j44, fx44⟩ := f44
          cases q44
          rw [g44] at c44 fx44
          have fr44 : ∀ p9 : Nat, p9 ∉ [tx] → t44.heap[p9]? = s.heap[p9]? := fun p9 h9 => (fx44 p9 (fun q => h9 (by rw [List.mem_singleton.mp q]; exact List.mem_cons_self))).trans (fr0 p9 h9)
          have hh44 : zh_ok D cA RTg ro sz H0 t44.heap lo44 := ⟨z44.1, z44.2.1, l44, z44.2.2.2⟩
          have kp44 := kp0.trans (c44.mono (ms' := uM) (by decide))
          have e44 : v44.toInt = NONEI := e44
          have j44 : jU D cA ro t44.heap tx T (blF (f 0) sg) := by rw [← show v43.toInt = f 0 by omega]; exact j44
          have mf44_tx_0 := (c44.1 tx 0 0 0 0 fsX0 htx rfl (by decide) (by decide)).trans f0
          have mf44_tx_1 := (c44.1 tx 0 1 0 0 fsX0 htx rfl (by decide) (by decide)).trans f1
          have mf44_tm_3 := (c44.1 tm 7 3 7 0 fsX8 htm rfl (by decide) (by decide)).trans fa28
          have mf44_tm_1 := (c44.1 tm 7 1 7 0 fsX8 htm rfl (by decide) (by decide)).trans fa32
          have mf44_tm_0 := (c44.1 tm 7 0 7 0 fsX8 htm rfl (by decide) (by decide)).trans fa43
          refine W.eq (g2 := F0 m 142 ls31 [.long v44]) rfl ?_
          refine lv_pop2_2 hx hb (eX8_settle (142, .pop2, 1) (List.mem_of_getElem? (i := 71) rfl)) rfl ?_
          refine lv_goto hx hb (eX8_settle (143, .goto 84, 3) (List.mem_of_getElem? (i := 72) rfl)) (tgt := 227) rfl ?_
          have hfin : tqF L day f sg = blF (f 0) sg := by first | (simp only [tqF, tq2F, if_pos d42, up_eq]; done) | (simp only [tqF, tq2F, if_pos d42, up_eq] <;> rfl) | rfl
          exact W.vret hx hb hr (fun t ht hW => ⟨rfl, by rw [ht]; exact hh44.l0, by rw [ht]; exact kp44, by rw [ht, hfin]; exact j44, by rw [ht]; exact fr44⟩) hh44.2.2.1 (eX8_settle (227, .return_, 1) (List.mem_of_getElem? (i := 112) rfl))
    · skip
      refine lv_aload_n hx hb (eX8_settle (82, .aload_n 0, 1) (List.mem_of_getElem? (i := 43) rfl)) rfl (lv_at hl 1 rfl) ?_
      obtain ⟨v45, fa45, e45⟩ := jd0 5 (by decide)
      have e45 : v45.toInt = f 5 := e45
      refine tz_get (r := 7) (k := 5) (t := (0, (-2147483648), 2147483647)) hx hb hh0 htm rfl rfl (hcl7 27 5 (0, (-2147483648), 2147483647) (by decide) rfl).1 fa45 (eX8_settle (83, .getfield 27, 3) (List.mem_of_getElem? (i := 44) rfl)) ?_
      refine ff_if_ne hx hb (eX8_settle (86, .ifCond .ne 14, 3) (List.mem_of_getElem? (i := 45) rfl)) (tgt := 100) rfl (fun c46 => ?_) (fun c46 => ?_)
      · skip
        refine ff_iconst hx hb (eX8_settle (100, .iconst 0, 1) (List.mem_of_getElem? (i := 51) rfl)) (by decide) (by decide) (fun v47 e47 => ?_)
        refine lv_istore hx hb (eX8_settle (101, .istore 7, 2) (List.mem_of_getElem? (i := 52) rfl)) hl (by decide) rfl (fun ls48 hl48 => ?_)
        refine lv_aload_n hx hb (eX8_settle (103, .aload_n 0, 1) (List.mem_of_getElem? (i := 53) rfl)) rfl (lv_at hl48 2 rfl) ?_
        obtain ⟨v49, fa49, e49⟩ := jd0 1 (by decide)
        have e49 : v49.toInt = f 1 := e49
        refine tz_get (r := 7) (k := 1) (t := (0, (-2147483648), 2147483647)) hx hb hh0 htm rfl rfl (hcl7 15 1 (0, (-2147483648), 2147483647) (by decide) rfl).1 fa49 (eX8_settle (104, .getfield 15, 3) (List.mem_of_getElem? (i := 54) rfl)) ?_
        refine ff_bipush hx hb (eX8_settle (107, .bipush 24, 2) (List.mem_of_getElem? (i := 55) rfl)) (by decide) (by decide) (fun v50 e50 => ?_)
        refine ff_icmp_gt hx hb (eX8_settle (109, .if_icmp .gt 25, 3) (List.mem_of_getElem? (i := 56) rfl)) (tgt := 134) rfl (fun c51 => ?_) (fun c51 => ?_)
        · skip
          have d52 : 24 < f 1 ∨ (f 1 = 24 ∧ (¬ (f 3 = 0 ∧ f 5 = 0 ∧ f 6 = 0) ∨ day = 364522971)) := by omega
          refine lv_aload_n hx hb (eX8_settle (134, .aload_n 1, 1) (List.mem_of_getElem? (i := 67) rfl)) rfl (lv_at hl48 3 rfl) ?_
          refine lv_aload_n hx hb (eX8_settle (135, .aload_n 0, 1) (List.mem_of_getElem? (i := 68) rfl)) rfl (lv_at hl48 2 rfl) ?_
          obtain ⟨v53, fa53, e53⟩ := jd0 0 (by decide)
          have e53 : v53.toInt = f 0 := e53
          refine tz_get (r := 7) (k := 0) (t := (0, (-2147483648), 2147483647)) hx hb hh0 htm rfl rfl (hcl7 9 0 (0, (-2147483648), 2147483647) (by decide) rfl).1 fa53 (eX8_settle (136, .getfield 9, 3) (List.mem_of_getElem? (i := 69) rfl)) ?_
          refine tz_rowV (As := [.int v53]) (st := []) (b := tx) (C := RX0) (Ts := gT) hx hb hml hown h2 (fun _ h => h) (hX0_blameN l D cA ro sz H0 tx v53 T (sg) htx) ⟨rfl, rfl⟩ ⟨by decide, by decide⟩ ⟨by decide, by decide⟩ (tb_4 64 rfl rfl) (tb_1 5 rfl rfl) (tb_5 68 rfl rfl) (tb_4 62 rfl rfl) (tb_4 63 rfl rfl) (show yX0_blame.cls ≠ "java/lang/invoke/MethodHandle" ∧ yX0_blame.cls ≠ "java/lang/invoke/VarHandle" ∧ (parseMethodDescriptor yX0_blame.desc).map (fun d => d.parameters.length) = some 1 by decide +kernel) zs_blind (zs_ob hh0 htx (show RTg[0]? = some (0, 0, 0, fsX0) from rfl) (zCX0 hKn.1)) (fun U hU hW => ⟨rfl, by rw [hU]; exact hh0.l0, zKb s U hW.alike hKn, by rw [hU]; exact hJ⟩) hh0.2.2.1 hl48.1 (Nat.le_of_ble_eq_true rfl) (eX8_settle (139, .invokevirtual 121, 3) (List.mem_of_getElem? (i := 70) rfl)) (fun r54 s54 t54 lo54 g54 f54 l54 => ?_)
          obtain ⟨v54, q54, e54, z54, c54, j54, fx54⟩ := f54
          cases q54
          rw [g54] at c54 fx54
          have fr54 : ∀ p9 : Nat, p9 ∉ [tx] → t54.heap[p9]? = s.heap[p9]? := fun p9 h9 => (fx54 p9 (fun q => h9 (by rw [List.mem_singleton.mp q]; exact List.mem_cons_self))).trans (fr0 p9 h9)
          have hh54 : zh_ok D cA RTg ro sz H0 t54.heap lo54 := ⟨z54.1, z54.2.1, l54, z54.2.2.2⟩
          have kp54 := kp0.trans (c54.mono (ms' := uM) (by decide))
          have e54 : v54.toInt = NONEI := e54
          have j54 : jU D cA ro t54.heap tx T (blF (f 0) sg) := by rw [← show v53.toInt = f 0 by omega]; exact j54
          have mf54_tx_0 := (c54.1 tx 0 0 0 0 fsX0 htx rfl (by decide) (by decide)).trans f0
          have mf54_tx_1 := (c54.1 tx 0 1 0 0 fsX0 htx rfl (by decide) (by decide)).trans f1
          have mf54_tm_3 := (c54.1 tm 7 3 7 0 fsX8 htm rfl (by decide) (by decide)).trans fa28
          have mf54_tm_5 := (c54.1 tm 7 5 7 0 fsX8 htm rfl (by decide) (by decide)).trans fa45
          have mf54_tm_1 := (c54.1 tm 7 1 7 0 fsX8 htm rfl (by decide) (by decide)).trans fa49
          have mf54_tm_0 := (c54.1 tm 7 0 7 0 fsX8 htm rfl (by decide) (by decide)).trans fa53
          refine W.eq (g2 := F0 m 142 ls48 [.long v54]) rfl ?_
          refine lv_pop2_2 hx hb (eX8_settle (142, .pop2, 1) (List.mem_of_getElem? (i := 71) rfl)) rfl ?_
          refine lv_goto hx hb (eX8_settle (143, .goto 84, 3) (List.mem_of_getElem? (i := 72) rfl)) (tgt := 227) rfl ?_
          have hfin : tqF L day f sg = blF (f 0) sg := by first | (simp only [tqF, tq2F, if_pos d52, up_eq]; done) | (simp only [tqF, tq2F, if_pos d52, up_eq] <;> rfl) | rfl
          exact W.vret hx hb hr (fun t ht hW => ⟨rfl, by rw [ht]; exact hh54.l0, by rw [ht]; exact kp54, by rw [ht, hfin]; exact j54, by rw [ht]; exact fr54⟩) hh54.2.2.1 (eX8_settle (227, .return_, 1) (List.mem_of_getElem? (i := 112) rfl))
        · skip
          refine lv_aload_n hx hb (eX8_settle (112, .aload_n 0, 1) (List.mem_of_getElem? (i := 57) rfl)) rfl (lv_at hl48 2 rfl) ?_
          refine tz_get (r := 7) (k := 1) (t := (0, (-2147483648), 2147483647)) hx hb hh0 htm rfl rfl (hcl7 15 1 (0, (-2147483648), 2147483647) (by decide) rfl).1 fa49 (eX8_settle (113, .getfield 15, 3) (List.mem_of_getElem? (i := 58) rfl)) ?_
          refine ff_bipush hx hb (eX8_settle (116, .bipush 24, 2) (List.mem_of_getElem? (i := 59) rfl)) (by decide) (by decide) (fun v55 e55 => ?_)
          refine ff_icmp_ne hx hb (eX8_settle (118, .if_icmp .ne 28, 3) (List.mem_of_getElem? (i := 60) rfl)) (tgt := 146) rfl (fun c56 => ?_) (fun c56 => ?_)
          · skip
            have d57 : ¬ (24 < f 1 ∨ (f 1 = 24 ∧ (¬ (f 3 = 0 ∧ f 5 = 0 ∧ f 6 = 0) ∨ day = 364522971))) := by omega
            exact jn146 lv ls48 _ hh0 (by omega) (by first | (simp only [tqF, if_neg d57, up_eq]; done) | (simp only [tqF, if_neg d57, up_eq] <;> rfl) | rfl) (lv_sub hl48 [1, 2, 3, 4, 5] rfl)
          · skip
            refine lv_iload hx hb (eX8_settle (121, .iload 7, 2) (List.mem_of_getElem? (i := 61) rfl)) (lv_at hl48 0 rfl) ?_
            refine ff_if_eq hx hb (eX8_settle (123, .ifCond .eq 11, 3) (List.mem_of_getElem? (i := 62) rfl)) (tgt := 134) rfl (fun c58 => ?_) (fun c58 => (by exfalso; omega))
            have d59 : 24 < f 1 ∨ (f 1 = 24 ∧ (¬ (f 3 = 0 ∧ f 5 = 0 ∧ f 6 = 0) ∨ day = 364522971)) := by omega
            refine lv_aload_n hx hb (eX8_settle (134, .aload_n 1, 1) (List.mem_of_getElem? (i := 67) rfl)) rfl (lv_at hl48 3 rfl) ?_
            refine lv_aload_n hx hb (eX8_settle (135, .aload_n 0, 1) (List.mem_of_getElem? (i := 68) rfl)) rfl (lv_at hl48 2 rfl) ?_
            obtain ⟨v60, fa60, e60⟩ := jd0 0 (by decide)
            have e60 : v60.toInt = f 0 := e60
            refine tz_get (r := 7) (k := 0) (t := (0, (-2147483648), 2147483647)) hx hb hh0 htm rfl rfl (hcl7 9 0 (0, (-2147483648), 2147483647) (by decide) rfl).1 fa60 (eX8_settle (136, .getfield 9, 3) (List.mem_of_getElem? (i := 69) rfl)) ?_
            refine tz_rowV (As := [.int v60]) (st := []) (b := tx) (C := RX0) (Ts := gT) hx hb hml hown h2 (fun _ h => h) (hX0_blameN l D cA ro sz H0 tx v60 T (sg) htx) ⟨rfl, rfl⟩ ⟨by decide, by decide⟩ ⟨by decide, by decide⟩ (tb_4 64 rfl rfl) (tb_1 5 rfl rfl) (tb_5 68 rfl rfl) (tb_4 62 rfl rfl) (tb_4 63 rfl rfl) (show yX0_blame.cls ≠ "java/lang/invoke/MethodHandle" ∧ yX0_blame.cls ≠ "java/lang/invoke/VarHandle" ∧ (parseMethodDescriptor yX0_blame.desc).map (fun d => d.parameters.length) = some 1 by decide +kernel) zs_blind (zs_ob hh0 htx (show RTg[0]? = some (0, 0, 0, fsX0) from rfl) (zCX0 hKn.1)) (fun U hU hW => ⟨rfl, by rw [hU]; exact hh0.l0, zKb s U hW.alike hKn, by rw [hU]; exact hJ⟩) hh0.2.2.1 hl48.1 (Nat.le_of_ble_eq_true rfl) (eX8_settle (139, .invokevirtual 121, 3) (List.mem_of_getElem? (i := 70) rfl)) (fun r61 s61 t61 lo61 g61 f61 l61 => ?_)
            obtain ⟨v61, q61, e61, z61, c61, j61, fx61⟩ := f61
            cases q61
            rw [g61] at c61 fx61
            have fr61 : ∀ p9 : Nat, p9 ∉ [tx] → t61.heap[p9]? = s.heap[p9]? := fun p9 h9 => (fx61 p9 (fun q => h9 (by rw [List.mem_singleton.mp q]; exact List.mem_cons_self))).trans (fr0 p9 h9)
            have hh61 : zh_ok D cA RTg ro sz H0 t61.heap lo61 := ⟨z61.1, z61.2.1, l61, z61.2.2.2⟩
            have kp61 := kp0.trans (c61.mono (ms' := uM) (by decide))
            have e61 : v61.toInt = NONEI := e61
            have j61 : jU D cA ro t61.heap tx T (blF (f 0) sg) := by rw [← show v60.toInt = f 0 by omega]; exact j61
            have mf61_tx_0 := (c61.1 tx 0 0 0 0 fsX0 htx rfl (by decide) (by decide)).trans f0
            have mf61_tx_1 := (c61.1 tx 0 1 0 0 fsX0 htx rfl (by decide) (by decide)).trans f1
            have mf61_tm_3 := (c61.1 tm 7 3 7 0 fsX8 htm rfl (by decide) (by decide)).trans fa28
            have mf61_tm_5 := (c61.1 tm 7 5 7 0 fsX8 htm rfl (by decide) (by decide)).trans fa45
            have mf61_tm_1 := (c61.1 tm 7 1 7 0 fsX8 htm rfl (by decide) (by decide)).trans fa49
            have mf61_tm_0 := (c61.1 tm 7 0 7 0 fsX8 htm rfl (by decide) (by decide)).trans fa60
            refine W.eq (g2 := F0 m 142 ls48 [.long v61]) rfl ?_
            refine lv_pop2_2 hx hb (eX8_settle (142, .pop2, 1) (List.mem_of_getElem? (i := 71) rfl)) rfl ?_
            refine lv_goto hx hb (eX8_settle (143, .goto 84, 3) (List.mem_of_getElem? (i := 72) rfl)) (tgt := 227) rfl ?_
            have hfin : tqF L day f sg = blF (f 0) sg := by first | (simp only [tqF, tq2F, if_pos d59, up_eq]; done) | (simp only [tqF, tq2F, if_pos d59, up_eq] <;> rfl) | rfl
            exact W.vret hx hb hr (fun t ht hW => ⟨rfl, by rw [ht]; exact hh61.l0, by rw [ht]; exact kp61, by rw [ht, hfin]; exact j61, by rw [ht]; exact fr61⟩) hh61.2.2.1 (eX8_settle (227, .return_, 1) (List.mem_of_getElem? (i := 112) rfl))
      · skip
        refine lv_aload_n hx hb (eX8_settle (89, .aload_n 0, 1) (List.mem_of_getElem? (i := 46) rfl)) rfl (lv_at hl 1 rfl) ?_
        obtain ⟨v62, fa62, e62⟩ := jd0 6 (by decide)
        have e62 : v62.toInt = f 6 := e62
        refine tz_get (r := 7) (k := 6) (t := (0, (-2147483648), 2147483647)) hx hb hh0 htm rfl rfl (hcl7 30 6 (0, (-2147483648), 2147483647) (by decide) rfl).1 fa62 (eX8_settle (90, .getfield 30, 3) (List.mem_of_getElem? (i := 47) rfl)) ?_
        refine ff_if_ne hx hb (eX8_settle (93, .ifCond .ne 7, 3) (List.mem_of_getElem? (i := 48) rfl)) (tgt := 100) rfl (fun c63 => ?_) (fun c63 => ?_)
        · skip
          refine ff_iconst hx hb (eX8_settle (100, .iconst 0, 1) (List.mem_of_getElem? (i := 51) rfl)) (by decide) (by decide) (fun v64 e64 => ?_)
          refine lv_istore hx hb (eX8_settle (101, .istore 7, 2) (List.mem_of_getElem? (i := 52) rfl)) hl (by decide) rfl (fun ls65 hl65 => ?_)
          refine lv_aload_n hx hb (eX8_settle (103, .aload_n 0, 1) (List.mem_of_getElem? (i := 53) rfl)) rfl (lv_at hl65 2 rfl) ?_
          obtain ⟨v66, fa66, e66⟩ := jd0 1 (by decide)
          have e66 : v66.toInt = f 1 := e66
          refine tz_get (r := 7) (k := 1) (t := (0, (-2147483648), 2147483647)) hx hb hh0 htm rfl rfl (hcl7 15 1 (0, (-2147483648), 2147483647) (by decide) rfl).1 fa66 (eX8_settle (104, .getfield 15, 3) (List.mem_of_getElem? (i := 54) rfl)) ?_
          refine ff_bipush hx hb (eX8_settle (107, .bipush 24, 2) (List.mem_of_getElem? (i := 55) rfl)) (by decide) (by decide) (fun v67 e67 => ?_)
          refine ff_icmp_gt hx hb (eX8_settle (109, .if_icmp .gt 25, 3) (List.mem_of_getElem? (i := 56) rfl)) (tgt := 134) rfl (fun c68 => ?_) (fun c68 => ?_)
          · skip
            have d69 : 24 < f 1 ∨ (f 1 = 24 ∧ (¬ (f 3 = 0 ∧ f 5 = 0 ∧ f 6 = 0) ∨ day = 364522971)) := by omega
            refine lv_aload_n hx hb (eX8_settle (134, .aload_n 1, 1) (List.mem_of_getElem? (i := 67) rfl)) rfl (lv_at hl65 3 rfl) ?_
            refine lv_aload_n hx hb (eX8_settle (135, .aload_n 0, 1) (List.mem_of_getElem? (i := 68) rfl)) rfl (lv_at hl65 2 rfl) ?_
            obtain ⟨v70, fa70, e70⟩ := jd0 0 (by decide)
            have e70 : v70.toInt = f 0 := e70
            refine tz_get (r := 7) (k := 0) (t := (0, (-2147483648), 2147483647)) hx hb hh0 htm rfl rfl (hcl7 9 0 (0, (-2147483648), 2147483647) (by decide) rfl).1 fa70 (eX8_settle (136, .getfield 9, 3) (List.mem_of_getElem? (i := 69) rfl)) ?_
            refine tz_rowV (As := [.int v70]) (st := []) (b := tx) (C := RX0) (Ts := gT) hx hb hml hown h2 (fun _ h => h) (hX0_blameN l D cA ro sz H0 tx v70 T (sg) htx) ⟨rfl, rfl⟩ ⟨by decide, by decide⟩ ⟨by decide, by decide⟩ (tb_4 64 rfl rfl) (tb_1 5 rfl rfl) (tb_5 68 rfl rfl) (tb_4 62 rfl rfl) (tb_4 63 rfl rfl) (show yX0_blame.cls ≠ "java/lang/invoke/MethodHandle" ∧ yX0_blame.cls ≠ "java/lang/invoke/VarHandle" ∧ (parseMethodDescriptor yX0_blame.desc).map (fun d => d.parameters.length) = some 1 by decide +kernel) zs_blind (zs_ob hh0 htx (show RTg[0]? = some (0, 0, 0, fsX0) from rfl) (zCX0 hKn.1)) (fun U hU hW => ⟨rfl, by rw [hU]; exact hh0.l0, zKb s U hW.alike hKn, by rw [hU]; exact hJ⟩) hh0.2.2.1 hl65.1 (Nat.le_of_ble_eq_true rfl) (eX8_settle (139, .invokevirtual 121, 3) (List.mem_of_getElem? (i := 70) rfl)) (fun r71 s71 t71 lo71 g71 f71 l71 => ?_)
            obtain ⟨v71, q71, e71, z71, c71, j71, fx71⟩ := f71
            cases q71
            rw [g71] at c71 fx71
            have fr71 : ∀ p9 : Nat, p9 ∉ [tx] → t71.heap[p9]? = s.heap[p9]? := fun p9 h9 => (fx71 p9 (fun q => h9 (by rw [List.mem_singleton.mp q]; exact List.mem_cons_self))).trans (fr0 p9 h9)
            have hh71 : zh_ok D cA RTg ro sz H0 t71.heap lo71 := ⟨z71.1, z71.2.1, l71, z71.2.2.2⟩
            have kp71 := kp0.trans (c71.mono (ms' := uM) (by decide))
            have e71 : v71.toInt = NONEI := e71
            have j71 : jU D cA ro t71.heap tx T (blF (f 0) sg) := by rw [← show v70.toInt = f 0 by omega]; exact j71
            have mf71_tx_0 := (c71.1 tx 0 0 0 0 fsX0 htx rfl (by decide) (by decide)).trans f0
            have mf71_tx_1 := (c71.1 tx 0 1 0 0 fsX0 htx rfl (by decide) (by decide)).trans f1
            have mf71_tm_3 := (c71.1 tm 7 3 7 0 fsX8 htm rfl (by decide) (by decide)).trans fa28
            have mf71_tm_5 := (c71.1 tm 7 5 7 0 fsX8 htm rfl (by decide) (by decide)).trans fa45
            have mf71_tm_6 := (c71.1 tm 7 6 7 0 fsX8 htm rfl (by decide) (by decide)).trans fa62
            have mf71_tm_1 := (c71.1 tm 7 1 7 0 fsX8 htm rfl (by decide) (by decide)).trans fa66
            have mf71_tm_0 := (c71.1 tm 7 0 7 0 fsX8 htm rfl (by decide) (by decide)).trans fa70
            refine W.eq (g2 := F0 m 142 ls65 [.long v71]) rfl ?_
            refine lv_pop2_2 hx hb (eX8_settle (142, .pop2, 1) (List.mem_of_getElem? (i := 71) rfl)) rfl ?_
            refine lv_goto hx hb (eX8_settle (143, .goto 84, 3) (List.mem_of_getElem? (i := 72) rfl)) (tgt := 227) rfl ?_
            have hfin : tqF L day f sg = blF (f 0) sg := by first | (simp only [tqF, tq2F, if_pos d69, up_eq]; done) | (simp only [tqF, tq2F, if_pos d69, up_eq] <;> rfl) | rfl
            exact W.vret hx hb hr (fun t ht hW => ⟨rfl, by rw [ht]; exact hh71.l0, by rw [ht]; exact kp71, by rw [ht, hfin]; exact j71, by rw [ht]; exact fr71⟩) hh71.2.2.1 (eX8_settle (227, .return_, 1) (List.mem_of_getElem? (i := 112) rfl))
          · skip
            refine lv_aload_n hx hb (eX8_settle (112, .aload_n 0, 1) (List.mem_of_getElem? (i := 57) rfl)) rfl (lv_at hl65 2 rfl) ?_
            refine tz_get (r := 7) (k := 1) (t := (0, (-2147483648), 2147483647)) hx hb hh0 htm rfl rfl (hcl7 15 1 (0, (-2147483648), 2147483647) (by decide) rfl).1 fa66 (eX8_settle (113, .getfield 15, 3) (List.mem_of_getElem? (i := 58) rfl)) ?_
            refine ff_bipush hx hb (eX8_settle (116, .bipush 24, 2) (List.mem_of_getElem? (i := 59) rfl)) (by decide) (by decide) (fun v72 e72 => ?_)
            refine ff_icmp_ne hx hb (eX8_settle (118, .if_icmp .ne 28, 3) (List.mem_of_getElem? (i := 60) rfl)) (tgt := 146) rfl (fun c73 => ?_) (fun c73 => ?_)
            · skip
              have d74 : ¬ (24 < f 1 ∨ (f 1 = 24 ∧ (¬ (f 3 = 0 ∧ f 5 = 0 ∧ f 6 = 0) ∨ day = 364522971))) := by omega
              exact jn146 lv ls65 _ hh0 (by omega) (by first | (simp only [tqF, if_neg d74, up_eq]; done) | (simp only [tqF, if_neg d74, up_eq] <;> rfl) | rfl) (lv_sub hl65 [1, 2, 3, 4, 5] rfl)
            · skip
              refine lv_iload hx hb (eX8_settle (121, .iload 7, 2) (List.mem_of_getElem? (i := 61) rfl)) (lv_at hl65 0 rfl) ?_
              refine ff_if_eq hx hb (eX8_settle (123, .ifCond .eq 11, 3) (List.mem_of_getElem? (i := 62) rfl)) (tgt := 134) rfl (fun c75 => ?_) (fun c75 => (by exfalso; omega))
              have d76 : 24 < f 1 ∨ (f 1 = 24 ∧ (¬ (f 3 = 0 ∧ f 5 = 0 ∧ f 6 = 0) ∨ day = 364522971)) := by omega
              refine lv_aload_n hx hb (eX8_settle (134, .aload_n 1, 1) (List.mem_of_getElem? (i := 67) rfl)) rfl (lv_at hl65 3 rfl) ?_
              refine lv_aload_n hx hb (eX8_settle (135, .aload_n 0, 1) (List.mem_of_getElem? (i := 68) rfl)) rfl (lv_at hl65 2 rfl) ?_
              obtain ⟨v77, fa77, e77⟩ := jd0 0 (by decide)
              have e77 : v77.toInt = f 0 := e77
              refine tz_get (r := 7) (k := 0) (t := (0, (-2147483648), 2147483647)) hx hb hh0 htm rfl rfl (hcl7 9 0 (0, (-2147483648), 2147483647) (by decide) rfl).1 fa77 (eX8_settle (136, .getfield 9, 3) (List.mem_of_getElem? (i := 69) rfl)) ?_
              refine tz_rowV (As := [.int v77]) (st := []) (b := tx) (C := RX0) (Ts := gT) hx hb hml hown h2 (fun _ h => h) (hX0_blameN l D cA ro sz H0 tx v77 T (sg) htx) ⟨rfl, rfl⟩ ⟨by decide, by decide⟩ ⟨by decide, by decide⟩ (tb_4 64 rfl rfl) (tb_1 5 rfl rfl) (tb_5 68 rfl rfl) (tb_4 62 rfl rfl) (tb_4 63 rfl rfl) (show yX0_blame.cls ≠ "java/lang/invoke/MethodHandle" ∧ yX0_blame.cls ≠ "java/lang/invoke/VarHandle" ∧ (parseMethodDescriptor yX0_blame.desc).map (fun d => d.parameters.length) = some 1 by decide +kernel) zs_blind (zs_ob hh0 htx (show RTg[0]? = some (0, 0, 0, fsX0) from rfl) (zCX0 hKn.1)) (fun U hU hW => ⟨rfl, by rw [hU]; exact hh0.l0, zKb s U hW.alike hKn, by rw [hU]; exact hJ⟩) hh0.2.2.1 hl65.1 (Nat.le_of_ble_eq_true rfl) (eX8_settle (139, .invokevirtual 121, 3) (List.mem_of_getElem? (i := 70) rfl)) (fun r78 s78 t78 lo78 g78 f78 l78 => ?_)
              obtain ⟨v78, q78, e78, z78, c78, j78, fx78⟩ := f78
              cases q78
              rw [g78] at c78 fx78
              have fr78 : ∀ p9 : Nat, p9 ∉ [tx] → t78.heap[p9]? = s.heap[p9]? := fun p9 h9 => (fx78 p9 (fun q => h9 (by rw [List.mem_singleton.mp q]; exact List.mem_cons_self))).trans (fr0 p9 h9)
              have hh78 : zh_ok D cA RTg ro sz H0 t78.heap lo78 := ⟨z78.1, z78.2.1, l78, z78.2.2.2⟩
              have kp78 := kp0.trans (c78.mono (ms' := uM) (by decide))
              have e78 : v78.toInt = NONEI := e78
              have j78 : jU D cA ro t78.heap tx T (blF (f 0) sg) := by rw [← show v77.toInt = f 0 by omega]; exact j78
              have mf78_tx_0 := (c78.1 tx 0 0 0 0 fsX0 htx rfl (by decide) (by decide)).trans f0
              have mf78_tx_1 := (c78.1 tx 0 1 0 0 fsX0 htx rfl (by decide) (by decide)).trans f1
              have mf78_tm_3 := (c78.1 tm 7 3 7 0 fsX8 htm rfl (by decide) (by decide)).trans fa28
              have mf78_tm_5 := (c78.1 tm 7 5 7 0 fsX8 htm rfl (by decide) (by decide)).trans fa45
              have mf78_tm_6 := (c78.1 tm 7 6 7 0 fsX8 htm rfl (by decide) (by decide)).trans fa62
              have mf78_tm_1 := (c78.1 tm 7 1 7 0 fsX8 htm rfl (by decide) (by decide)).trans fa66
              have mf78_tm_0 := (c78.1 tm 7 0 7 0 fsX8 htm rfl (by decide) (by decide)).trans fa77
              refine W.eq (g2 := F0 m 142 ls65 [.long v78]) rfl ?_
              refine lv_pop2_2 hx hb (eX8_settle (142, .pop2, 1) (List.mem_of_getElem? (i := 71) rfl)) rfl ?_
              refine lv_goto hx hb (eX8_settle (143, .goto 84, 3) (List.mem_of_getElem? (i := 72) rfl)) (tgt := 227) rfl ?_
              have hfin : tqF L day f sg = blF (f 0) sg := by first | (simp only [tqF, tq2F, if_pos d76, up_eq]; done) | (simp only [tqF, tq2F, if_pos d76, up_eq] <;> rfl) | rfl
              exact W.vret hx hb hr (fun t ht hW => ⟨rfl, by rw [ht]; exact hh78.l0, by rw [ht]; exact kp78, by rw [ht, hfin]; exact j78, by rw [ht]; exact fr78⟩) hh78.2.2.1 (eX8_settle (227, .return_, 1) (List.mem_of_getElem? (i := 112) rfl))
        · skip
          refine ff_iconst hx hb (eX8_settle (96, .iconst 1, 1) (List.mem_of_getElem? (i := 49) rfl)) (by decide) (by decide) (fun v79 e79 => ?_)
          refine lv_goto hx hb (eX8_settle (97, .goto 4, 3) (List.mem_of_getElem? (i := 50) rfl)) (tgt := 101) rfl ?_
          refine lv_istore hx hb (eX8_settle (101, .istore 7, 2) (List.mem_of_getElem? (i := 52) rfl)) hl (by decide) rfl (fun ls80 hl80 => ?_)
          refine lv_aload_n hx hb (eX8_settle (103, .aload_n 0, 1) (List.mem_of_getElem? (i := 53) rfl)) rfl (lv_at hl80 2 rfl) ?_
          obtain ⟨v81, fa81, e81⟩ := jd0 1 (by decide)
          have e81 : v81.toInt = f 1 := e81
          refine tz_get (r := 7) (k := 1) (t := (0, (-2147483648), 2147483647)) hx hb hh0 htm rfl rfl (hcl7 15 1 (0, (-2147483648), 2147483647) (by decide) rfl).1 fa81 (eX8_settle (104, .getfield 15, 3) (List.mem_of_getElem? (i := 54) rfl)) ?_
          refine ff_bipush hx hb (eX8_settle (107, .bipush 24, 2) (List.mem_of_getElem? (i := 55) rfl)) (by decide) (by decide) (fun v82 e82 => ?_)
          refine ff_icmp_gt hx hb (eX8_settle (109, .if_icmp .gt 25, 3) (List.mem_of_getElem? (i := 56) rfl)) (tgt := 134) rfl (fun c83 => ?_) (fun c83 => ?_)
          · skip
            have d84 : 24 < f 1 ∨ (f 1 = 24 ∧ (¬ (f 3 = 0 ∧ f 5 = 0 ∧ f 6 = 0) ∨ day = 364522971)) := by omega
            refine lv_aload_n hx hb (eX8_settle (134, .aload_n 1, 1) (List.mem_of_getElem? (i := 67) rfl)) rfl (lv_at hl80 3 rfl) ?_
            refine lv_aload_n hx hb (eX8_settle (135, .aload_n 0, 1) (List.mem_of_getElem? (i := 68) rfl)) rfl (lv_at hl80 2 rfl) ?_
            obtain ⟨v85, fa85, e85⟩ := jd0 0 (by decide)
            have e85 : v85.toInt = f 0 := e85
            refine tz_get (r := 7) (k := 0) (t := (0, (-2147483648), 2147483647)) hx hb hh0 htm rfl rfl (hcl7 9 0 (0, (-2147483648), 2147483647) (by decide) rfl).1 fa85 (eX8_settle (136, .getfield 9, 3) (List.mem_of_getElem? (i := 69) rfl)) ?_
            refine tz_rowV (As := [.int v85]) (st := []) (b := tx) (C := RX0) (Ts := gT) hx hb hml hown h2 (fun _ h => h) (hX0_blameN l D cA ro sz H0 tx v85 T (sg) htx) ⟨rfl, rfl⟩ ⟨by decide, by decide⟩ ⟨by decide, by decide⟩ (tb_4 64 rfl rfl) (tb_1 5 rfl rfl) (tb_5 68 rfl rfl) (tb_4 62 rfl rfl) (tb_4 63 rfl rfl) (show yX0_blame.cls ≠ "java/lang/invoke/MethodHandle" ∧ yX0_blame.cls ≠ "java/lang/invoke/VarHandle" ∧ (parseMethodDescriptor yX0_blame.desc).map (fun d => d.parameters.length) = some 1 by decide +kernel) zs_blind (zs_ob hh0 htx (show RTg[0]? = some (0, 0, 0, fsX0) from rfl) (zCX0 hKn.1)) (fun U hU hW => ⟨rfl, by rw [hU]; exact hh0.l0, zKb s U hW.alike hKn, by rw [hU]; exact hJ⟩) hh0.2.2.1 hl80.1 (Nat.le_of_ble_eq_true rfl) (eX8_settle (139, .invokevirtual 121, 3) (List.mem_of_getElem? (i := 70) rfl)) (fun r86 s86 t86 lo86 g86 f86 l86 => ?_)
            obtain ⟨v86, q86, e86, z86, c86, j86, fx86⟩ := f86
            cases q86
            rw [g86] at c86 fx86
            have fr86 : ∀ p9 : Nat, p9 ∉ [tx] → t86.heap[p9]? = s.heap[p9]? := fun p9 h9 => (fx86 p9 (fun q => h9 (by rw [List.mem_singleton.mp q]; exact List.mem_cons_self))).trans (fr0 p9 h9)
            have hh86 : zh_ok D cA RTg ro sz H0 t86.heap lo86 := ⟨z86.1, z86.2.1, l86, z86.2.2.2⟩
            have kp86 := kp0.trans (c86.mono (ms' := uM) (by decide))
            have e86 : v86.toInt = NONEI := e86
            have j86 : jU D cA ro t86.heap tx T (blF (f 0) sg) := by rw [← show v85.toInt = f 0 by omega]; exact j86
            have mf86_tx_0 := (c86.1 tx 0 0 0 0 fsX0 htx rfl (by decide) (by decide)).trans f0
            have mf86_tx_1 := (c86.1 tx 0 1 0 0 fsX0 htx rfl (by decide) (by decide)).trans f1
            have mf86_tm_3 := (c86.1 tm 7 3 7 0 fsX8 htm rfl (by decide) (by decide)).trans fa28
            have mf86_tm_5 := (c86.1 tm 7 5 7 0 fsX8 htm rfl (by decide) (by decide)).trans fa45
            have mf86_tm_6 := (c86.1 tm 7 6 7 0 fsX8 htm rfl (by decide) (by decide)).trans fa62
            have mf86_tm_1 := (c86.1 tm 7 1 7 0 fsX8 htm rfl (by decide) (by decide)).trans fa81
            have mf86_tm_0 := (c86.1 tm 7 0 7 0 fsX8 htm rfl (by decide) (by decide)).trans fa85
            refine W.eq (g2 := F0 m 142 ls80 [.long v86]) rfl ?_
            refine lv_pop2_2 hx hb (eX8_settle (142, .pop2, 1) (List.mem_of_getElem? (i := 71) rfl)) rfl ?_
            refine lv_goto hx hb (eX8_settle (143, .goto 84, 3) (List.mem_of_getElem? (i := 72) rfl)) (tgt := 227) rfl ?_
            have hfin : tqF L day f sg = blF (f 0) sg := by first | (simp only [tqF, tq2F, if_pos d84, up_eq]; done) | (simp only [tqF, tq2F, if_pos d84, up_eq] <;> rfl) | rfl
            exact W.vret hx hb hr (fun t ht hW => ⟨rfl, by rw [ht]; exact hh86.l0, by rw [ht]; exact kp86, by rw [ht, hfin]; exact j86, by rw [ht]; exact fr86⟩) hh86.2.2.1 (eX8_settle (227, .return_, 1) (List.mem_of_getElem? (i := 112) rfl))
          · skip
            refine lv_aload_n hx hb (eX8_settle (112, .aload_n 0, 1) (List.mem_of_getElem? (i := 57) rfl)) rfl (lv_at hl80 2 rfl) ?_
            refine tz_get (r := 7) (k := 1) (t := (0, (-2147483648), 2147483647)) hx hb hh0 htm rfl rfl (hcl7 15 1 (0, (-2147483648), 2147483647) (by decide) rfl).1 fa81 (eX8_settle (113, .getfield 15, 3) (List.mem_of_getElem? (i := 58) rfl)) ?_
            refine ff_bipush hx hb (eX8_settle (116, .bipush 24, 2) (List.mem_of_getElem? (i := 59) rfl)) (by decide) (by decide) (fun v87 e87 => ?_)
            refine ff_icmp_ne hx hb (eX8_settle (118, .if_icmp .ne 28, 3) (List.mem_of_getElem? (i := 60) rfl)) (tgt := 146) rfl (fun c88 => ?_) (fun c88 => ?_)
            · skip
              have d89 : ¬ (24 < f 1 ∨ (f 1 = 24 ∧ (¬ (f 3 = 0 ∧ f 5 = 0 ∧ f 6 = 0) ∨ day = 364522971))) := by omega
              exact jn146 lv ls80 _ hh0 (by omega) (by first | (simp only [tqF, if_neg d89, up_eq]; done) | (simp only [tqF, if_neg d89, up_eq] <;> rfl) | rfl) (lv_sub hl80 [1, 2, 3, 4, 5] rfl)
            · skip
              refine lv_iload hx hb (eX8_settle (121, .iload 7, 2) (List.mem_of_getElem? (i := 61) rfl)) (lv_at hl80 0 rfl) ?_
              refine ff_if_eq hx hb (eX8_settle (123, .ifCond .eq 11, 3) (List.mem_of_getElem? (i := 62) rfl)) (tgt := 134) rfl (fun c90 => (by exfalso; omega)) (fun c90 => ?_)
              refine lv_lload_n hx hb (eX8_settle (126, .lload_n 2, 1) (List.mem_of_getElem? (i := 63) rfl)) rfl (lv_at hl80 4 rfl) ?_
              refine ff_ldc2 (n := 364522971) hx hb hown h2 (clX8_ok 119 364522971 (List.mem_of_getElem? (i := 2) rfl)) (eX8_settle (127, .ldc2_w 119, 3) (List.mem_of_getElem? (i := 64) rfl)) (fun v91 e91 => ?_)
              refine ff_lcmp hx hb (eX8_settle (130, .lcmp, 1) (List.mem_of_getElem? (i := 65) rfl)) (fun v92 e92 => ?_)
              refine ff_if_ne hx hb (eX8_settle (131, .ifCond .ne 15, 3) (List.mem_of_getElem? (i := 66) rfl)) (tgt := 146) rfl (fun c93 => ?_) (fun c93 => ?_)
              · skip
                have d94 : ¬ (24 < f 1 ∨ (f 1 = 24 ∧ (¬ (f 3 = 0 ∧ f 5 = 0 ∧ f 6 = 0) ∨ day = 364522971))) := by omega
                exact jn146 lv ls80 _ hh0 (by omega) (by first | (simp only [tqF, if_neg d94, up_eq]; done) | (simp only [tqF, if_neg d94, up_eq] <;> rfl) | rfl) (lv_sub hl80 [1, 2, 3, 4, 5] rfl)
              · skip
                have d95 : 24 < f 1 ∨ (f 1 = 24 ∧ (¬ (f 3 = 0 ∧ f 5 = 0 ∧ f 6 = 0) ∨ day = 364522971)) := by omega
                refine lv_aload_n hx hb (eX8_settle (134, .aload_n 1, 1) (List.mem_of_getElem? (i := 67) rfl)) rfl (lv_at hl80 3 rfl) ?_
                refine lv_aload_n hx hb (eX8_settle (135, .aload_n 0, 1) (List.mem_of_getElem? (i := 68) rfl)) rfl (lv_at hl80 2 rfl) ?_
                obtain ⟨v96, fa96, e96⟩ := jd0 0 (by decide)
                have e96 : v96.toInt = f 0 := e96
                refine tz_get (r := 7) (k := 0) (t := (0, (-2147483648), 2147483647)) hx hb hh0 htm rfl rfl (hcl7 9 0 (0, (-2147483648), 2147483647) (by decide) rfl).1 fa96 (eX8_settle (136, .getfield 9, 3) (List.mem_of_getElem? (i := 69) rfl)) ?_
                refine tz_rowV (As := [.int v96]) (st := []) (b := tx) (C := RX0) (Ts := gT) hx hb hml hown h2 (fun _ h => h) (hX0_blameN l D cA ro sz H0 tx v96 T (sg) htx) ⟨rfl, rfl⟩ ⟨by decide, by decide⟩ ⟨by decide, by decide⟩ (tb_4 64 rfl rfl) (tb_1 5 rfl rfl) (tb_5 68 rfl rfl) (tb_4 62 rfl rfl) (tb_4 63 rfl rfl) (show yX0_blame.cls ≠ "java/lang/invoke/MethodHandle" ∧ yX0_blame.cls ≠ "java/lang/invoke/VarHandle" ∧ (parseMethodDescriptor yX0_blame.desc).map (fun d => d.parameters.length) = some 1 by decide +kernel) zs_blind (zs_ob hh0 htx (show RTg[0]? = some (0, 0, 0, fsX0) from rfl) (zCX0 hKn.1)) (fun U hU hW => ⟨rfl, by rw [hU]; exact hh0.l0, zKb s U hW.alike hKn, by rw [hU]; exact hJ⟩) hh0.2.2.1 hl80.1 (Nat.le_of_ble_eq_true rfl) (eX8_settle (139, .invokevirtual 121, 3) (List.mem_of_getElem? (i := 70) rfl)) (fun r97 s97 t97 lo97 g97 f97 l97 => ?_)
                obtain ⟨v97, q97, e97, z97, c97, j97, fx97⟩ := f97
                cases q97
                rw [g97] at c97 fx97
                have fr97 : ∀ p9 : Nat, p9 ∉ [tx] → t97.heap[p9]? = s.heap[p9]? := fun p9 h9 => (fx97 p9 (fun q => h9 (by rw [List.mem_singleton.mp q]; exact List.mem_cons_self))).trans (fr0 p9 h9)
                have hh97 : zh_ok D cA RTg ro sz H0 t97.heap lo97 := ⟨z97.1, z97.2.1, l97, z97.2.2.2⟩
                have kp97 := kp0.trans (c97.mono (ms' := uM) (by decide))
                have e97 : v97.toInt = NONEI := e97
                have j97 : jU D cA ro t97.heap tx T (blF (f 0) sg) := by rw [← show v96.toInt = f 0 by omega]; exact j97
                have mf97_tx_0 := (c97.1 tx 0 0 0 0 fsX0 htx rfl (by decide) (by decide)).trans f0
                have mf97_tx_1 := (c97.1 tx 0 1 0 0 fsX0 htx rfl (by decide) (by decide)).trans f1
                have mf97_tm_3 := (c97.1 tm 7 3 7 0 fsX8 htm rfl (by decide) (by decide)).trans fa28
                have mf97_tm_5 := (c97.1 tm 7 5 7 0 fsX8 htm rfl (by decide) (by decide)).trans fa45
                have mf97_tm_6 := (c97.1 tm 7 6 7 0 fsX8 htm rfl (by decide) (by decide)).trans fa62
                have mf97_tm_1 := (c97.1 tm 7 1 7 0 fsX8 htm rfl (by decide) (by decide)).trans fa81
                have mf97_tm_0 := (c97.1 tm 7 0 7 0 fsX8 htm rfl (by decide) (by decide)).trans fa96
                refine W.eq (g2 := F0 m 142 ls80 [.long v97]) rfl ?_
                refine lv_pop2_2 hx hb (eX8_settle (142, .pop2, 1) (List.mem_of_getElem? (i := 71) rfl)) rfl ?_
                refine lv_goto hx hb (eX8_settle (143, .goto 84, 3) (List.mem_of_getElem? (i := 72) rfl)) (tgt := 227) rfl ?_
                have hfin : tqF L day f sg = blF (f 0) sg := by first | (simp only [tqF, tq2F, if_pos d95, up_eq]; done) | (simp only [tqF, tq2F, if_pos d95, up_eq] <;> rfl) | rfl
                exact W.vret hx hb hr (fun t ht hW => ⟨rfl, by rw [ht]; exact hh97.l0, by rw [ht]; exact kp97, by rw [ht, hfin]; exact j97, by rw [ht]; exact fr97⟩) hh97.2.2.1 (eX8_settle (227, .return_, 1) (List.mem_of_getElem? (i := 112) rfl))
  refine lv_aload_n hx hb (eX8_settle (0, .aload_n 0, 1) (List.mem_of_getElem? (i := 0) rfl)) rfl (lv_at hl 0 rfl) ?_
  obtain ⟨v98, fa98, e98⟩ := jd0 11 (by decide)
  have e98 : v98.toInt = f 11 := e98
  refine tz_get (r := 7) (k := 11) (t := (0, (-2147483648), 2147483647)) hx hb hh htm rfl rfl (hcl7 46 11 (0, (-2147483648), 2147483647) (by decide) rfl).1 fa98 (eX8_settle (1, .getfield 46, 3) (List.mem_of_getElem? (i := 1) rfl)) ?_
  refine ff_bipush hx hb (eX8_settle (4, .bipush 23, 2) (List.mem_of_getElem? (i := 2) rfl)) (by decide) (by decide) (fun v99 e99 => ?_)
  refine ff_icmp_gt hx hb (eX8_settle (6, .if_icmp .gt 16, 3) (List.mem_of_getElem? (i := 3) rfl)) (tgt := 22) rfl (fun c100 => ?_) (fun c100 => ?_)
  · skip
    refine ff_iconst hx hb (eX8_settle (22, .iconst 0, 1) (List.mem_of_getElem? (i := 10) rfl)) (by decide) (by decide) (fun v101 e101 => ?_)
    refine lv_istore hx hb (eX8_settle (23, .istore 5, 2) (List.mem_of_getElem? (i := 11) rfl)) hl (by decide) rfl (fun ls102 hl102 => ?_)
    refine ff_bipush hx hb (eX8_settle (25, .bipush 59, 2) (List.mem_of_getElem? (i := 12) rfl)) (by decide) (by decide) (fun v103 e103 => ?_)
    refine lv_istore hx hb (eX8_settle (27, .istore 6, 2) (List.mem_of_getElem? (i := 13) rfl)) hl102 (by decide) rfl (fun ls104 hl104 => ?_)
    refine lv_iload hx hb (eX8_settle (29, .iload 5, 2) (List.mem_of_getElem? (i := 14) rfl)) (lv_at hl104 1 rfl) ?_
    refine ff_if_eq hx hb (eX8_settle (31, .ifCond .eq 44, 3) (List.mem_of_getElem? (i := 15) rfl)) (tgt := 75) rfl (fun c105 => ?_) (fun c105 => (by exfalso; omega))
    exact jn75 v103 ls104 _ hh (by unfold lsF9; rw [if_neg (by omega)]; omega) (lv_sub hl104 [0, 2, 3, 4, 5] rfl)
  · skip
    refine lv_aload_n hx hb (eX8_settle (9, .aload_n 0, 1) (List.mem_of_getElem? (i := 4) rfl)) rfl (lv_at hl 0 rfl) ?_
    obtain ⟨v106, fa106, e106⟩ := jd0 13 (by decide)
    have e106 : v106.toInt = f 13 := e106
    refine tz_get (r := 7) (k := 13) (t := (0, (-2147483648), 2147483647)) hx hb hh htm rfl rfl (hcl7 52 13 (0, (-2147483648), 2147483647) (by decide) rfl).1 fa106 (eX8_settle (10, .getfield 52, 3) (List.mem_of_getElem? (i := 5) rfl)) ?_
    refine ff_bipush hx hb (eX8_settle (13, .bipush 59, 2) (List.mem_of_getElem? (i := 6) rfl)) (by decide) (by decide) (fun v107 e107 => ?_)
    refine ff_icmp_gt hx hb (eX8_settle (15, .if_icmp .gt 7, 3) (List.mem_of_getElem? (i := 7) rfl)) (tgt := 22) rfl (fun c108 => ?_) (fun c108 => ?_)
    · skip
      refine ff_iconst hx hb (eX8_settle (22, .iconst 0, 1) (List.mem_of_getElem? (i := 10) rfl)) (by decide) (by decide) (fun v109 e109 => ?_)
      refine lv_istore hx hb (eX8_settle (23, .istore 5, 2) (List.mem_of_getElem? (i := 11) rfl)) hl (by decide) rfl (fun ls110 hl110 => ?_)
      refine ff_bipush hx hb (eX8_settle (25, .bipush 59, 2) (List.mem_of_getElem? (i := 12) rfl)) (by decide) (by decide) (fun v111 e111 => ?_)
      refine lv_istore hx hb (eX8_settle (27, .istore 6, 2) (List.mem_of_getElem? (i := 13) rfl)) hl110 (by decide) rfl (fun ls112 hl112 => ?_)
      refine lv_iload hx hb (eX8_settle (29, .iload 5, 2) (List.mem_of_getElem? (i := 14) rfl)) (lv_at hl112 1 rfl) ?_
      refine ff_if_eq hx hb (eX8_settle (31, .ifCond .eq 44, 3) (List.mem_of_getElem? (i := 15) rfl)) (tgt := 75) rfl (fun c113 => ?_) (fun c113 => (by exfalso; omega))
      exact jn75 v111 ls112 _ hh (by unfold lsF9; rw [if_neg (by omega)]; omega) (lv_sub hl112 [0, 2, 3, 4, 5] rfl)
    · skip
      refine ff_iconst hx hb (eX8_settle (18, .iconst 1, 1) (List.mem_of_getElem? (i := 8) rfl)) (by decide) (by decide) (fun v114 e114 => ?_)
      refine lv_goto hx hb (eX8_settle (19, .goto 4, 3) (List.mem_of_getElem? (i := 9) rfl)) (tgt := 23) rfl ?_
      refine lv_istore hx hb (eX8_settle (23, .istore 5, 2) (List.mem_of_getElem? (i := 11) rfl)) hl (by decide) rfl (fun ls115 hl115 => ?_)
      refine ff_bipush hx hb (eX8_settle (25, .bipush 59, 2) (List.mem_of_getElem? (i := 12) rfl)) (by decide) (by decide) (fun v116 e116 => ?_)
      refine lv_istore hx hb (eX8_settle (27, .istore 6, 2) (List.mem_of_getElem? (i := 13) rfl)) hl115 (by decide) rfl (fun ls117 hl117 => ?_)
      refine lv_iload hx hb (eX8_settle (29, .iload 5, 2) (List.mem_of_getElem? (i := 14) rfl)) (lv_at hl117 1 rfl) ?_
      refine ff_if_eq hx hb (eX8_settle (31, .ifCond .eq 44, 3) (List.mem_of_getElem? (i := 15) rfl)) (tgt := 75) rfl (fun c118 => (by exfalso; omega)) (fun c118 => ?_)
      refine lv_lload_n hx hb (eX8_settle (34, .lload_n 2, 1) (List.mem_of_getElem? (i := 16) rfl)) rfl (lv_at hl117 4 rfl) ?_
      refine ff_ldc2 (n := (-9223372036854775808)) hx hb hown h2 (clX8_ok 107 (-9223372036854775808) (List.mem_of_getElem? (i := 0) rfl)) (eX8_settle (35, .ldc2_w 107, 3) (List.mem_of_getElem? (i := 17) rfl)) (fun v119 e119 => ?_)
      refine ff_lcmp hx hb (eX8_settle (38, .lcmp, 1) (List.mem_of_getElem? (i := 18) rfl)) (fun v120 e120 => ?_)
      refine ff_if_eq hx hb (eX8_settle (39, .ifCond .eq 36, 3) (List.mem_of_getElem? (i := 19) rfl)) (tgt := 75) rfl (fun c121 => ?_) (fun c121 => ?_)
      · skip
        exact jn75 v116 ls117 _ hh (by unfold lsF9; rw [if_neg (by omega)]; omega) (lv_sub hl117 [0, 2, 3, 4, 5] rfl)
      · skip
        refine lv_aload hx hb (eX8_settle (42, .aload 4, 2) (List.mem_of_getElem? (i := 20) rfl)) (lv_at hl117 5 rfl) ?_
        refine lv_lload_n hx hb (eX8_settle (44, .lload_n 2, 1) (List.mem_of_getElem? (i := 21) rfl)) rfl (lv_at hl117 4 rfl) ?_
        refine ff_ldc2 (n := 1440) hx hb hown h2 (clX8_ok 109 1440 (List.mem_of_getElem? (i := 1) rfl)) (eX8_settle (45, .ldc2_w 109, 3) (List.mem_of_getElem? (i := 22) rfl)) (fun v122 e122 => ?_)
        have hdb : -365961662 ≤ day ∧ day ≤ 364522971 := hdy (by unfold NONEI; omega)
        refine ff_lmulR hx hb (eX8_settle (48, .lmul, 1) (List.mem_of_getElem? (i := 23) rfl)) (e122) (by omega) (by omega) (fun v123 e123 => ?_)
        refine lv_aload_n hx hb (eX8_settle (49, .aload_n 0, 1) (List.mem_of_getElem? (i := 24) rfl)) rfl (lv_at hl117 2 rfl) ?_
        obtain ⟨v124, fa124, e124⟩ := jd0 1 (by decide)
        have e124 : v124.toInt = f 1 := e124
        refine tz_get (r := 7) (k := 1) (t := (0, (-2147483648), 2147483647)) hx hb hh htm rfl rfl (hcl7 15 1 (0, (-2147483648), 2147483647) (by decide) rfl).1 fa124 (eX8_settle (50, .getfield 15, 3) (List.mem_of_getElem? (i := 25) rfl)) ?_
        refine ff_bipush hx hb (eX8_settle (53, .bipush 60, 2) (List.mem_of_getElem? (i := 26) rfl)) (by decide) (by decide) (fun v125 e125 => ?_)
        refine ff_imulR hx hb (eX8_settle (55, .imul, 1) (List.mem_of_getElem? (i := 27) rfl)) (e125) (by omega) (by omega) (fun v126 e126 => ?_)
        refine ff_i2l hx hb (eX8_settle (56, .i2l, 1) (List.mem_of_getElem? (i := 28) rfl)) (fun v127 e127 => ?_)
        refine ff_ladd hx hb (eX8_settle (57, .ladd, 1) (List.mem_of_getElem? (i := 29) rfl)) (by omega) (by omega) (fun v128 e128 => ?_)
        refine lv_aload_n hx hb (eX8_settle (58, .aload_n 0, 1) (List.mem_of_getElem? (i := 30) rfl)) rfl (lv_at hl117 2 rfl) ?_
        obtain ⟨v129, fa129, e129⟩ := jd0 3 (by decide)
        have e129 : v129.toInt = f 3 := e129
        refine tz_get (r := 7) (k := 3) (t := (0, (-2147483648), 2147483647)) hx hb hh htm rfl rfl (hcl7 21 3 (0, (-2147483648), 2147483647) (by decide) rfl).1 fa129 (eX8_settle (59, .getfield 21, 3) (List.mem_of_getElem? (i := 31) rfl)) ?_
        refine ff_i2l hx hb (eX8_settle (62, .i2l, 1) (List.mem_of_getElem? (i := 32) rfl)) (fun v130 e130 => ?_)
        refine ff_ladd hx hb (eX8_settle (63, .ladd, 1) (List.mem_of_getElem? (i := 33) rfl)) (by omega) (by omega) (fun v131 e131 => ?_)
        refine lv_aload_n hx hb (eX8_settle (64, .aload_n 0, 1) (List.mem_of_getElem? (i := 34) rfl)) rfl (lv_at hl117 2 rfl) ?_
        refine tz_rowV (As := []) (st := [.long v131, .ref lp]) (b := tm) (C := RX8) (Ts := gT) hx hb hml hown h2 (fun _ h => h) (hX8_offsetTold l D cA ro sz H0 tm f htm (by omega) (by omega) hf9) ⟨rfl, rfl⟩ ⟨by decide, by decide⟩ ⟨by decide, by decide⟩ (tb_5 65 rfl rfl) (tb_1 9 rfl rfl) (tb_5 62 rfl rfl) (tb_5 63 rfl rfl) (tb_5 64 rfl rfl) (show yX8_offsetTold.cls ≠ "java/lang/invoke/MethodHandle" ∧ yX8_offsetTold.cls ≠ "java/lang/invoke/VarHandle" ∧ (parseMethodDescriptor yX8_offsetTold.desc).map (fun d => d.parameters.length) = some 0 by decide +kernel) zs_blind (zs_ob hh htm (show RTg[7]? = some (0, 7, 0, fsX8) from rfl) (zCX8 hKn.1)) (fun U hU hW => ⟨rfl, by rw [hU]; exact hh.l0, zKb s U hW.alike hKn, by rw [hU]; exact jd0⟩) hh.2.2.1 hl117.1 (Nat.le_of_ble_eq_true rfl) (eX8_settle (65, .invokevirtual 104, 3) (List.mem_of_getElem? (i := 35) rfl)) (fun r132 s132 t132 lo132 g132 f132 l132 => ?_)
        obtain ⟨z132, v132, q132, e132⟩ := f132
        cases q132
        rw [z132, g132]
        have hh132 : zh_ok D cA RTg ro sz H0 s.heap lo132 := ⟨hh.1, hh.2.1, l132, hh.2.2.2⟩
        refine W.eq (g2 := F0 m 68 ls117 [.int v132, .long v131, .ref lp]) rfl ?_
        refine ff_i2l hx hb (eX8_settle (68, .i2l, 1) (List.mem_of_getElem? (i := 36) rfl)) (fun v133 e133 => ?_)
        refine ff_lsub hx hb (eX8_settle (69, .lsub, 1) (List.mem_of_getElem? (i := 37) rfl)) (by omega) (by omega) (fun v134 e134 => ?_)
        refine tz_rowV (As := [.long v134]) (st := []) (b := lp) (C := RX5) (Ts := gT) hx hb hml hown h2 (fun _ h => h) (hX5_lastSecondOf l D cA ro sz H0 lp v134 L hlp (by omega) (by omega)) ⟨rfl, rfl⟩ ⟨by decide, by decide⟩ ⟨by decide, by decide⟩ (tb_3 114 rfl rfl) (tb_1 2 rfl rfl) (tb_5 66 rfl rfl) (tb_3 112 rfl rfl) (tb_3 113 rfl rfl) (show yX5_lastSecondOf.cls ≠ "java/lang/invoke/MethodHandle" ∧ yX5_lastSecondOf.cls ≠ "java/lang/invoke/VarHandle" ∧ (parseMethodDescriptor yX5_lastSecondOf.desc).map (fun d => d.parameters.length) = some 1 by decide +kernel) zs_blind (zs_ob hh132 hlp (show RTg[4]? = some (0, 4, 0, fsX5) from rfl) (zCX5 hKn.1)) (fun U hU hW => ⟨rfl, by rw [hU]; exact hh132.l0, zKb s U hW.alike hKn, by rw [hU]; exact jl0⟩) hh132.2.2.1 hl117.1 (Nat.le_of_ble_eq_true rfl) (eX8_settle (70, .invokevirtual 111, 3) (List.mem_of_getElem? (i := 38) rfl)) (fun r135 s135 t135 lo135 g135 f135 l135 => ?_)
        obtain ⟨z135, v135, q135, e135⟩ := f135
        cases q135
        rw [z135, g135]
        have hh135 : zh_ok D cA RTg ro sz H0 s.heap lo135 := ⟨hh132.1, hh132.2.1, l135, hh132.2.2.2⟩
        have hmn : v134.toInt = day * 1440 + f 1 * 60 + f 3 - otF f := by omega
        refine W.eq (g2 := F0 m 73 ls117 [.int v135]) rfl ?_
        refine lv_istore hx hb (eX8_settle (73, .istore 6, 2) (List.mem_of_getElem? (i := 39) rfl)) hl117 (by decide) rfl (fun ls136 hl136 => ?_)
        exact jn75 v135 ls136 _ hh135 (by unfold lsF9; rw [if_pos ⟨⟨by omega, by omega⟩, by omega⟩]; unfold lsR; rcases e135 with h | h; (rw [if_pos (by rw [← hmn]; exact h.2)]; exact h.1); (rw [if_neg (by rw [← hmn]; exact h.2)]; exact h.1)) (lv_sub hl136 [0, 2, 3, 4, 5] rfl)
