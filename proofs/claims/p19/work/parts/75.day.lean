/-! day(), exactly -/
theorem tz_i {ro : Nat → Option Nat} {y : Int32} {lo hi : Int} (h1 : lo ≤ y.toInt) (h2 : y.toInt ≤ hi) : zt_ok ro (.int y) (0, lo, hi) := ⟨y, rfl, h1, h2⟩
theorem tz_l {ro : Nat → Option Nat} {y : Int64} {lo hi : Int} (h1 : lo ≤ y.toInt) (h2 : y.toInt ≤ hi) : zt_ok ro (.long y) (1, lo, hi) := ⟨y, rfl, h1, h2⟩
def dvI (y m d : Int) : Prop := -999999 ≤ y ∧ y ≤ 999999 ∧ 1 ≤ m ∧ m ≤ 12 ∧ 1 ≤ d ∧ d ≤ mlI y m
def zd_Pc (D : va_G) (cA : Nat → ClassId) (ro : Nat → Option Nat) (sz : Nat) (H0 : Heap) (vs : List Value) : Array Value → State → Prop := fun a U => a = vs.toArray ∧ zh_ok D cA RTg ro sz H0 U.heap [] ∧ zKn D cA ro sz H0 U
theorem zd_blind {D : va_G} {cA : Nat → ClassId} {ro : Nat → Option Nat} {sz : Nat} {H0 : Heap} {vs : List Value} : FrameBlind (zd_Pc D cA ro sz H0 vs) := by
  intro a U g mk h
  obtain ⟨h1, h2, h3⟩ := h
  exact ⟨h1, h2, zKb U (U.calling g mk a) (Vm.Alike.refl U.vm) h3⟩
def zd_Qc (D : va_G) (cA : Nat → ClassId) (ro : Nat → Option Nat) (sz : Nat) (H0 : Heap) (a : Nat) (y mo dd : Int) : Array Value → State → Outcome → State → Prop := fun _ st oc t => ∃ (r : Int64) (w : Int32), oc = .returned (some (.long r)) ∧ zh_ok D cA RTg ro sz H0 t.heap [] ∧ (∀ q : Nat, q ≠ a → t.heap[q]? = st.heap[q]?) ∧ zh_f D t.heap a 11 0 = .int w ∧ ((w.toInt = 0 ∧ dvI y mo dd ∧ r.toInt = nuI y mo dd) ∨ (w.toInt = 1 ∧ ¬ dvI y mo dd))
/-- the class's: what it needs, gives, and throws -/
def zd_PX (D : va_G) (cA : Nat → ClassId) (ro : Nat → Option Nat) (sz : Nat) (H0 : Heap) (vs : List Value) : Array Value → State → Prop := fun a U => a = vs.toArray ∧ zh_ok D cA RTg ro sz H0 U.heap [] ∧ zKx D cA ro sz H0 U ∧ zBM cA U
theorem zd_blindX {D : va_G} {cA : Nat → ClassId} {ro : Nat → Option Nat} {sz : Nat} {H0 : Heap} {vs : List Value} : FrameBlind (zd_PX D cA ro sz H0 vs) := by
  intro a U g mk h
  obtain ⟨h1, h2, h3, h4⟩ := h
  exact ⟨h1, h2, zKx.same (s := U) (U := U.calling g mk a) rfl h3, zBM_B.1 U (U.calling g mk a) rfl rfl h4⟩
def zd_QX (y mo dd : Int) : Array Value → State → Outcome → State → Prop := fun _ st oc t => ∃ r : Int64, oc = .returned (some (.long r)) ∧ t.heap = st.heap ∧ dvI y mo dd ∧ r.toInt = nuI y mo dd
def zd_XX (D : va_G) (cA : Nat → ClassId) (ro : Nat → Option Nat) (sz : Nat) (H0 : Heap) (y mo dd : Int) : String → State → State → Prop := fun E _ t => E = eI ∧ ¬ dvI y mo dd ∧ zh_ok D cA RTg ro sz H0 t.heap []
/-- the wrapper's -/
def zd_PL (D : va_G) (cA : Nat → ClassId) (ro : Nat → Option Nat) (sz : Nat) (H0 : Heap) (vs : List Value) : Array Value → State → Prop := fun a U => a = vs.toArray ∧ zh_ok D cA RTg ro sz H0 U.heap [] ∧ zKa D cA ro sz H0 U ∧ zBM cA U
theorem zd_blindL {D : va_G} {cA : Nat → ClassId} {ro : Nat → Option Nat} {sz : Nat} {H0 : Heap} {vs : List Value} : FrameBlind (zd_PL D cA ro sz H0 vs) := by
  intro a U g mk h
  obtain ⟨h1, h2, h3, h4⟩ := h
  exact ⟨h1, h2, zKa.same (s := U) (U := U.calling g mk a) rfl h3, zBM_B.1 U (U.calling g mk a) rfl rfl h4⟩
def zd_QL (D : va_G) (cA : Nat → ClassId) (ro : Nat → Option Nat) (sz : Nat) (H0 : Heap) (o : Nat) (y mo dd : Int) : Array Value → State → Outcome → State → Prop := fun _ _ oc t => ∃ k : Int32, oc = .returned (some (.int k)) ∧ zh_ok D cA RTg ro sz H0 t.heap [] ∧ ((k.toInt = 0 ∧ dvI y mo dd ∧ ∃ (z : Nat → Value) (r : Int64), t.heap[o]? = some (arrV (cA 1) 1 z) ∧ z 0 = .long r ∧ r.toInt = nuI y mo dd) ∨ (k.toInt = 1 ∧ ¬ dvI y mo dd))
set_option maxRecDepth 100000 in
set_option maxHeartbeats 4000000 in
theorem hX12_day (l : Launch) (D : va_G) (cA : Nat → ClassId) (ro : Nat → Option Nat) (sz : Nat) (H0 : Heap) (a : Nat) (y mo dd : Int32) (ha : ro a = some 11) : Met l yX12_day (gW yX12_day cX12_day 4 (some .long)) { frames := 2, cells := 0, slots := 0, locals := 56 } (zd_Pc D cA ro sz H0 [.ref a, .int y, .int mo, .int dd]) (zd_Qc D cA ro sz H0 a y.toInt mo.toInt dd.toInt) 0 0 (zy_fr sz) := by
  refine zy_ofW (cc := cX12_day) (maxL := 4) (ret := (some .long)) (by decide +kernel) rfl ?_
  intro p e s m args below meth c s1 B hml hv
  obtain ⟨rfl, hh, hKn⟩ := hv
  have hx := B.exec
  have hb := B.bytes
  have hr := B.returns
  have hlk := B.notSynchronized
  have hts0 := atoms_spec (ws := gW yX12_day cX12_day 4 (some .long)) B.pre
  have h2 : ∀ w ∈ gT, w.before ([.ref a, .int y, .int mo, .int dd] : List Value).toArray s = true := fun w hw => hts0 w (List.mem_cons_of_mem _ hw)
  have hown : s.vm.findClass RX12 = some m.cls := findClass_of_methodNamed B.named
  have hl := lv_entry [.ref a, .int y, .int mo, .int dd] (n := 4) (Nat.le_of_ble_eq_true rfl)
  rw [lg_entry_eq]
  generalize (lg_sl [.ref a, .int y, .int mo, .int dd] ++ List.replicate (4 - (lg_sl [.ref a, .int y, .int mo, .int dd]).length) Slot.unset).toArray = ls at hl ⊢
  have b_y := zn_i32 y
  have b_mo := zn_i32 mo
  have b_dd := zn_i32 dd
  have b_ml := mlI_bd y.toInt mo.toInt
  have hD := zD_all h2 hKn.1
  have hcl := zf_clause (ro := ro) (ms := [(11, 0)]) h2 hown hKn.1 gfX12_ok (by decide +kernel) 85 11 0 11 0 fsX12 (0, 0, 2) (by decide) rfl rfl
  have hgg := hcl.1
  have hgp := hcl.2 List.mem_cons_self
  refine lv_aload_n hx hb (eX12_day (0, .aload_n 0, 1) (List.mem_of_getElem? (i := 0) rfl)) rfl (lv_at hl 0 rfl) ?_
  refine lv_iload_n hx hb (eX12_day (1, .iload_n 1, 1) (List.mem_of_getElem? (i := 1) rfl)) rfl (lv_at hl 1 rfl) ?_
  refine ff_i2l hx hb (eX12_day (2, .i2l, 1) (List.mem_of_getElem? (i := 2) rfl)) (fun v1 e1 => ?_)
  refine zu_S (vs := [.long v1]) (rest := [.ref a]) hx hb hml hown hts0 zu_BT (hX12_isYear l v1) ⟨rfl, rfl⟩ ⟨by decide, by decide⟩ ⟨by decide, by decide⟩ (tb_7 44 rfl rfl) (tb_1 12 rfl rfl) (tb_7 42 rfl rfl) (tb_7 43 rfl rfl) (show yX12_isYear.cls ≠ "java/lang/invoke/MethodHandle" ∧ yX12_isYear.cls ≠ "java/lang/invoke/VarHandle" ∧ (parseMethodDescriptor yX12_isYear.desc).map (fun d => d.parameters.length) = some 1 by decide +kernel) rfl (fun _ _ _ => trivial) hl.1 (Nat.le_of_ble_eq_true rfl) (eX12_day (3, .invokestatic 150, 3) (List.mem_of_getElem? (i := 3) rfl)) (fun w2 f2 => ?_)
  obtain ⟨v2, rfl, e2⟩ := f2
  refine ff_if_eq hx hb (eX12_day (6, .ifCond .eq 47, 3) (List.mem_of_getElem? (i := 4) rfl)) (tgt := 53) rfl (fun c3 => ?_) (fun c3 => ?_)
  · skip
    refine ff_iconst hx hb (eX12_day (53, .iconst 1, 1) (List.mem_of_getElem? (i := 29) rfl)) (by decide) (by decide) (fun v4 e4 => ?_)
    refine lv_goto hx hb (eX12_day (54, .goto 4, 3) (List.mem_of_getElem? (i := 30) rfl)) (tgt := 58) rfl ?_
    refine tz_put (r := 11) (k := 0) (t := (0, 0, 2)) hx hb hD hh ha rfl rfl hgp (tz_i (by omega) (by omega)) (eX12_day (58, .putfield 85, 3) (List.mem_of_getElem? (i := 32) rfl)) (fun H5 lo5 hh5 hf5 _ _ hq5 => ?_)
    refine lv_aload_n hx hb (eX12_day (61, .aload_n 0, 1) (List.mem_of_getElem? (i := 33) rfl)) rfl (lv_at hl 0 rfl) ?_
    refine tz_get (r := 11) (k := 0) (t := (0, 0, 2)) hx hb hh5 ha rfl rfl hgg hf5 (eX12_day (62, .getfield 85, 3) (List.mem_of_getElem? (i := 34) rfl)) ?_
    refine ff_if_le hx hb (eX12_day (65, .ifCond .le 7, 3) (List.mem_of_getElem? (i := 35) rfl)) (tgt := 72) rfl (fun c6 => (by exfalso; omega)) (fun c6 => ?_)
    refine ff_lconst hx hb (eX12_day (68, .lconst 0, 1) (List.mem_of_getElem? (i := 36) rfl)) rfl (fun v7 e7 => ?_)
    refine lv_goto hx hb (eX12_day (69, .goto 10, 3) (List.mem_of_getElem? (i := 37) rfl)) (tgt := 79) rfl ?_
    exact W.lret hx hb hr (fun t ht hW => ⟨_, _, rfl, by rw [ht]; exact hh5.l0, fun q hq => by rw [ht]; exact hq5 q hq, by rw [ht]; exact hf5, by unfold dvI; omega⟩) hh5.2.2.1 (eX12_day (79, .lreturn, 1) (List.mem_of_getElem? (i := 43) rfl))
  · skip
    refine lv_iload_n hx hb (eX12_day (9, .iload_n 2, 1) (List.mem_of_getElem? (i := 5) rfl)) rfl (lv_at hl 2 rfl) ?_
    refine ff_i2l hx hb (eX12_day (10, .i2l, 1) (List.mem_of_getElem? (i := 6) rfl)) (fun v8 e8 => ?_)
    refine ff_lconst hx hb (eX12_day (11, .lconst 1, 1) (List.mem_of_getElem? (i := 7) rfl)) rfl (fun v9 e9 => ?_)
    refine ff_ldc2 (n := 12) hx hb hown h2 (clX12_ok 153 12 (List.mem_of_getElem? (i := 17) rfl)) (eX12_day (12, .ldc2_w 153, 3) (List.mem_of_getElem? (i := 8) rfl)) (fun v10 e10 => ?_)
    refine zu_S (vs := [.long v8, .long v9, .long v10]) (rest := [.ref a]) hx hb hml hown hts0 zu_BT (hX12_isIn l v8 v9 v10) ⟨rfl, rfl⟩ ⟨by decide, by decide⟩ ⟨by decide, by decide⟩ (tb_7 47 rfl rfl) (tb_1 12 rfl rfl) (tb_7 45 rfl rfl) (tb_7 46 rfl rfl) (show yX12_isIn.cls ≠ "java/lang/invoke/MethodHandle" ∧ yX12_isIn.cls ≠ "java/lang/invoke/VarHandle" ∧ (parseMethodDescriptor yX12_isIn.desc).map (fun d => d.parameters.length) = some 3 by decide +kernel) rfl (fun _ _ _ => trivial) hl.1 (Nat.le_of_ble_eq_true rfl) (eX12_day (15, .invokestatic 130, 3) (List.mem_of_getElem? (i := 9) rfl)) (fun w11 f11 => ?_)
    obtain ⟨v11, rfl, e11⟩ := f11
    refine ff_if_eq hx hb (eX12_day (18, .ifCond .eq 35, 3) (List.mem_of_getElem? (i := 10) rfl)) (tgt := 53) rfl (fun c12 => ?_) (fun c12 => ?_)
    · skip
      refine ff_iconst hx hb (eX12_day (53, .iconst 1, 1) (List.mem_of_getElem? (i := 29) rfl)) (by decide) (by decide) (fun v13 e13 => ?_)
      refine lv_goto hx hb (eX12_day (54, .goto 4, 3) (List.mem_of_getElem? (i := 30) rfl)) (tgt := 58) rfl ?_
      refine tz_put (r := 11) (k := 0) (t := (0, 0, 2)) hx hb hD hh ha rfl rfl hgp (tz_i (by omega) (by omega)) (eX12_day (58, .putfield 85, 3) (List.mem_of_getElem? (i := 32) rfl)) (fun H14 lo14 hh14 hf14 _ _ hq14 => ?_)
      refine lv_aload_n hx hb (eX12_day (61, .aload_n 0, 1) (List.mem_of_getElem? (i := 33) rfl)) rfl (lv_at hl 0 rfl) ?_
      refine tz_get (r := 11) (k := 0) (t := (0, 0, 2)) hx hb hh14 ha rfl rfl hgg hf14 (eX12_day (62, .getfield 85, 3) (List.mem_of_getElem? (i := 34) rfl)) ?_
      refine ff_if_le hx hb (eX12_day (65, .ifCond .le 7, 3) (List.mem_of_getElem? (i := 35) rfl)) (tgt := 72) rfl (fun c15 => (by exfalso; omega)) (fun c15 => ?_)
      refine ff_lconst hx hb (eX12_day (68, .lconst 0, 1) (List.mem_of_getElem? (i := 36) rfl)) rfl (fun v16 e16 => ?_)
      refine lv_goto hx hb (eX12_day (69, .goto 10, 3) (List.mem_of_getElem? (i := 37) rfl)) (tgt := 79) rfl ?_
      exact W.lret hx hb hr (fun t ht hW => ⟨_, _, rfl, by rw [ht]; exact hh14.l0, fun q hq => by rw [ht]; exact hq14 q hq, by rw [ht]; exact hf14, by unfold dvI; omega⟩) hh14.2.2.1 (eX12_day (79, .lreturn, 1) (List.mem_of_getElem? (i := 43) rfl))
    · skip
      refine lv_iload_n hx hb (eX12_day (21, .iload_n 3, 1) (List.mem_of_getElem? (i := 11) rfl)) rfl (lv_at hl 3 rfl) ?_
      refine ff_i2l hx hb (eX12_day (22, .i2l, 1) (List.mem_of_getElem? (i := 12) rfl)) (fun v17 e17 => ?_)
      refine ff_lconst hx hb (eX12_day (23, .lconst 1, 1) (List.mem_of_getElem? (i := 13) rfl)) rfl (fun v18 e18 => ?_)
      refine lv_iload_n hx hb (eX12_day (24, .iload_n 1, 1) (List.mem_of_getElem? (i := 14) rfl)) rfl (lv_at hl 1 rfl) ?_
      refine ff_i2l hx hb (eX12_day (25, .i2l, 1) (List.mem_of_getElem? (i := 15) rfl)) (fun v19 e19 => ?_)
      refine lv_iload_n hx hb (eX12_day (26, .iload_n 2, 1) (List.mem_of_getElem? (i := 16) rfl)) rfl (lv_at hl 2 rfl) ?_
      refine ff_i2l hx hb (eX12_day (27, .i2l, 1) (List.mem_of_getElem? (i := 17) rfl)) (fun v20 e20 => ?_)
      refine ff_lconst hx hb (eX12_day (28, .lconst 1, 1) (List.mem_of_getElem? (i := 18) rfl)) rfl (fun v21 e21 => ?_)
      refine ff_ldc2 (n := 12) hx hb hown h2 (clX12_ok 153 12 (List.mem_of_getElem? (i := 17) rfl)) (eX12_day (29, .ldc2_w 153, 3) (List.mem_of_getElem? (i := 19) rfl)) (fun v22 e22 => ?_)
      refine zu_S (vs := [.long v20, .long v21, .long v22]) (rest := [.long v19, .long v18, .long v17, .ref a]) hx hb hml hown hts0 zu_BT (hX12_isIn l v20 v21 v22) ⟨rfl, rfl⟩ ⟨by decide, by decide⟩ ⟨by decide, by decide⟩ (tb_7 47 rfl rfl) (tb_1 12 rfl rfl) (tb_7 45 rfl rfl) (tb_7 46 rfl rfl) (show yX12_isIn.cls ≠ "java/lang/invoke/MethodHandle" ∧ yX12_isIn.cls ≠ "java/lang/invoke/VarHandle" ∧ (parseMethodDescriptor yX12_isIn.desc).map (fun d => d.parameters.length) = some 3 by decide +kernel) rfl (fun _ _ _ => trivial) hl.1 (Nat.le_of_ble_eq_true rfl) (eX12_day (32, .invokestatic 130, 3) (List.mem_of_getElem? (i := 20) rfl)) (fun w23 f23 => ?_)
      obtain ⟨v23, rfl, e23⟩ := f23
      refine ff_if_eq hx hb (eX12_day (35, .ifCond .eq 7, 3) (List.mem_of_getElem? (i := 21) rfl)) (tgt := 42) rfl (fun c24 => (by exfalso; omega)) (fun c24 => ?_)
      refine lv_iload_n hx hb (eX12_day (38, .iload_n 2, 1) (List.mem_of_getElem? (i := 22) rfl)) rfl (lv_at hl 2 rfl) ?_
      refine lv_goto hx hb (eX12_day (39, .goto 4, 3) (List.mem_of_getElem? (i := 23) rfl)) (tgt := 43) rfl ?_
      refine zu_S (vs := [.long v19, .int mo]) (rest := [.long v18, .long v17, .ref a]) hx hb hml hown hts0 zu_BT (hX12_daysOf l v19 mo (by omega) (by omega)) ⟨rfl, rfl⟩ ⟨by decide, by decide⟩ ⟨by decide, by decide⟩ (tb_7 51 rfl rfl) (tb_1 12 rfl rfl) (tb_7 49 rfl rfl) (tb_7 50 rfl rfl) (show yX12_daysOf.cls ≠ "java/lang/invoke/MethodHandle" ∧ yX12_daysOf.cls ≠ "java/lang/invoke/VarHandle" ∧ (parseMethodDescriptor yX12_daysOf.desc).map (fun d => d.parameters.length) = some 2 by decide +kernel) rfl (fun _ _ _ => trivial) hl.1 (Nat.le_of_ble_eq_true rfl) (eX12_day (43, .invokestatic 155, 3) (List.mem_of_getElem? (i := 25) rfl)) (fun w25 f25 => ?_)
      obtain ⟨v25, rfl, e25⟩ := f25
      have g25 := (show v25.toInt = mlI y.toInt mo.toInt by rw [e25, e19])
      refine ff_i2l hx hb (eX12_day (46, .i2l, 1) (List.mem_of_getElem? (i := 26) rfl)) (fun v26 e26 => ?_)
      refine zu_S (vs := [.long v17, .long v18, .long v26]) (rest := [.ref a]) hx hb hml hown hts0 zu_BT (hX12_isIn l v17 v18 v26) ⟨rfl, rfl⟩ ⟨by decide, by decide⟩ ⟨by decide, by decide⟩ (tb_7 47 rfl rfl) (tb_1 12 rfl rfl) (tb_7 45 rfl rfl) (tb_7 46 rfl rfl) (show yX12_isIn.cls ≠ "java/lang/invoke/MethodHandle" ∧ yX12_isIn.cls ≠ "java/lang/invoke/VarHandle" ∧ (parseMethodDescriptor yX12_isIn.desc).map (fun d => d.parameters.length) = some 3 by decide +kernel) rfl (fun _ _ _ => trivial) hl.1 (Nat.le_of_ble_eq_true rfl) (eX12_day (47, .invokestatic 130, 3) (List.mem_of_getElem? (i := 27) rfl)) (fun w27 f27 => ?_)
      obtain ⟨v27, rfl, e27⟩ := f27
      refine ff_if_ne hx hb (eX12_day (50, .ifCond .ne 7, 3) (List.mem_of_getElem? (i := 28) rfl)) (tgt := 57) rfl (fun c28 => ?_) (fun c28 => ?_)
      · skip
        refine ff_iconst hx hb (eX12_day (57, .iconst 0, 1) (List.mem_of_getElem? (i := 31) rfl)) (by decide) (by decide) (fun v29 e29 => ?_)
        refine tz_put (r := 11) (k := 0) (t := (0, 0, 2)) hx hb hD hh ha rfl rfl hgp (tz_i (by omega) (by omega)) (eX12_day (58, .putfield 85, 3) (List.mem_of_getElem? (i := 32) rfl)) (fun H30 lo30 hh30 hf30 _ _ hq30 => ?_)
        refine lv_aload_n hx hb (eX12_day (61, .aload_n 0, 1) (List.mem_of_getElem? (i := 33) rfl)) rfl (lv_at hl 0 rfl) ?_
        refine tz_get (r := 11) (k := 0) (t := (0, 0, 2)) hx hb hh30 ha rfl rfl hgg hf30 (eX12_day (62, .getfield 85, 3) (List.mem_of_getElem? (i := 34) rfl)) ?_
        refine ff_if_le hx hb (eX12_day (65, .ifCond .le 7, 3) (List.mem_of_getElem? (i := 35) rfl)) (tgt := 72) rfl (fun c31 => ?_) (fun c31 => (by exfalso; omega))
        refine lv_iload_n hx hb (eX12_day (72, .iload_n 1, 1) (List.mem_of_getElem? (i := 38) rfl)) rfl (lv_at hl 1 rfl) ?_
        refine ff_i2l hx hb (eX12_day (73, .i2l, 1) (List.mem_of_getElem? (i := 39) rfl)) (fun v32 e32 => ?_)
        refine lv_iload_n hx hb (eX12_day (74, .iload_n 2, 1) (List.mem_of_getElem? (i := 40) rfl)) rfl (lv_at hl 2 rfl) ?_
        refine lv_iload_n hx hb (eX12_day (75, .iload_n 3, 1) (List.mem_of_getElem? (i := 41) rfl)) rfl (lv_at hl 3 rfl) ?_
        refine zu_S (vs := [.long v32, .int mo, .int dd]) (rest := []) hx hb hml hown hts0 zu_BT (hX12_dayOf l v32 mo dd (by omega) (by omega) (by omega) (by omega) (by omega) (by omega)) ⟨rfl, rfl⟩ ⟨by decide, by decide⟩ ⟨by decide, by decide⟩ (tb_6 135 rfl rfl) (tb_1 12 rfl rfl) (tb_6 133 rfl rfl) (tb_6 134 rfl rfl) (show yX12_dayOf.cls ≠ "java/lang/invoke/MethodHandle" ∧ yX12_dayOf.cls ≠ "java/lang/invoke/VarHandle" ∧ (parseMethodDescriptor yX12_dayOf.desc).map (fun d => d.parameters.length) = some 3 by decide +kernel) rfl (fun _ _ _ => trivial) hl.1 (Nat.le_of_ble_eq_true rfl) (eX12_day (76, .invokestatic 70, 3) (List.mem_of_getElem? (i := 42) rfl)) (fun w33 f33 => ?_)
        obtain ⟨v33, rfl, e33⟩ := f33
        have g33 := (show v33.toInt = nuI y.toInt mo.toInt dd.toInt by rw [e33, e32])
        exact W.lret hx hb hr (fun t ht hW => ⟨_, _, rfl, by rw [ht]; exact hh30.l0, fun q hq => by rw [ht]; exact hq30 q hq, by rw [ht]; exact hf30, by unfold dvI; omega⟩) hh30.2.2.1 (eX12_day (79, .lreturn, 1) (List.mem_of_getElem? (i := 43) rfl))
      · skip
        refine ff_iconst hx hb (eX12_day (53, .iconst 1, 1) (List.mem_of_getElem? (i := 29) rfl)) (by decide) (by decide) (fun v34 e34 => ?_)
        refine lv_goto hx hb (eX12_day (54, .goto 4, 3) (List.mem_of_getElem? (i := 30) rfl)) (tgt := 58) rfl ?_
        refine tz_put (r := 11) (k := 0) (t := (0, 0, 2)) hx hb hD hh ha rfl rfl hgp (tz_i (by omega) (by omega)) (eX12_day (58, .putfield 85, 3) (List.mem_of_getElem? (i := 32) rfl)) (fun H35 lo35 hh35 hf35 _ _ hq35 => ?_)
        refine lv_aload_n hx hb (eX12_day (61, .aload_n 0, 1) (List.mem_of_getElem? (i := 33) rfl)) rfl (lv_at hl 0 rfl) ?_
        refine tz_get (r := 11) (k := 0) (t := (0, 0, 2)) hx hb hh35 ha rfl rfl hgg hf35 (eX12_day (62, .getfield 85, 3) (List.mem_of_getElem? (i := 34) rfl)) ?_
        refine ff_if_le hx hb (eX12_day (65, .ifCond .le 7, 3) (List.mem_of_getElem? (i := 35) rfl)) (tgt := 72) rfl (fun c36 => (by exfalso; omega)) (fun c36 => ?_)
        refine ff_lconst hx hb (eX12_day (68, .lconst 0, 1) (List.mem_of_getElem? (i := 36) rfl)) rfl (fun v37 e37 => ?_)
        refine lv_goto hx hb (eX12_day (69, .goto 10, 3) (List.mem_of_getElem? (i := 37) rfl)) (tgt := 79) rfl ?_
        exact W.lret hx hb hr (fun t ht hW => ⟨_, _, rfl, by rw [ht]; exact hh35.l0, fun q hq => by rw [ht]; exact hq35 q hq, by rw [ht]; exact hf35, by unfold dvI; omega⟩) hh35.2.2.1 (eX12_day (79, .lreturn, 1) (List.mem_of_getElem? (i := 43) rfl))
set_option maxRecDepth 100000 in
set_option maxHeartbeats 4000000 in
theorem hX12_thrown (l : Launch) (D : va_G) (cA : Nat → ClassId) (ro : Nat → Option Nat) (sz : Nat) (H0 : Heap) (a : Nat) (ha : ro a = some 11) : Met l yX12_thrown (gW yX12_thrown cX12_thrown 1 (some .int)) { frames := 0, cells := 0, slots := 0, locals := 0 } (zd_Pc D cA ro sz H0 [.ref a]) (fun _ st oc t => t.heap = st.heap ∧ ∃ w : Int32, zh_f D st.heap a 11 0 = .int w ∧ oc = .returned (some (.int w))) 0 0 (zy_fr sz) := by
  refine zy_ofW (cc := cX12_thrown) (maxL := 1) (ret := (some .int)) (by decide +kernel) rfl ?_
  intro p e s m args below meth c s1 B hml hv
  obtain ⟨rfl, hh, hKn⟩ := hv
  have hx := B.exec
  have hb := B.bytes
  have hr := B.returns
  have hlk := B.notSynchronized
  have hts0 := atoms_spec (ws := gW yX12_thrown cX12_thrown 1 (some .int)) B.pre
  have h2 : ∀ w ∈ gT, w.before ([.ref a] : List Value).toArray s = true := fun w hw => hts0 w (List.mem_cons_of_mem _ hw)
  have hown : s.vm.findClass RX12 = some m.cls := findClass_of_methodNamed B.named
  have hl := lv_entry [.ref a] (n := 1) (Nat.le_of_ble_eq_true rfl)
  rw [lg_entry_eq]
  generalize (lg_sl [.ref a] ++ List.replicate (1 - (lg_sl [.ref a]).length) Slot.unset).toArray = ls at hl ⊢
  have hcl := zf_clause (ro := ro) (ms := []) h2 hown hKn.1 gfX12_ok (by decide +kernel) 85 11 0 11 0 fsX12 (0, 0, 2) (by decide) rfl rfl
  have hT := zh_fT (k := 0) (t := (0, 0, 2)) hh ha (show RTg[11]? = some (0, 11, 0, fsX12) from rfl) rfl
  obtain ⟨w, hw, -, -⟩ := hT
  refine lv_aload_n hx hb (eX12_thrown (0, .aload_n 0, 1) (List.mem_of_getElem? (i := 0) rfl)) rfl (lv_at hl 0 rfl) ?_
  refine tz_get (r := 11) (k := 0) (t := (0, 0, 2)) hx hb hh ha rfl rfl hcl.1 hw (eX12_thrown (1, .getfield 85, 3) (List.mem_of_getElem? (i := 1) rfl)) ?_
  exact W.zret hx hb hr rfl (fun t ht hW => ⟨ht, w, hw, rfl⟩) (fun q hq => by cases hq) (eX12_thrown (4, .ireturn, 1) (List.mem_of_getElem? (i := 2) rfl))
set_option maxRecDepth 100000 in
set_option maxHeartbeats 4000000 in
theorem hX11_day (l : Launch) (hst : l.stackTraces = false) (D : va_G) (cA : Nat → ClassId) (ro : Nat → Option Nat) (sz : Nat) (H0 : Heap) (x : Nat) (y mo dd : Int32) : vx_Met l yX11_day (gW yX11_day cX11_day 4 (some .long)) { frames := 6, cells := 1, slots := 6, locals := 82 } (zd_PX D cA ro sz H0 [.ref x, .int y, .int mo, .int dd]) (zd_QX y.toInt mo.toInt dd.toInt) (zd_XX D cA ro sz H0 y.toInt mo.toInt dd.toInt) 1 6 (zy_fr sz) := by
  refine vx_ofW (cc := cX11_day) (maxL := 4) (ret := (some .long)) (by decide +kernel) rfl ?_
  intro p e s m args below meth c s1 B hml hex hv
  obtain ⟨rfl, hh, hKx, hKp⟩ := hv
  have hx := B.exec
  have hb := B.bytes
  have hr := B.returns
  have hlk := B.notSynchronized
  have hts0 := atoms_spec (ws := gW yX11_day cX11_day 4 (some .long)) B.pre
  have h2 : ∀ w ∈ gT, w.before ([.ref x, .int y, .int mo, .int dd] : List Value).toArray s = true := fun w hw => hts0 w (List.mem_cons_of_mem _ hw)
  have hown : s.vm.findClass RX11 = some m.cls := findClass_of_methodNamed B.named
  have hl := lv_entry [.ref x, .int y, .int mo, .int dd] (n := 4) (Nat.le_of_ble_eq_true rfl)
  rw [lg_entry_eq]
  generalize (lg_sl [.ref x, .int y, .int mo, .int dd] ++ List.replicate (4 - (lg_sl [.ref x, .int y, .int mo, .int dd]).length) Slot.unset).toArray = ls at hl ⊢
  have b_y := zn_i32 y
  have b_mo := zn_i32 mo
  have b_dd := zn_i32 dd
  have b_ml := mlI_bd y.toInt mo.toInt
  have hBM : ∀ U : State, U.heap = s.heap → s.WarmedH U.vm → zBM cA U := fun U hU hW => zBM_B.2 s U hW hU hKp
  refine lv_iload_n hx hb (eX11_day (0, .iload_n 1, 1) (List.mem_of_getElem? (i := 0) rfl)) rfl (lv_at hl 1 rfl) ?_
  refine zu_S (vs := [.int y]) (rest := []) hx hb hml hown hts0 zu_BT (hX2_holdsYear l y) ⟨rfl, rfl⟩ ⟨by decide, by decide⟩ ⟨by decide, by decide⟩ (tb_2 110 rfl rfl) (tb_1 13 rfl rfl) (tb_2 108 rfl rfl) (tb_2 109 rfl rfl) (show yX2_holdsYear.cls ≠ "java/lang/invoke/MethodHandle" ∧ yX2_holdsYear.cls ≠ "java/lang/invoke/VarHandle" ∧ (parseMethodDescriptor yX2_holdsYear.desc).map (fun d => d.parameters.length) = some 1 by decide +kernel) rfl (fun _ _ _ => trivial) hl.1 (Nat.le_of_ble_eq_true rfl) (eX11_day (1, .invokestatic 73, 3) (List.mem_of_getElem? (i := 1) rfl)) (fun w1 f1 => ?_)
  obtain ⟨v1, rfl, e1⟩ := f1
  refine ff_if_eq hx hb (eX11_day (4, .ifCond .eq 17, 3) (List.mem_of_getElem? (i := 2) rfl)) (tgt := 21) rfl (fun c2 => ?_) (fun c2 => ?_)
  · skip
    exact zx_leafG (ik := 83) (is := 85) (ic := 87) (cls := "java/lang/IllegalArgumentException") (text := "no such date") hx hb hst hown h2 hKx hh hh (by rw [hl.1, hml]) hex hlk ⟨by decide, by decide, by decide, by decide⟩ (tb_2 121 rfl rfl) (tb_1 17 rfl rfl) (by decide) (gAt_in gAt_1) (by decide +kernel) (by decide) (by decide) (fun t h7 h8 => ⟨rfl, by unfold dvI; omega, hh.grow h7 h8⟩) (eX11_day (21, .new 83, 3) (List.mem_of_getElem? (i := 11) rfl)) (eX11_day (24, .dup, 1) (List.mem_of_getElem? (i := 12) rfl)) (eX11_day (25, .ldc 85, 2) (List.mem_of_getElem? (i := 13) rfl)) (eX11_day (27, .invokespecial 87, 3) (List.mem_of_getElem? (i := 14) rfl)) (eX11_day (30, .athrow, 1) (List.mem_of_getElem? (i := 15) rfl))
  · skip
    refine lv_iload_n hx hb (eX11_day (7, .iload_n 3, 1) (List.mem_of_getElem? (i := 3) rfl)) rfl (lv_at hl 3 rfl) ?_
    refine ff_iconst hx hb (eX11_day (8, .iconst 1, 1) (List.mem_of_getElem? (i := 4) rfl)) (by decide) (by decide) (fun v3 e3 => ?_)
    refine ff_icmp_lt hx hb (eX11_day (9, .if_icmp .lt 12, 3) (List.mem_of_getElem? (i := 5) rfl)) (tgt := 21) rfl (fun c4 => ?_) (fun c4 => ?_)
    · skip
      exact zx_leafG (ik := 83) (is := 85) (ic := 87) (cls := "java/lang/IllegalArgumentException") (text := "no such date") hx hb hst hown h2 hKx hh hh (by rw [hl.1, hml]) hex hlk ⟨by decide, by decide, by decide, by decide⟩ (tb_2 121 rfl rfl) (tb_1 17 rfl rfl) (by decide) (gAt_in gAt_1) (by decide +kernel) (by decide) (by decide) (fun t h7 h8 => ⟨rfl, by unfold dvI; omega, hh.grow h7 h8⟩) (eX11_day (21, .new 83, 3) (List.mem_of_getElem? (i := 11) rfl)) (eX11_day (24, .dup, 1) (List.mem_of_getElem? (i := 12) rfl)) (eX11_day (25, .ldc 85, 2) (List.mem_of_getElem? (i := 13) rfl)) (eX11_day (27, .invokespecial 87, 3) (List.mem_of_getElem? (i := 14) rfl)) (eX11_day (30, .athrow, 1) (List.mem_of_getElem? (i := 15) rfl))
    · skip
      refine lv_iload_n hx hb (eX11_day (12, .iload_n 3, 1) (List.mem_of_getElem? (i := 6) rfl)) rfl (lv_at hl 3 rfl) ?_
      refine lv_iload_n hx hb (eX11_day (13, .iload_n 1, 1) (List.mem_of_getElem? (i := 7) rfl)) rfl (lv_at hl 1 rfl) ?_
      refine lv_iload_n hx hb (eX11_day (14, .iload_n 2, 1) (List.mem_of_getElem? (i := 8) rfl)) rfl (lv_at hl 2 rfl) ?_
      refine zu_S (vs := [.int y, .int mo]) (rest := [.int dd]) hx hb hml hown hts0 zBM_B (hX2_monthLength l cA y mo) ⟨rfl, rfl⟩ ⟨by decide, by decide⟩ ⟨by decide, by decide⟩ (tb_2 115 rfl rfl) (tb_1 13 rfl rfl) (tb_2 113 rfl rfl) (tb_2 114 rfl rfl) (show yX2_monthLength.cls ≠ "java/lang/invoke/MethodHandle" ∧ yX2_monthLength.cls ≠ "java/lang/invoke/VarHandle" ∧ (parseMethodDescriptor yX2_monthLength.desc).map (fun d => d.parameters.length) = some 2 by decide +kernel) rfl hBM hl.1 (Nat.le_of_ble_eq_true rfl) (eX11_day (15, .invokestatic 79, 3) (List.mem_of_getElem? (i := 9) rfl)) (fun w5 f5 => ?_)
      obtain ⟨v5, rfl, e5⟩ := f5
      refine ff_icmp_le hx hb (eX11_day (18, .if_icmp .le 13, 3) (List.mem_of_getElem? (i := 10) rfl)) (tgt := 31) rfl (fun c6 => ?_) (fun c6 => ?_)
      · skip
        refine lv_iload_n hx hb (eX11_day (31, .iload_n 1, 1) (List.mem_of_getElem? (i := 16) rfl)) rfl (lv_at hl 1 rfl) ?_
        refine lv_iload_n hx hb (eX11_day (32, .iload_n 2, 1) (List.mem_of_getElem? (i := 17) rfl)) rfl (lv_at hl 2 rfl) ?_
        refine lv_iload_n hx hb (eX11_day (33, .iload_n 3, 1) (List.mem_of_getElem? (i := 18) rfl)) rfl (lv_at hl 3 rfl) ?_
        refine zu_S (vs := [.int y, .int mo, .int dd]) (rest := []) hx hb hml hown hts0 zBM_B (hX2_numberOf l cA y mo dd (by omega) (by omega) (by have h9 := ml_v y.toInt mo.toInt; omega) (by have h9 := ml_v y.toInt mo.toInt; omega) (by omega) (by omega)) ⟨rfl, rfl⟩ ⟨by decide, by decide⟩ ⟨by decide, by decide⟩ (tb_2 190 rfl rfl) (tb_1 13 rfl rfl) (tb_2 188 rfl rfl) (tb_2 189 rfl rfl) (show yX2_numberOf.cls ≠ "java/lang/invoke/MethodHandle" ∧ yX2_numberOf.cls ≠ "java/lang/invoke/VarHandle" ∧ (parseMethodDescriptor yX2_numberOf.desc).map (fun d => d.parameters.length) = some 3 by decide +kernel) rfl hBM hl.1 (Nat.le_of_ble_eq_true rfl) (eX11_day (34, .invokestatic 90, 3) (List.mem_of_getElem? (i := 19) rfl)) (fun w7 f7 => ?_)
        obtain ⟨v7, rfl, e7⟩ := f7
        exact vx_ret (W.widen (k := 1) (n := 6) (Nat.zero_le _) (Nat.zero_le _) (W.lret hx hb hr (fun t ht hW => ⟨_, rfl, ht, by have h9 := ml_v y.toInt mo.toInt; unfold dvI; omega, by assumption⟩) (fun q hq => by cases hq) (eX11_day (37, .lreturn, 1) (List.mem_of_getElem? (i := 20) rfl))))
      · skip
        exact zx_leafG (ik := 83) (is := 85) (ic := 87) (cls := "java/lang/IllegalArgumentException") (text := "no such date") hx hb hst hown h2 hKx hh hh (by rw [hl.1, hml]) hex hlk ⟨by decide, by decide, by decide, by decide⟩ (tb_2 121 rfl rfl) (tb_1 17 rfl rfl) (by decide) (gAt_in gAt_1) (by decide +kernel) (by decide) (by decide) (fun t h7 h8 => ⟨rfl, by unfold dvI; omega, hh.grow h7 h8⟩) (eX11_day (21, .new 83, 3) (List.mem_of_getElem? (i := 11) rfl)) (eX11_day (24, .dup, 1) (List.mem_of_getElem? (i := 12) rfl)) (eX11_day (25, .ldc 85, 2) (List.mem_of_getElem? (i := 13) rfl)) (eX11_day (27, .invokespecial 87, 3) (List.mem_of_getElem? (i := 14) rfl)) (eX11_day (30, .athrow, 1) (List.mem_of_getElem? (i := 15) rfl))
