/-! contracts of calls without state: V, when the call is good; G, its answer -/
def zg_Qi (D : va_G) (cA : Nat → ClassId) (ro : Nat → Option Nat) (sz : Nat) (H0 : Heap) (a : Nat) (V : Prop) (G : Int → Prop) : Array Value → State → Outcome → State → Prop := fun _ st oc t => ∃ (r : Int32) (w : Int32), oc = .returned (some (.int r)) ∧ zh_ok D cA RTg ro sz H0 t.heap [] ∧ (∀ q : Nat, q ≠ a → t.heap[q]? = st.heap[q]?) ∧ zh_f D t.heap a 11 0 = .int w ∧ ((w.toInt = 0 ∧ V ∧ G r.toInt) ∨ (w.toInt = 1 ∧ ¬ V))
def zg_Ql (D : va_G) (cA : Nat → ClassId) (ro : Nat → Option Nat) (sz : Nat) (H0 : Heap) (a : Nat) (V : Prop) (G : Int → Prop) : Array Value → State → Outcome → State → Prop := fun _ st oc t => ∃ (r : Int64) (w : Int32), oc = .returned (some (.long r)) ∧ zh_ok D cA RTg ro sz H0 t.heap [] ∧ (∀ q : Nat, q ≠ a → t.heap[q]? = st.heap[q]?) ∧ zh_f D t.heap a 11 0 = .int w ∧ ((w.toInt = 0 ∧ V ∧ G r.toInt) ∨ (w.toInt = 1 ∧ ¬ V))
def zg_QXi (V : Prop) (G : Int → Prop) : Array Value → State → Outcome → State → Prop := fun _ st oc t => ∃ r : Int32, oc = .returned (some (.int r)) ∧ t.heap = st.heap ∧ V ∧ G r.toInt
def zg_QXl (V : Prop) (G : Int → Prop) : Array Value → State → Outcome → State → Prop := fun _ st oc t => ∃ r : Int64, oc = .returned (some (.long r)) ∧ t.heap = st.heap ∧ V ∧ G r.toInt
def zg_XX (D : va_G) (cA : Nat → ClassId) (ro : Nat → Option Nat) (sz : Nat) (H0 : Heap) (V : Prop) : String → State → State → Prop := fun E _ t => E = eI ∧ ¬ V ∧ zh_ok D cA RTg ro sz H0 t.heap []
def zg_QL (D : va_G) (cA : Nat → ClassId) (ro : Nat → Option Nat) (sz : Nat) (H0 : Heap) (o : Nat) (V : Prop) (G : Int → Prop) : Array Value → State → Outcome → State → Prop := fun _ _ oc t => ∃ k : Int32, oc = .returned (some (.int k)) ∧ zh_ok D cA RTg ro sz H0 t.heap [] ∧ ((k.toInt = 0 ∧ V ∧ ∃ (z : Nat → Value) (r : Int64), t.heap[o]? = some (arrV (cA 1) 1 z) ∧ z 0 = .long r ∧ G r.toInt) ∨ (k.toInt = 1 ∧ ¬ V))
theorem zg_ob12 {D : va_G} {cA : Nat → ClassId} {ro : Nat → Option Nat} {sz : Nat} {H0 H : Heap} {locs : List Loc} {s : State} {x : Nat} (hh : zh_ok D cA RTg ro sz H0 H locs) (hK : zK0 D cA s) (hx : ro x = some 11) : ∃ cell : Cell, H[x]? = some cell ∧ cell.vm = .none ∧ s.vm.findClass RX12 = some cell.cls := by
  obtain ⟨-, cell, c1, c2, c3, -⟩ := zh_obj hh hx (show RTg[11]? = some (0, 11, 0, fsX12) from rfl)
  exact ⟨cell, c1, c3, by rw [c2]; exact zCX12 hK⟩
set_option maxRecDepth 100000 in
set_option maxHeartbeats 4000000 in
theorem hX2_holds (l : Launch) (n : Int64)  : zu_M l yX2_holds (gW yX2_holds cX2_holds 2 (some .boolean)) { frames := 0, cells := 0, slots := 0, locals := 0 } (fun vs => vs = [.long n]) zT (fun _ w => ∃ r : Int32, w = .int r ∧ ((r.toInt = 1 ∧ -365961662 ≤ n.toInt ∧ n.toInt ≤ 364522971) ∨ (r.toInt = 0 ∧ (n.toInt < -365961662 ∨ 364522971 < n.toInt)))) := by
  refine zy_ofW (cc := cX2_holds) (maxL := 2) (ret := (some .boolean)) (by decide +kernel) rfl ?_
  intro p e s m args below meth c s1 B hml hv
  obtain ⟨vs, rfl, rfl, hKp⟩ := hv
  have hx := B.exec
  have hb := B.bytes
  have hr := B.returns
  have hlk := B.notSynchronized
  have hts0 := atoms_spec (ws := gW yX2_holds cX2_holds 2 (some .boolean)) B.pre
  have h2 : ∀ w ∈ gT, w.before ([.long n] : List Value).toArray s = true := fun w hw => hts0 w (List.mem_cons_of_mem _ hw)
  have hown : s.vm.findClass RX2 = some m.cls := findClass_of_methodNamed B.named
  have hl := lv_entry [.long n] (n := 2) (Nat.le_of_ble_eq_true rfl)
  rw [lg_entry_eq]
  generalize (lg_sl [.long n] ++ List.replicate (2 - (lg_sl [.long n]).length) Slot.unset).toArray = ls at hl ⊢
  have b_n := zn_i64 n
  refine lv_lload_n hx hb (eX2_holds (0, .lload_n 0, 1) (List.mem_of_getElem? (i := 0) rfl)) rfl (lv_at hl 0 rfl) ?_
  refine ff_ldc2 (n := (-365961662)) hx hb hown h2 (clX2_ok 11 (-365961662) (List.mem_of_getElem? (i := 0) rfl)) (eX2_holds (1, .ldc2_w 11, 3) (List.mem_of_getElem? (i := 1) rfl)) (fun v1 e1 => ?_)
  refine ff_lcmp hx hb (eX2_holds (4, .lcmp, 1) (List.mem_of_getElem? (i := 2) rfl)) (fun v2 e2 => ?_)
  refine ff_if_lt hx hb (eX2_holds (5, .ifCond .lt 15, 3) (List.mem_of_getElem? (i := 3) rfl)) (tgt := 20) rfl (fun c3 => ?_) (fun c3 => ?_)
  · skip
    refine ff_iconst hx hb (eX2_holds (20, .iconst 0, 1) (List.mem_of_getElem? (i := 10) rfl)) (by decide) (by decide) (fun v4 e4 => ?_)
    exact zu_iret (y := yX2_holds) (ws := []) (rm := {}) hx hb hr hlk (zn_bool (by omega) (by omega)) ⟨_, rfl, by omega⟩ (eX2_holds (21, .ireturn, 1) (List.mem_of_getElem? (i := 11) rfl))
  · skip
    refine lv_lload_n hx hb (eX2_holds (8, .lload_n 0, 1) (List.mem_of_getElem? (i := 4) rfl)) rfl (lv_at hl 0 rfl) ?_
    refine ff_ldc2 (n := 364522971) hx hb hown h2 (clX2_ok 13 364522971 (List.mem_of_getElem? (i := 1) rfl)) (eX2_holds (9, .ldc2_w 13, 3) (List.mem_of_getElem? (i := 5) rfl)) (fun v5 e5 => ?_)
    refine ff_lcmp hx hb (eX2_holds (12, .lcmp, 1) (List.mem_of_getElem? (i := 6) rfl)) (fun v6 e6 => ?_)
    refine ff_if_gt hx hb (eX2_holds (13, .ifCond .gt 7, 3) (List.mem_of_getElem? (i := 7) rfl)) (tgt := 20) rfl (fun c7 => ?_) (fun c7 => ?_)
    · skip
      refine ff_iconst hx hb (eX2_holds (20, .iconst 0, 1) (List.mem_of_getElem? (i := 10) rfl)) (by decide) (by decide) (fun v8 e8 => ?_)
      exact zu_iret (y := yX2_holds) (ws := []) (rm := {}) hx hb hr hlk (zn_bool (by omega) (by omega)) ⟨_, rfl, by omega⟩ (eX2_holds (21, .ireturn, 1) (List.mem_of_getElem? (i := 11) rfl))
    · skip
      refine ff_iconst hx hb (eX2_holds (16, .iconst 1, 1) (List.mem_of_getElem? (i := 8) rfl)) (by decide) (by decide) (fun v9 e9 => ?_)
      refine lv_goto hx hb (eX2_holds (17, .goto 4, 3) (List.mem_of_getElem? (i := 9) rfl)) (tgt := 21) rfl ?_
      exact zu_iret (y := yX2_holds) (ws := []) (rm := {}) hx hb hr hlk (zn_bool (by omega) (by omega)) ⟨_, rfl, by omega⟩ (eX2_holds (21, .ireturn, 1) (List.mem_of_getElem? (i := 11) rfl))
set_option maxRecDepth 100000 in
set_option maxHeartbeats 4000000 in
theorem hX2_dayOfMonth (l : Launch) (cA : Nat → ClassId) (n : Int64) (hn1 : -365961662 ≤ n.toInt) (hn2 : n.toInt ≤ 364522971) : zu_M l yX2_dayOfMonth (gW yX2_dayOfMonth cX2_dayOfMonth 2 (some .int)) { frames := 3, cells := 0, slots := 0, locals := 69 } (fun vs => vs = [.long n]) (zBM cA) (fun _ w => ∃ r : Int32, w = .int r ∧ ∃ y m : Int, cvP n.toInt y m r.toInt) := by
  refine zy_ofW (cc := cX2_dayOfMonth) (maxL := 2) (ret := (some .int)) (by decide +kernel) rfl ?_
  intro p e s m args below meth c s1 B hml hv
  obtain ⟨vs, rfl, rfl, hKp⟩ := hv
  have hx := B.exec
  have hb := B.bytes
  have hr := B.returns
  have hlk := B.notSynchronized
  have hts0 := atoms_spec (ws := gW yX2_dayOfMonth cX2_dayOfMonth 2 (some .int)) B.pre
  have h2 : ∀ w ∈ gT, w.before ([.long n] : List Value).toArray s = true := fun w hw => hts0 w (List.mem_cons_of_mem _ hw)
  have hown : s.vm.findClass RX2 = some m.cls := findClass_of_methodNamed B.named
  have hl := lv_entry [.long n] (n := 2) (Nat.le_of_ble_eq_true rfl)
  rw [lg_entry_eq]
  generalize (lg_sl [.long n] ++ List.replicate (2 - (lg_sl [.long n]).length) Slot.unset).toArray = ls at hl ⊢
  have hBM : ∀ U : State, U.heap = s.heap → s.WarmedH U.vm → zBM cA U := fun U hU hW => zBM_B.2 s U hW hU hKp
  obtain ⟨ab, zb, hz1, hz2, hz3, hz4⟩ := id hKp
  have b_n := zn_i64 n
  refine lv_lload_n hx hb (eX2_dayOfMonth (0, .lload_n 0, 1) (List.mem_of_getElem? (i := 0) rfl)) rfl (lv_at hl 0 rfl) ?_
  refine lv_lload_n hx hb (eX2_dayOfMonth (1, .lload_n 0, 1) (List.mem_of_getElem? (i := 1) rfl)) rfl (lv_at hl 0 rfl) ?_
  refine zu_S (vs := [.long n]) (rest := [.long n]) hx hb hml hown hts0 zu_BT (hX2_yearOf l n (by omega) (by omega)) ⟨rfl, rfl⟩ ⟨by decide, by decide⟩ ⟨by decide, by decide⟩ (tb_2 218 rfl rfl) (tb_1 13 rfl rfl) (tb_2 223 rfl rfl) (tb_2 217 rfl rfl) (show yX2_yearOf.cls ≠ "java/lang/invoke/MethodHandle" ∧ yX2_yearOf.cls ≠ "java/lang/invoke/VarHandle" ∧ (parseMethodDescriptor yX2_yearOf.desc).map (fun d => d.parameters.length) = some 1 by decide +kernel) rfl (fun _ _ _ => trivial) hl.1 (Nat.le_of_ble_eq_true rfl) (eX2_dayOfMonth (2, .invokestatic 53, 3) (List.mem_of_getElem? (i := 2) rfl)) (fun w1 f1 => ?_)
  obtain ⟨v1, rfl, e1⟩ := f1
  have g1 := isY_in e1.1 (by omega) (by omega)
  refine lv_lload_n hx hb (eX2_dayOfMonth (5, .lload_n 0, 1) (List.mem_of_getElem? (i := 3) rfl)) rfl (lv_at hl 0 rfl) ?_
  refine zu_S (vs := [.long n]) (rest := [.int v1, .long n]) hx hb hml hown hts0 zBM_B (hX2_monthOf l cA n (by omega) (by omega)) ⟨rfl, rfl⟩ ⟨by decide, by decide⟩ ⟨by decide, by decide⟩ (tb_2 222 rfl rfl) (tb_1 13 rfl rfl) (tb_2 228 rfl rfl) (tb_2 221 rfl rfl) (show yX2_monthOf.cls ≠ "java/lang/invoke/MethodHandle" ∧ yX2_monthOf.cls ≠ "java/lang/invoke/VarHandle" ∧ (parseMethodDescriptor yX2_monthOf.desc).map (fun d => d.parameters.length) = some 1 by decide +kernel) rfl hBM hl.1 (Nat.le_of_ble_eq_true rfl) (eX2_dayOfMonth (6, .invokestatic 61, 3) (List.mem_of_getElem? (i := 4) rfl)) (fun w2 f2 => ?_)
  obtain ⟨v2, rfl, e2⟩ := f2
  have g2 := mo_y e1.1 e2
  refine ff_iconst hx hb (eX2_dayOfMonth (9, .iconst 1, 1) (List.mem_of_getElem? (i := 5) rfl)) (by decide) (by decide) (fun v3 e3 => ?_)
  refine zu_S (vs := [.int v1, .int v2, .int v3]) (rest := [.long n]) hx hb hml hown hts0 zBM_B (hX2_numberOf l cA v1 v2 v3 (by omega) (by omega) (by omega) (by omega) (by omega) (by omega)) ⟨rfl, rfl⟩ ⟨by decide, by decide⟩ ⟨by decide, by decide⟩ (tb_2 190 rfl rfl) (tb_1 13 rfl rfl) (tb_2 224 rfl rfl) (tb_2 189 rfl rfl) (show yX2_numberOf.cls ≠ "java/lang/invoke/MethodHandle" ∧ yX2_numberOf.cls ≠ "java/lang/invoke/VarHandle" ∧ (parseMethodDescriptor yX2_numberOf.desc).map (fun d => d.parameters.length) = some 3 by decide +kernel) rfl hBM hl.1 (Nat.le_of_ble_eq_true rfl) (eX2_dayOfMonth (10, .invokestatic 57, 3) (List.mem_of_getElem? (i := 6) rfl)) (fun w4 f4 => ?_)
  obtain ⟨v4, rfl, e4⟩ := f4
  have g4 := (show v4.toInt = nuI v1.toInt v2.toInt 1 by rw [e4, show v3.toInt = 1 by omega])
  refine ff_lsub hx hb (eX2_dayOfMonth (13, .lsub, 1) (List.mem_of_getElem? (i := 7) rfl)) (by omega) (by omega) (fun v5 e5 => ?_)
  refine ff_l2i hx hb (eX2_dayOfMonth (14, .l2i, 1) (List.mem_of_getElem? (i := 8) rfl)) (by omega) (by omega) (fun v6 e6 => ?_)
  refine ff_iconst hx hb (eX2_dayOfMonth (15, .iconst 1, 1) (List.mem_of_getElem? (i := 9) rfl)) (by decide) (by decide) (fun v7 e7 => ?_)
  refine ff_iadd hx hb (eX2_dayOfMonth (16, .iadd, 1) (List.mem_of_getElem? (i := 10) rfl)) (by omega) (by omega) (fun v8 e8 => ?_)
  exact zu_iret (y := yX2_dayOfMonth) (ws := []) (rm := {}) hx hb hr hlk rfl ⟨_, rfl, by (refine ⟨v1.toInt, v2.toInt, ?_⟩; rw [show v8.toInt = n.toInt - nuI v1.toInt v2.toInt 1 + 1 by omega]; exact cv_days g2.1 g2.2.1 g2.2.2.1 g2.2.2.2.1)⟩ (eX2_dayOfMonth (17, .ireturn, 1) (List.mem_of_getElem? (i := 11) rfl))
set_option maxRecDepth 100000 in
set_option maxHeartbeats 4000000 in
theorem hX2_weekYearOf (l : Launch) (n : Int64) (hn1 : -365961662 ≤ n.toInt) (hn2 : n.toInt ≤ 364522971) : zu_M l yX2_weekYearOf (gW yX2_weekYearOf cX2_weekYearOf 2 (some .int)) { frames := 2, cells := 0, slots := 0, locals := 44 } (fun vs => vs = [.long n]) zT (fun _ w => ∃ r : Int32, w = .int r ∧ isY (thI n.toInt) r.toInt ∧ -1000000 ≤ r.toInt ∧ r.toInt ≤ 1000000) := by
  refine zy_ofW (cc := cX2_weekYearOf) (maxL := 2) (ret := (some .int)) (by decide +kernel) rfl ?_
  intro p e s m args below meth c s1 B hml hv
  obtain ⟨vs, rfl, rfl, hKp⟩ := hv
  have hx := B.exec
  have hb := B.bytes
  have hr := B.returns
  have hlk := B.notSynchronized
  have hts0 := atoms_spec (ws := gW yX2_weekYearOf cX2_weekYearOf 2 (some .int)) B.pre
  have h2 : ∀ w ∈ gT, w.before ([.long n] : List Value).toArray s = true := fun w hw => hts0 w (List.mem_cons_of_mem _ hw)
  have hown : s.vm.findClass RX2 = some m.cls := findClass_of_methodNamed B.named
  have hl := lv_entry [.long n] (n := 2) (Nat.le_of_ble_eq_true rfl)
  rw [lg_entry_eq]
  generalize (lg_sl [.long n] ++ List.replicate (2 - (lg_sl [.long n]).length) Slot.unset).toArray = ls at hl ⊢
  have b_n := zn_i64 n
  refine lv_lload_n hx hb (eX2_weekYearOf (0, .lload_n 0, 1) (List.mem_of_getElem? (i := 0) rfl)) rfl (lv_at hl 0 rfl) ?_
  refine zu_S (vs := [.long n]) (rest := []) hx hb hml hown hts0 zu_BT (hX2_thursdayOf l n (by omega) (by omega)) ⟨rfl, rfl⟩ ⟨by decide, by decide⟩ ⟨by decide, by decide⟩ (tb_3 0 rfl rfl) (tb_1 13 rfl rfl) (tb_2 238 rfl rfl) (tb_2 239 rfl rfl) (show yX2_thursdayOf.cls ≠ "java/lang/invoke/MethodHandle" ∧ yX2_thursdayOf.cls ≠ "java/lang/invoke/VarHandle" ∧ (parseMethodDescriptor yX2_thursdayOf.desc).map (fun d => d.parameters.length) = some 1 by decide +kernel) rfl (fun _ _ _ => trivial) hl.1 (Nat.le_of_ble_eq_true rfl) (eX2_weekYearOf (1, .invokestatic 111, 3) (List.mem_of_getElem? (i := 1) rfl)) (fun w1 f1 => ?_)
  obtain ⟨v1, rfl, e1⟩ := f1
  have g1 := (show v1.toInt = thI n.toInt ∧ n.toInt - 3 ≤ thI n.toInt ∧ thI n.toInt ≤ n.toInt + 3 from ⟨e1, (th_bd n.toInt).1, (th_bd n.toInt).2⟩)
  refine zu_S (vs := [.long v1]) (rest := []) hx hb hml hown hts0 zu_BT (hX2_yearOf l v1 (by omega) (by omega)) ⟨rfl, rfl⟩ ⟨by decide, by decide⟩ ⟨by decide, by decide⟩ (tb_2 218 rfl rfl) (tb_1 13 rfl rfl) (tb_2 223 rfl rfl) (tb_2 217 rfl rfl) (show yX2_yearOf.cls ≠ "java/lang/invoke/MethodHandle" ∧ yX2_yearOf.cls ≠ "java/lang/invoke/VarHandle" ∧ (parseMethodDescriptor yX2_yearOf.desc).map (fun d => d.parameters.length) = some 1 by decide +kernel) rfl (fun _ _ _ => trivial) hl.1 (Nat.le_of_ble_eq_true rfl) (eX2_weekYearOf (4, .invokestatic 53, 3) (List.mem_of_getElem? (i := 2) rfl)) (fun w2 f2 => ?_)
  obtain ⟨v2, rfl, e2⟩ := f2
  have g2 := (show isY (thI n.toInt) v2.toInt ∧ -1000000 ≤ v2.toInt ∧ v2.toInt ≤ 1000000 by have h9 : isY (thI n.toInt) v2.toInt := by { rw [← g1.1]; exact e2.1 }; exact ⟨h9, isY_in2 h9 (by omega) (by omega)⟩)
  exact zu_iret (y := yX2_weekYearOf) (ws := []) (rm := {}) hx hb hr hlk rfl ⟨_, rfl, by exact g2⟩ (eX2_weekYearOf (7, .ireturn, 1) (List.mem_of_getElem? (i := 3) rfl))
set_option maxRecDepth 100000 in
set_option maxHeartbeats 4000000 in
theorem hX2_weekOf (l : Launch) (n : Int64) (hn1 : -365961662 ≤ n.toInt) (hn2 : n.toInt ≤ 364522971) : zu_M l yX2_weekOf (gW yX2_weekOf cX2_weekOf 4 (some .int)) { frames := 2, cells := 0, slots := 0, locals := 44 } (fun vs => vs = [.long n]) zT (fun _ w => ∃ r : Int32, w = .int r ∧ ∃ w : Int, isY (thI n.toInt) w ∧ r.toInt = (thI n.toInt - ysI w) / 7 + 1) := by
  refine zy_ofW (cc := cX2_weekOf) (maxL := 4) (ret := (some .int)) (by decide +kernel) rfl ?_
  intro p e s m args below meth c s1 B hml hv
  obtain ⟨vs, rfl, rfl, hKp⟩ := hv
  have hx := B.exec
  have hb := B.bytes
  have hr := B.returns
  have hlk := B.notSynchronized
  have hts0 := atoms_spec (ws := gW yX2_weekOf cX2_weekOf 4 (some .int)) B.pre
  have h2 : ∀ w ∈ gT, w.before ([.long n] : List Value).toArray s = true := fun w hw => hts0 w (List.mem_cons_of_mem _ hw)
  have hown : s.vm.findClass RX2 = some m.cls := findClass_of_methodNamed B.named
  have hl := lv_entry [.long n] (n := 4) (Nat.le_of_ble_eq_true rfl)
  rw [lg_entry_eq]
  generalize (lg_sl [.long n] ++ List.replicate (4 - (lg_sl [.long n]).length) Slot.unset).toArray = ls at hl ⊢
  have b_n := zn_i64 n
  refine lv_lload_n hx hb (eX2_weekOf (0, .lload_n 0, 1) (List.mem_of_getElem? (i := 0) rfl)) rfl (lv_at hl 0 rfl) ?_
  refine zu_S (vs := [.long n]) (rest := []) hx hb hml hown hts0 zu_BT (hX2_thursdayOf l n (by omega) (by omega)) ⟨rfl, rfl⟩ ⟨by decide, by decide⟩ ⟨by decide, by decide⟩ (tb_3 0 rfl rfl) (tb_1 13 rfl rfl) (tb_2 238 rfl rfl) (tb_2 239 rfl rfl) (show yX2_thursdayOf.cls ≠ "java/lang/invoke/MethodHandle" ∧ yX2_thursdayOf.cls ≠ "java/lang/invoke/VarHandle" ∧ (parseMethodDescriptor yX2_thursdayOf.desc).map (fun d => d.parameters.length) = some 1 by decide +kernel) rfl (fun _ _ _ => trivial) hl.1 (Nat.le_of_ble_eq_true rfl) (eX2_weekOf (1, .invokestatic 111, 3) (List.mem_of_getElem? (i := 1) rfl)) (fun w1 f1 => ?_)
  obtain ⟨v1, rfl, e1⟩ := f1
  have g1 := (show v1.toInt = thI n.toInt ∧ n.toInt - 3 ≤ thI n.toInt ∧ thI n.toInt ≤ n.toInt + 3 from ⟨e1, (th_bd n.toInt).1, (th_bd n.toInt).2⟩)
  refine lv_lstore_n hx hb (eX2_weekOf (4, .lstore_n 2, 1) (List.mem_of_getElem? (i := 2) rfl)) rfl hl (by decide) rfl (fun ls2 hl2 => ?_)
  refine lv_lload_n hx hb (eX2_weekOf (5, .lload_n 2, 1) (List.mem_of_getElem? (i := 3) rfl)) rfl (lv_at hl2 0 rfl) ?_
  refine lv_lload_n hx hb (eX2_weekOf (6, .lload_n 2, 1) (List.mem_of_getElem? (i := 4) rfl)) rfl (lv_at hl2 0 rfl) ?_
  refine zu_S (vs := [.long v1]) (rest := [.long v1]) hx hb hml hown hts0 zu_BT (hX2_yearOf l v1 (by omega) (by omega)) ⟨rfl, rfl⟩ ⟨by decide, by decide⟩ ⟨by decide, by decide⟩ (tb_2 218 rfl rfl) (tb_1 13 rfl rfl) (tb_2 223 rfl rfl) (tb_2 217 rfl rfl) (show yX2_yearOf.cls ≠ "java/lang/invoke/MethodHandle" ∧ yX2_yearOf.cls ≠ "java/lang/invoke/VarHandle" ∧ (parseMethodDescriptor yX2_yearOf.desc).map (fun d => d.parameters.length) = some 1 by decide +kernel) rfl (fun _ _ _ => trivial) hl2.1 (Nat.le_of_ble_eq_true rfl) (eX2_weekOf (7, .invokestatic 53, 3) (List.mem_of_getElem? (i := 5) rfl)) (fun w3 f3 => ?_)
  obtain ⟨v3, rfl, e3⟩ := f3
  have g3 := (show isY (thI n.toInt) v3.toInt ∧ -1000000 ≤ v3.toInt ∧ v3.toInt ≤ 1000000 by have h9 : isY (thI n.toInt) v3.toInt := by { rw [← g1.1]; exact e3.1 }; exact ⟨h9, isY_in2 h9 (by omega) (by omega)⟩)
  refine zu_S (vs := [.int v3]) (rest := [.long v1]) hx hb hml hown hts0 zu_BT (hX2_yearStart l v3 (by omega) (by omega)) ⟨rfl, rfl⟩ ⟨by decide, by decide⟩ ⟨by decide, by decide⟩ (tb_2 193 rfl rfl) (tb_1 13 rfl rfl) (tb_2 191 rfl rfl) (tb_2 192 rfl rfl) (show yX2_yearStart.cls ≠ "java/lang/invoke/MethodHandle" ∧ yX2_yearStart.cls ≠ "java/lang/invoke/VarHandle" ∧ (parseMethodDescriptor yX2_yearStart.desc).map (fun d => d.parameters.length) = some 1 by decide +kernel) rfl (fun _ _ _ => trivial) hl2.1 (Nat.le_of_ble_eq_true rfl) (eX2_weekOf (10, .invokestatic 49, 3) (List.mem_of_getElem? (i := 6) rfl)) (fun w4 f4 => ?_)
  obtain ⟨v4, rfl, e4⟩ := f4
  have g4 := wk_ref g3.1
  refine ff_lsub hx hb (eX2_weekOf (13, .lsub, 1) (List.mem_of_getElem? (i := 7) rfl)) (by omega) (by omega) (fun v5 e5 => ?_)
  refine ff_l2i hx hb (eX2_weekOf (14, .l2i, 1) (List.mem_of_getElem? (i := 8) rfl)) (by omega) (by omega) (fun v6 e6 => ?_)
  refine ff_bipush hx hb (eX2_weekOf (15, .bipush 7, 2) (List.mem_of_getElem? (i := 9) rfl)) (by decide) (by decide) (fun v7 e7 => ?_)
  refine ff_idivP hx hb (eX2_weekOf (17, .idiv, 1) (List.mem_of_getElem? (i := 10) rfl)) (by omega) (e7) (by decide) (fun v8 e8 => ?_)
  refine ff_iconst hx hb (eX2_weekOf (18, .iconst 1, 1) (List.mem_of_getElem? (i := 11) rfl)) (by decide) (by decide) (fun v9 e9 => ?_)
  refine ff_iadd hx hb (eX2_weekOf (19, .iadd, 1) (List.mem_of_getElem? (i := 12) rfl)) (by omega) (by omega) (fun v10 e10 => ?_)
  exact zu_iret (y := yX2_weekOf) (ws := []) (rm := {}) hx hb hr hlk rfl ⟨_, rfl, by (refine ⟨v3.toInt, g3.1, ?_⟩; omega)⟩ (eX2_weekOf (20, .ireturn, 1) (List.mem_of_getElem? (i := 13) rfl))
set_option maxRecDepth 100000 in
set_option maxHeartbeats 4000000 in
theorem hX2_weeksOf (l : Launch) (y : Int32) (hy1 : -1000000 ≤ y.toInt) (hy2 : y.toInt ≤ 1000000) : zu_M l yX2_weeksOf (gW yX2_weeksOf cX2_weeksOf 2 (some .int)) { frames := 1, cells := 0, slots := 0, locals := 22 } (fun vs => vs = [.int y]) zT (fun _ w => ∃ r : Int32, w = .int r ∧ r.toInt = wkI y.toInt) := by
  refine zy_ofW (cc := cX2_weeksOf) (maxL := 2) (ret := (some .int)) (by decide +kernel) rfl ?_
  intro p e s m args below meth c s1 B hml hv
  obtain ⟨vs, rfl, rfl, hKp⟩ := hv
  have hx := B.exec
  have hb := B.bytes
  have hr := B.returns
  have hlk := B.notSynchronized
  have hts0 := atoms_spec (ws := gW yX2_weeksOf cX2_weeksOf 2 (some .int)) B.pre
  have h2 : ∀ w ∈ gT, w.before ([.int y] : List Value).toArray s = true := fun w hw => hts0 w (List.mem_cons_of_mem _ hw)
  have hown : s.vm.findClass RX2 = some m.cls := findClass_of_methodNamed B.named
  have hl := lv_entry [.int y] (n := 2) (Nat.le_of_ble_eq_true rfl)
  rw [lg_entry_eq]
  generalize (lg_sl [.int y] ++ List.replicate (2 - (lg_sl [.int y]).length) Slot.unset).toArray = ls at hl ⊢
  have b_y := zn_i32 y
  refine lv_iload_n hx hb (eX2_weeksOf (0, .iload_n 0, 1) (List.mem_of_getElem? (i := 0) rfl)) rfl (lv_at hl 0 rfl) ?_
  refine zu_S (vs := [.int y]) (rest := []) hx hb hml hown hts0 zu_BT (hX2_yearStart l y (by omega) (by omega)) ⟨rfl, rfl⟩ ⟨by decide, by decide⟩ ⟨by decide, by decide⟩ (tb_2 193 rfl rfl) (tb_1 13 rfl rfl) (tb_2 191 rfl rfl) (tb_2 192 rfl rfl) (show yX2_yearStart.cls ≠ "java/lang/invoke/MethodHandle" ∧ yX2_yearStart.cls ≠ "java/lang/invoke/VarHandle" ∧ (parseMethodDescriptor yX2_yearStart.desc).map (fun d => d.parameters.length) = some 1 by decide +kernel) rfl (fun _ _ _ => trivial) hl.1 (Nat.le_of_ble_eq_true rfl) (eX2_weeksOf (1, .invokestatic 49, 3) (List.mem_of_getElem? (i := 1) rfl)) (fun w1 f1 => ?_)
  obtain ⟨v1, rfl, e1⟩ := f1
  have g1 := ys_bd2 (y := y.toInt) (by omega) (by omega)
  refine zu_S (vs := [.long v1]) (rest := []) hx hb hml hown hts0 zu_BT (hX2_weekdayOf l v1 (by omega) (by omega)) ⟨rfl, rfl⟩ ⟨by decide, by decide⟩ ⟨by decide, by decide⟩ (tb_2 231 rfl rfl) (tb_1 13 rfl rfl) (tb_3 1 rfl rfl) (tb_2 230 rfl rfl) (show yX2_weekdayOf.cls ≠ "java/lang/invoke/MethodHandle" ∧ yX2_weekdayOf.cls ≠ "java/lang/invoke/VarHandle" ∧ (parseMethodDescriptor yX2_weekdayOf.desc).map (fun d => d.parameters.length) = some 1 by decide +kernel) rfl (fun _ _ _ => trivial) hl.1 (Nat.le_of_ble_eq_true rfl) (eX2_weeksOf (4, .invokestatic 108, 3) (List.mem_of_getElem? (i := 2) rfl)) (fun w2 f2 => ?_)
  obtain ⟨v2, rfl, e2⟩ := f2
  refine lv_istore_n hx hb (eX2_weeksOf (7, .istore_n 1, 1) (List.mem_of_getElem? (i := 3) rfl)) rfl hl (by decide) rfl (fun ls3 hl3 => ?_)
  refine lv_iload_n hx hb (eX2_weeksOf (8, .iload_n 1, 1) (List.mem_of_getElem? (i := 4) rfl)) rfl (lv_at hl3 0 rfl) ?_
  refine ff_iconst hx hb (eX2_weeksOf (9, .iconst 4, 1) (List.mem_of_getElem? (i := 5) rfl)) (by decide) (by decide) (fun v4 e4 => ?_)
  refine ff_icmp_eq hx hb (eX2_weeksOf (10, .if_icmp .eq 15, 3) (List.mem_of_getElem? (i := 6) rfl)) (tgt := 25) rfl (fun c5 => ?_) (fun c5 => ?_)
  · skip
    refine ff_bipush hx hb (eX2_weeksOf (25, .bipush 53, 2) (List.mem_of_getElem? (i := 13) rfl)) (by decide) (by decide) (fun v6 e6 => ?_)
    refine lv_goto hx hb (eX2_weeksOf (27, .goto 5, 3) (List.mem_of_getElem? (i := 14) rfl)) (tgt := 32) rfl ?_
    exact zu_iret (y := yX2_weeksOf) (ws := []) (rm := {}) hx hb hr hlk rfl ⟨_, rfl, by (have h9 := wk_cls y.toInt; omega)⟩ (eX2_weeksOf (32, .ireturn, 1) (List.mem_of_getElem? (i := 16) rfl))
  · skip
    refine lv_iload_n hx hb (eX2_weeksOf (13, .iload_n 1, 1) (List.mem_of_getElem? (i := 7) rfl)) rfl (lv_at hl3 0 rfl) ?_
    refine ff_iconst hx hb (eX2_weeksOf (14, .iconst 3, 1) (List.mem_of_getElem? (i := 8) rfl)) (by decide) (by decide) (fun v7 e7 => ?_)
    refine ff_icmp_ne hx hb (eX2_weeksOf (15, .if_icmp .ne 15, 3) (List.mem_of_getElem? (i := 9) rfl)) (tgt := 30) rfl (fun c8 => ?_) (fun c8 => ?_)
    · skip
      refine ff_bipush hx hb (eX2_weeksOf (30, .bipush 52, 2) (List.mem_of_getElem? (i := 15) rfl)) (by decide) (by decide) (fun v9 e9 => ?_)
      exact zu_iret (y := yX2_weeksOf) (ws := []) (rm := {}) hx hb hr hlk rfl ⟨_, rfl, by (have h9 := wk_cls y.toInt; omega)⟩ (eX2_weeksOf (32, .ireturn, 1) (List.mem_of_getElem? (i := 16) rfl))
    · skip
      refine lv_iload_n hx hb (eX2_weeksOf (18, .iload_n 0, 1) (List.mem_of_getElem? (i := 10) rfl)) rfl (lv_at hl3 1 rfl) ?_
      refine zu_S (vs := [.int y]) (rest := []) hx hb hml hown hts0 zu_BT (hX2_isLeapYear l y) ⟨rfl, rfl⟩ ⟨by decide, by decide⟩ ⟨by decide, by decide⟩ (tb_2 120 rfl rfl) (tb_1 13 rfl rfl) (tb_2 118 rfl rfl) (tb_2 119 rfl rfl) (show yX2_isLeapYear.cls ≠ "java/lang/invoke/MethodHandle" ∧ yX2_isLeapYear.cls ≠ "java/lang/invoke/VarHandle" ∧ (parseMethodDescriptor yX2_isLeapYear.desc).map (fun d => d.parameters.length) = some 1 by decide +kernel) rfl (fun _ _ _ => trivial) hl3.1 (Nat.le_of_ble_eq_true rfl) (eX2_weeksOf (19, .invokestatic 21, 3) (List.mem_of_getElem? (i := 11) rfl)) (fun w10 f10 => ?_)
      obtain ⟨v10, rfl, e10⟩ := f10
      have g10 := lpI_bd y.toInt
      refine ff_if_eq hx hb (eX2_weeksOf (22, .ifCond .eq 8, 3) (List.mem_of_getElem? (i := 12) rfl)) (tgt := 30) rfl (fun c11 => ?_) (fun c11 => ?_)
      · skip
        refine ff_bipush hx hb (eX2_weeksOf (30, .bipush 52, 2) (List.mem_of_getElem? (i := 15) rfl)) (by decide) (by decide) (fun v12 e12 => ?_)
        exact zu_iret (y := yX2_weeksOf) (ws := []) (rm := {}) hx hb hr hlk rfl ⟨_, rfl, by (have h9 := wk_cls y.toInt; omega)⟩ (eX2_weeksOf (32, .ireturn, 1) (List.mem_of_getElem? (i := 16) rfl))
      · skip
        refine ff_bipush hx hb (eX2_weeksOf (25, .bipush 53, 2) (List.mem_of_getElem? (i := 13) rfl)) (by decide) (by decide) (fun v13 e13 => ?_)
        refine lv_goto hx hb (eX2_weeksOf (27, .goto 5, 3) (List.mem_of_getElem? (i := 14) rfl)) (tgt := 32) rfl ?_
        exact zu_iret (y := yX2_weeksOf) (ws := []) (rm := {}) hx hb hr hlk rfl ⟨_, rfl, by (have h9 := wk_cls y.toInt; omega)⟩ (eX2_weeksOf (32, .ireturn, 1) (List.mem_of_getElem? (i := 16) rfl))
