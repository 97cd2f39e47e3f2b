set_option maxRecDepth 100000 in
set_option maxHeartbeats 4000000 in
theorem wK_writeDate (l : Launch) (hst : l.stackTraces = false) (D : va_G) (cA : Nat → ClassId) (ro : Nat → Option Nat) (sz : Nat) (H0 : Heap) (x : Nat) (p1 : Int64) (p2 : Int32) (o : Nat) (L : List Int) (zc : Int) (T O : List Int) (hx10 : ro x = some 10) (ho : ro o = some 42) : Met l yL_writeDate (Cond.codeWith yL_writeDate cL_writeDate 6 (some .int) [(0, 11, 14, 13)] :: gT) { frames := 7, cells := 1, slots := 6, locals := 139 } (zs_PY D cA ro sz H0 (fun H => jCS D cA ro H x L zc ∧ jCK D cA ro H x T O) [.ref x, .long p1, .int p2, .ref o]) (zk_QL D cA ro sz H0 x o (spW p1.toInt p2.toInt T O)) 1 6 (zy_fr sz) := by
  refine zw_ofW (cc := cL_writeDate) (maxL := 6) (ret := some .int) (by decide +kernel) rfl ?_
  intro p e s m args below meth c s1 B hml hv
  obtain ⟨rfl, hh, hKa, hBQ, hJ⟩ := hv
  have hx := B.exec
  have hb := B.bytes
  have hr := B.returns
  have hlk := B.notSynchronized
  have hts0 := atoms_spec (ws := Cond.codeWith yL_writeDate cL_writeDate 6 (some .int) [(0, 11, 14, 13)] :: gT) B.pre
  have h2 : ∀ w ∈ gT, w.before ([.ref x, .long p1, .int p2, .ref o] : List Value).toArray s = true := fun w hw => hts0 w (List.mem_cons_of_mem _ hw)
  have hown : s.vm.findClass RL = some m.cls := findClass_of_methodNamed B.named
  have hl := lv_entry [.ref x, .long p1, .int p2, .ref o] (n := 6) (Nat.le_of_ble_eq_true rfl)
  rw [lg_entry_eq]
  generalize (lg_sl [.ref x, .long p1, .int p2, .ref o] ++ List.replicate (6 - (lg_sl [.ref x, .long p1, .int p2, .ref o]).length) Slot.unset).toArray = ls at hl ⊢
  refine lv_aload hx hb (eL_writeDate (0, .aload 4, 2) (List.mem_of_getElem? (i := 0) rfl)) (lv_at hl 3 rfl) ?_
  refine ff_iconst hx hb (eL_writeDate (2, .iconst 0, 1) (List.mem_of_getElem? (i := 1) rfl)) (by decide) (by decide) (fun v1 e1 => ?_)
  refine lv_aload_n hx hb (eL_writeDate (3, .aload_n 0, 1) (List.mem_of_getElem? (i := 2) rfl)) rfl (lv_at hl 0 rfl) ?_
  refine lv_lload_n hx hb (eL_writeDate (4, .lload_n 1, 1) (List.mem_of_getElem? (i := 3) rfl)) rfl (lv_at hl 1 rfl) ?_
  refine lv_iload_n hx hb (eL_writeDate (5, .iload_n 3, 1) (List.mem_of_getElem? (i := 4) rfl)) rfl (lv_at hl 2 rfl) ?_
  refine zx_rowG (As := [.long p1, .int p2]) (st := [.int v1, .ref o]) (b := x) (C := RX11) hx hb hml hown hts0 (hX11_writeDate l hst D cA ro sz H0 x p1 p2 L zc T O hx10) ⟨rfl, rfl⟩ ⟨by decide, by decide⟩ ⟨by decide, by decide⟩ (tb_5 203 rfl rfl) (tb_1 1 rfl rfl) (tb_5 200 rfl rfl) (tb_5 201 rfl rfl) (tb_5 202 rfl rfl) rfl (show yX11_writeDate.cls ≠ "java/lang/invoke/MethodHandle" ∧ yX11_writeDate.cls ≠ "java/lang/invoke/VarHandle" ∧ (parseMethodDescriptor yX11_writeDate.desc).map (fun d => d.parameters.length) = some 2 by decide +kernel) zs_blindY (zw_ob hh hKa.1.1.1 hx10) (fun U hU hW => ⟨rfl, by rw [hU]; exact hh, hKa.warm hW, hBQ.alike hW.alike, by rw [hU]; exact hJ⟩) (fun q hq => by cases hq) hl.1 (Nat.le_of_ble_eq_true rfl) (eL_writeDate (6, .invokevirtual 75, 3) (List.mem_of_getElem? (i := 5) rfl)) (fun v s0 t lo1 g0 g1 g2 => ?_) (fun q s0 t lo1 E ce g0 g1 g3 g4 g5 g2 => ?_)
  · obtain ⟨v9, r9, T9, O9, q1, ⟨y9, q2, q3⟩, q5, q6, q7, q8⟩ := g1
    cases q1
    cases q2
    rw [g0] at q6
    have hh1 : zh_ok D cA RTg ro sz H0 t.heap lo1 := ⟨q5.1, q5.2.1, g2, q5.2.2.2⟩
    have kp1 := q6
    refine W.eq (g2 := F0 m 9 ls [.int y9, .int v1, .ref o]) rfl ?_
    refine ff_i2l hx hb (eL_writeDate (9, .i2l, 1) (List.mem_of_getElem? (i := 6) rfl)) (fun v2 e2 => ?_)
    refine zw_out hx hb hh1 hKa.1.1.1 ho (by omega) (eL_writeDate (10, .lastore, 1) (List.mem_of_getElem? (i := 7) rfl)) (fun H9 lo9 hh9 hq9 _ hz9 => ?_)
    obtain ⟨z9, hz9, hz8⟩ := hz9
    have kg9 : zc_kept D RTg ro [(42, 0)] t.heap H9 := zk_setA (by decide) ho rfl hq9
    have kp9 := kp1.trans (kg9.mono (ms' := kMc) (by decide))
    have j9 := q7.kept hx10 kg9 (by decide)
    refine lv_goto hx hb (eL_writeDate (11, .goto 7, 3) (List.mem_of_getElem? (i := 8) rfl)) (tgt := 18) rfl ?_
    refine ff_iconst hx hb (eL_writeDate (18, .iconst 0, 1) (List.mem_of_getElem? (i := 12) rfl)) (by decide) (by decide) (fun v3 e3 => ?_)
    exact W.zret hx hb hr rfl (fun t ht hW => ⟨_, T9, O9, z9, v2, rfl, by rw [ht]; exact hh9.l0, by rw [ht]; exact kp9, by rw [ht]; exact j9, by rw [ht]; exact hz9, hz8, Or.inl ⟨by omega, by rw [show v2.toInt = r9 by omega]; exact q8⟩⟩) hh9.2.2.1 (eL_writeDate (19, .ireturn, 1) (List.mem_of_getElem? (i := 13) rfl))
  · obtain ⟨q4, k5, hE⟩ := g1
    rw [g0] at k5
    have k4 : zc_kept D RTg ro kMc s.heap t.heap := k5.mono (fun _ h => by cases h)
    have hh1 : zh_ok D cA RTg ro sz H0 t.heap lo1 := ⟨q4.1, q4.2.1, g2, q4.2.2.2⟩
    have j1 := hJ.2.kept hx10 k5 (by decide)
    obtain ⟨-, z1, oc1, yo1⟩ := zh_arr hh1 ho (show RTg[42]? = some (1, 1, 1, [(1, (-9223372036854775808), 9223372036854775807)]) from rfl)
    obtain ⟨r1, or1, -, -⟩ := yo1 0 (by decide)
    rcases hE with ⟨rfl, sp1⟩ | ⟨rfl, sp1⟩
    · refine vx_catch (own := RL) (name := "java/lang/IllegalArgumentException") hown [] ⟨0, 11, 14, 13⟩ [] (vx_table (x := yL_writeDate) B (h2 _ (tb_5 199 rfl rfl))) (fun z hz => by cases hz) rfl (by decide) (h2 _ (tb_2 103 rfl rfl)) (va_Nw.use rfl (hKa.1.2.2.2.2.1 (eI, eI) (List.mem_of_getElem? (i := 0) rfl))) g3 g4 g5 ?_
      refine lv_astore hx hb (eL_writeDate (14, .astore 5, 2) (List.mem_of_getElem? (i := 9) rfl)) hl (by decide) rfl (fun ls4 hl4 => ?_)
      refine ff_iconst hx hb (eL_writeDate (16, .iconst 1, 1) (List.mem_of_getElem? (i := 10) rfl)) (by decide) (by decide) (fun v5 e5 => ?_)
      exact W.zret hx hb hr rfl (fun t ht hW => ⟨_, T, O, z1, r1, rfl, by rw [ht]; exact hh1.l0, by rw [ht]; exact k4, by rw [ht]; exact j1, by rw [ht]; exact oc1, or1, Or.inr ⟨by omega, by have g6 := sp1; rw [show (1 : Int) = _ from (by omega : (1 : Int) = v5.toInt)] at g6; exact g6⟩⟩) hh1.2.2.1 (eL_writeDate (17, .ireturn, 1) (List.mem_of_getElem? (i := 11) rfl))
    · exfalso
      obtain ⟨r8, sp1⟩ := sp1
      exact spW_no2 sp1
set_option maxRecDepth 100000 in
set_option maxHeartbeats 4000000 in
theorem wK_writeInstant (l : Launch) (hst : l.stackTraces = false) (D : va_G) (cA : Nat → ClassId) (ro : Nat → Option Nat) (sz : Nat) (H0 : Heap) (x : Nat) (p1 : Int64) (p2 : Int32) (p3 : Int32) (p4 : Int32) (o : Nat) (L : List Int) (zc : Int) (T O : List Int) (hx10 : ro x = some 10) (ho : ro o = some 42) : Met l yL_writeInstant (Cond.codeWith yL_writeInstant cL_writeInstant 8 (some .int) [(0, 15, 18, 13)] :: gT) { frames := 7, cells := 1, slots := 6, locals := 142 } (zs_PY D cA ro sz H0 (fun H => jCS D cA ro H x L zc ∧ jCK D cA ro H x T O) [.ref x, .long p1, .int p2, .int p3, .int p4, .ref o]) (zk_QL D cA ro sz H0 x o (spN p1.toInt p2.toInt p3.toInt p4.toInt L T O)) 1 6 (zy_fr sz) := by
  refine zw_ofW (cc := cL_writeInstant) (maxL := 8) (ret := some .int) (by decide +kernel) rfl ?_
  intro p e s m args below meth c s1 B hml hv
  obtain ⟨rfl, hh, hKa, hBQ, hJ⟩ := hv
  have hx := B.exec
  have hb := B.bytes
  have hr := B.returns
  have hlk := B.notSynchronized
  have hts0 := atoms_spec (ws := Cond.codeWith yL_writeInstant cL_writeInstant 8 (some .int) [(0, 15, 18, 13)] :: gT) B.pre
  have h2 : ∀ w ∈ gT, w.before ([.ref x, .long p1, .int p2, .int p3, .int p4, .ref o] : List Value).toArray s = true := fun w hw => hts0 w (List.mem_cons_of_mem _ hw)
  have hown : s.vm.findClass RL = some m.cls := findClass_of_methodNamed B.named
  have hl := lv_entry [.ref x, .long p1, .int p2, .int p3, .int p4, .ref o] (n := 8) (Nat.le_of_ble_eq_true rfl)
  rw [lg_entry_eq]
  generalize (lg_sl [.ref x, .long p1, .int p2, .int p3, .int p4, .ref o] ++ List.replicate (8 - (lg_sl [.ref x, .long p1, .int p2, .int p3, .int p4, .ref o]).length) Slot.unset).toArray = ls at hl ⊢
  refine lv_aload hx hb (eL_writeInstant (0, .aload 6, 2) (List.mem_of_getElem? (i := 0) rfl)) (lv_at hl 5 rfl) ?_
  refine ff_iconst hx hb (eL_writeInstant (2, .iconst 0, 1) (List.mem_of_getElem? (i := 1) rfl)) (by decide) (by decide) (fun v1 e1 => ?_)
  refine lv_aload_n hx hb (eL_writeInstant (3, .aload_n 0, 1) (List.mem_of_getElem? (i := 2) rfl)) rfl (lv_at hl 0 rfl) ?_
  refine lv_lload_n hx hb (eL_writeInstant (4, .lload_n 1, 1) (List.mem_of_getElem? (i := 3) rfl)) rfl (lv_at hl 1 rfl) ?_
  refine lv_iload_n hx hb (eL_writeInstant (5, .iload_n 3, 1) (List.mem_of_getElem? (i := 4) rfl)) rfl (lv_at hl 2 rfl) ?_
  refine lv_iload hx hb (eL_writeInstant (6, .iload 4, 2) (List.mem_of_getElem? (i := 5) rfl)) (lv_at hl 3 rfl) ?_
  refine lv_iload hx hb (eL_writeInstant (8, .iload 5, 2) (List.mem_of_getElem? (i := 6) rfl)) (lv_at hl 4 rfl) ?_
  refine zx_rowG (As := [.long p1, .int p2, .int p3, .int p4]) (st := [.int v1, .ref o]) (b := x) (C := RX11) hx hb hml hown hts0 (hX11_writeInstant l hst D cA ro sz H0 x p1 p2 p3 p4 L zc T O hx10) ⟨rfl, rfl⟩ ⟨by decide, by decide⟩ ⟨by decide, by decide⟩ (tb_6 17 rfl rfl) (tb_1 1 rfl rfl) (tb_6 14 rfl rfl) (tb_6 15 rfl rfl) (tb_6 16 rfl rfl) rfl (show yX11_writeInstant.cls ≠ "java/lang/invoke/MethodHandle" ∧ yX11_writeInstant.cls ≠ "java/lang/invoke/VarHandle" ∧ (parseMethodDescriptor yX11_writeInstant.desc).map (fun d => d.parameters.length) = some 4 by decide +kernel) zs_blindY (zw_ob hh hKa.1.1.1 hx10) (fun U hU hW => ⟨rfl, by rw [hU]; exact hh, hKa.warm hW, hBQ.alike hW.alike, by rw [hU]; exact hJ⟩) (fun q hq => by cases hq) hl.1 (Nat.le_of_ble_eq_true rfl) (eL_writeInstant (10, .invokevirtual 78, 3) (List.mem_of_getElem? (i := 7) rfl)) (fun v s0 t lo1 g0 g1 g2 => ?_) (fun q s0 t lo1 E ce g0 g1 g3 g4 g5 g2 => ?_)
  · obtain ⟨v9, r9, T9, O9, q1, ⟨y9, q2, q3⟩, q5, q6, q7, q8⟩ := g1
    cases q1
    cases q2
    rw [g0] at q6
    have hh1 : zh_ok D cA RTg ro sz H0 t.heap lo1 := ⟨q5.1, q5.2.1, g2, q5.2.2.2⟩
    have kp1 := q6
    refine W.eq (g2 := F0 m 13 ls [.int y9, .int v1, .ref o]) rfl ?_
    refine ff_i2l hx hb (eL_writeInstant (13, .i2l, 1) (List.mem_of_getElem? (i := 8) rfl)) (fun v2 e2 => ?_)
    refine zw_out hx hb hh1 hKa.1.1.1 ho (by omega) (eL_writeInstant (14, .lastore, 1) (List.mem_of_getElem? (i := 9) rfl)) (fun H9 lo9 hh9 hq9 _ hz9 => ?_)
    obtain ⟨z9, hz9, hz8⟩ := hz9
    have kg9 : zc_kept D RTg ro [(42, 0)] t.heap H9 := zk_setA (by decide) ho rfl hq9
    have kp9 := kp1.trans (kg9.mono (ms' := kMc) (by decide))
    have j9 := q7.kept hx10 kg9 (by decide)
    refine lv_goto hx hb (eL_writeInstant (15, .goto 7, 3) (List.mem_of_getElem? (i := 10) rfl)) (tgt := 22) rfl ?_
    refine ff_iconst hx hb (eL_writeInstant (22, .iconst 0, 1) (List.mem_of_getElem? (i := 14) rfl)) (by decide) (by decide) (fun v3 e3 => ?_)
    exact W.zret hx hb hr rfl (fun t ht hW => ⟨_, T9, O9, z9, v2, rfl, by rw [ht]; exact hh9.l0, by rw [ht]; exact kp9, by rw [ht]; exact j9, by rw [ht]; exact hz9, hz8, Or.inl ⟨by omega, by rw [show v2.toInt = r9 by omega]; exact q8⟩⟩) hh9.2.2.1 (eL_writeInstant (23, .ireturn, 1) (List.mem_of_getElem? (i := 15) rfl))
  · obtain ⟨q4, k5, hE⟩ := g1
    rw [g0] at k5
    have k4 : zc_kept D RTg ro kMc s.heap t.heap := k5.mono (fun _ h => by cases h)
    have hh1 : zh_ok D cA RTg ro sz H0 t.heap lo1 := ⟨q4.1, q4.2.1, g2, q4.2.2.2⟩
    have j1 := hJ.2.kept hx10 k5 (by decide)
    obtain ⟨-, z1, oc1, yo1⟩ := zh_arr hh1 ho (show RTg[42]? = some (1, 1, 1, [(1, (-9223372036854775808), 9223372036854775807)]) from rfl)
    obtain ⟨r1, or1, -, -⟩ := yo1 0 (by decide)
    rcases hE with ⟨rfl, sp1⟩ | ⟨rfl, sp1⟩
    · refine vx_catch (own := RL) (name := "java/lang/IllegalArgumentException") hown [] ⟨0, 15, 18, 13⟩ [] (vx_table (x := yL_writeInstant) B (h2 _ (tb_6 13 rfl rfl))) (fun z hz => by cases hz) rfl (by decide) (h2 _ (tb_2 103 rfl rfl)) (va_Nw.use rfl (hKa.1.2.2.2.2.1 (eI, eI) (List.mem_of_getElem? (i := 0) rfl))) g3 g4 g5 ?_
      refine lv_astore hx hb (eL_writeInstant (18, .astore 7, 2) (List.mem_of_getElem? (i := 11) rfl)) hl (by decide) rfl (fun ls4 hl4 => ?_)
      refine ff_iconst hx hb (eL_writeInstant (20, .iconst 1, 1) (List.mem_of_getElem? (i := 12) rfl)) (by decide) (by decide) (fun v5 e5 => ?_)
      exact W.zret hx hb hr rfl (fun t ht hW => ⟨_, T, O, z1, r1, rfl, by rw [ht]; exact hh1.l0, by rw [ht]; exact k4, by rw [ht]; exact j1, by rw [ht]; exact oc1, or1, Or.inr ⟨by omega, by have g6 := sp1; rw [show (1 : Int) = _ from (by omega : (1 : Int) = v5.toInt)] at g6; exact g6⟩⟩) hh1.2.2.1 (eL_writeInstant (21, .ireturn, 1) (List.mem_of_getElem? (i := 13) rfl))
    · exfalso
      obtain ⟨r8, sp1⟩ := sp1
      exact spN_no2 sp1
set_option maxRecDepth 100000 in
set_option maxHeartbeats 4000000 in
theorem wK_writeDuration (l : Launch) (hst : l.stackTraces = false) (D : va_G) (cA : Nat → ClassId) (ro : Nat → Option Nat) (sz : Nat) (H0 : Heap) (x : Nat) (p1 : Int64) (p2 : Int64) (p3 : Int64) (p4 : Int32) (o : Nat) (L : List Int) (zc : Int) (T O : List Int) (hx10 : ro x = some 10) (ho : ro o = some 42) : Met l yL_writeDuration (Cond.codeWith yL_writeDuration cL_writeDuration 10 (some .int) [(0, 15, 18, 13)] :: gT) { frames := 7, cells := 1, slots := 6, locals := 109 } (zs_PY D cA ro sz H0 (fun H => jCS D cA ro H x L zc ∧ jCK D cA ro H x T O) [.ref x, .long p1, .long p2, .long p3, .int p4, .ref o]) (zk_QL D cA ro sz H0 x o (spU p1.toInt p2.toInt p3.toInt p4.toInt T O)) 1 6 (zy_fr sz) := by
  refine zw_ofW (cc := cL_writeDuration) (maxL := 10) (ret := some .int) (by decide +kernel) rfl ?_
  intro p e s m args below meth c s1 B hml hv
  obtain ⟨rfl, hh, hKa, hBQ, hJ⟩ := hv
  have hx := B.exec
  have hb := B.bytes
  have hr := B.returns
  have hlk := B.notSynchronized
  have hts0 := atoms_spec (ws := Cond.codeWith yL_writeDuration cL_writeDuration 10 (some .int) [(0, 15, 18, 13)] :: gT) B.pre
  have h2 : ∀ w ∈ gT, w.before ([.ref x, .long p1, .long p2, .long p3, .int p4, .ref o] : List Value).toArray s = true := fun w hw => hts0 w (List.mem_cons_of_mem _ hw)
  have hown : s.vm.findClass RL = some m.cls := findClass_of_methodNamed B.named
  have hl := lv_entry [.ref x, .long p1, .long p2, .long p3, .int p4, .ref o] (n := 10) (Nat.le_of_ble_eq_true rfl)
  rw [lg_entry_eq]
  generalize (lg_sl [.ref x, .long p1, .long p2, .long p3, .int p4, .ref o] ++ List.replicate (10 - (lg_sl [.ref x, .long p1, .long p2, .long p3, .int p4, .ref o]).length) Slot.unset).toArray = ls at hl ⊢
  refine lv_aload hx hb (eL_writeDuration (0, .aload 8, 2) (List.mem_of_getElem? (i := 0) rfl)) (lv_at hl 5 rfl) ?_
  refine ff_iconst hx hb (eL_writeDuration (2, .iconst 0, 1) (List.mem_of_getElem? (i := 1) rfl)) (by decide) (by decide) (fun v1 e1 => ?_)
  refine lv_aload_n hx hb (eL_writeDuration (3, .aload_n 0, 1) (List.mem_of_getElem? (i := 2) rfl)) rfl (lv_at hl 0 rfl) ?_
  refine lv_lload_n hx hb (eL_writeDuration (4, .lload_n 1, 1) (List.mem_of_getElem? (i := 3) rfl)) rfl (lv_at hl 1 rfl) ?_
  refine lv_lload_n hx hb (eL_writeDuration (5, .lload_n 3, 1) (List.mem_of_getElem? (i := 4) rfl)) rfl (lv_at hl 2 rfl) ?_
  refine lv_lload hx hb (eL_writeDuration (6, .lload 5, 2) (List.mem_of_getElem? (i := 5) rfl)) (lv_at hl 3 rfl) ?_
  refine lv_iload hx hb (eL_writeDuration (8, .iload 7, 2) (List.mem_of_getElem? (i := 6) rfl)) (lv_at hl 4 rfl) ?_
  refine zx_rowG (As := [.long p1, .long p2, .long p3, .int p4]) (st := [.int v1, .ref o]) (b := x) (C := RX11) hx hb hml hown hts0 (hX11_writeDuration l hst D cA ro sz H0 x p1 p2 p3 p4 L zc T O hx10) ⟨rfl, rfl⟩ ⟨by decide, by decide⟩ ⟨by decide, by decide⟩ (tb_6 41 rfl rfl) (tb_1 1 rfl rfl) (tb_6 38 rfl rfl) (tb_6 39 rfl rfl) (tb_6 40 rfl rfl) rfl (show yX11_writeDuration.cls ≠ "java/lang/invoke/MethodHandle" ∧ yX11_writeDuration.cls ≠ "java/lang/invoke/VarHandle" ∧ (parseMethodDescriptor yX11_writeDuration.desc).map (fun d => d.parameters.length) = some 4 by decide +kernel) zs_blindY (zw_ob hh hKa.1.1.1 hx10) (fun U hU hW => ⟨rfl, by rw [hU]; exact hh, hKa.warm hW, hBQ.alike hW.alike, by rw [hU]; exact hJ⟩) (fun q hq => by cases hq) hl.1 (Nat.le_of_ble_eq_true rfl) (eL_writeDuration (10, .invokevirtual 82, 3) (List.mem_of_getElem? (i := 7) rfl)) (fun v s0 t lo1 g0 g1 g2 => ?_) (fun q s0 t lo1 E ce g0 g1 g3 g4 g5 g2 => ?_)
  · obtain ⟨v9, r9, T9, O9, q1, ⟨y9, q2, q3⟩, q5, q6, q7, q8⟩ := g1
    cases q1
    cases q2
    rw [g0] at q6
    have hh1 : zh_ok D cA RTg ro sz H0 t.heap lo1 := ⟨q5.1, q5.2.1, g2, q5.2.2.2⟩
    have kp1 := q6
    refine W.eq (g2 := F0 m 13 ls [.int y9, .int v1, .ref o]) rfl ?_
    refine ff_i2l hx hb (eL_writeDuration (13, .i2l, 1) (List.mem_of_getElem? (i := 8) rfl)) (fun v2 e2 => ?_)
    refine zw_out hx hb hh1 hKa.1.1.1 ho (by omega) (eL_writeDuration (14, .lastore, 1) (List.mem_of_getElem? (i := 9) rfl)) (fun H9 lo9 hh9 hq9 _ hz9 => ?_)
    obtain ⟨z9, hz9, hz8⟩ := hz9
    have kg9 : zc_kept D RTg ro [(42, 0)] t.heap H9 := zk_setA (by decide) ho rfl hq9
    have kp9 := kp1.trans (kg9.mono (ms' := kMc) (by decide))
    have j9 := q7.kept hx10 kg9 (by decide)
    refine lv_goto hx hb (eL_writeDuration (15, .goto 7, 3) (List.mem_of_getElem? (i := 10) rfl)) (tgt := 22) rfl ?_
    refine ff_iconst hx hb (eL_writeDuration (22, .iconst 0, 1) (List.mem_of_getElem? (i := 14) rfl)) (by decide) (by decide) (fun v3 e3 => ?_)
    exact W.zret hx hb hr rfl (fun t ht hW => ⟨_, T9, O9, z9, v2, rfl, by rw [ht]; exact hh9.l0, by rw [ht]; exact kp9, by rw [ht]; exact j9, by rw [ht]; exact hz9, hz8, Or.inl ⟨by omega, by rw [show v2.toInt = r9 by omega]; exact q8⟩⟩) hh9.2.2.1 (eL_writeDuration (23, .ireturn, 1) (List.mem_of_getElem? (i := 15) rfl))
  · obtain ⟨q4, k5, hE⟩ := g1
    rw [g0] at k5
    have k4 : zc_kept D RTg ro kMc s.heap t.heap := k5.mono (fun _ h => by cases h)
    have hh1 : zh_ok D cA RTg ro sz H0 t.heap lo1 := ⟨q4.1, q4.2.1, g2, q4.2.2.2⟩
    have j1 := hJ.2.kept hx10 k5 (by decide)
    obtain ⟨-, z1, oc1, yo1⟩ := zh_arr hh1 ho (show RTg[42]? = some (1, 1, 1, [(1, (-9223372036854775808), 9223372036854775807)]) from rfl)
    obtain ⟨r1, or1, -, -⟩ := yo1 0 (by decide)
    rcases hE with ⟨rfl, sp1⟩ | ⟨rfl, sp1⟩
    · refine vx_catch (own := RL) (name := "java/lang/IllegalArgumentException") hown [] ⟨0, 15, 18, 13⟩ [] (vx_table (x := yL_writeDuration) B (h2 _ (tb_6 37 rfl rfl))) (fun z hz => by cases hz) rfl (by decide) (h2 _ (tb_2 103 rfl rfl)) (va_Nw.use rfl (hKa.1.2.2.2.2.1 (eI, eI) (List.mem_of_getElem? (i := 0) rfl))) g3 g4 g5 ?_
      refine lv_astore hx hb (eL_writeDuration (18, .astore 9, 2) (List.mem_of_getElem? (i := 11) rfl)) hl (by decide) rfl (fun ls4 hl4 => ?_)
      refine ff_iconst hx hb (eL_writeDuration (20, .iconst 1, 1) (List.mem_of_getElem? (i := 12) rfl)) (by decide) (by decide) (fun v5 e5 => ?_)
      exact W.zret hx hb hr rfl (fun t ht hW => ⟨_, T, O, z1, r1, rfl, by rw [ht]; exact hh1.l0, by rw [ht]; exact k4, by rw [ht]; exact j1, by rw [ht]; exact oc1, or1, Or.inr ⟨by omega, by have g6 := sp1; rw [show (1 : Int) = _ from (by omega : (1 : Int) = v5.toInt)] at g6; exact g6⟩⟩) hh1.2.2.1 (eL_writeDuration (21, .ireturn, 1) (List.mem_of_getElem? (i := 13) rfl))
    · exfalso
      obtain ⟨r8, sp1⟩ := sp1
      exact spU_no2 sp1
set_option maxRecDepth 100000 in
set_option maxHeartbeats 4000000 in
theorem wK_type (l : Launch) (hst : l.stackTraces = false) (D : va_G) (cA : Nat → ClassId) (ro : Nat → Option Nat) (sz : Nat) (H0 : Heap) (x : Nat) (p1 : Int64) (p2 : Int32) (o : Nat) (L : List Int) (zc : Int) (T O : List Int) (hx10 : ro x = some 10) (ho : ro o = some 42) : Met l yL_type (Cond.codeWith yL_type cL_type 6 (some .int) [(0, 11, 14, 13), (0, 11, 18, 34)] :: gT) { frames := 7, cells := 1, slots := 6, locals := 106 } (zs_PY D cA ro sz H0 (fun H => jCS D cA ro H x L zc ∧ jCK D cA ro H x T O) [.ref x, .long p1, .int p2, .ref o]) (zk_QL D cA ro sz H0 x o (spT p1 p2.toInt T O)) 1 6 (zy_fr sz) := by
  refine zw_ofW (cc := cL_type) (maxL := 6) (ret := some .int) (by decide +kernel) rfl ?_
  intro p e s m args below meth c s1 B hml hv
  obtain ⟨rfl, hh, hKa, hBQ, hJ⟩ := hv
  have hx := B.exec
  have hb := B.bytes
  have hr := B.returns
  have hlk := B.notSynchronized
  have hts0 := atoms_spec (ws := Cond.codeWith yL_type cL_type 6 (some .int) [(0, 11, 14, 13), (0, 11, 18, 34)] :: gT) B.pre
  have h2 : ∀ w ∈ gT, w.before ([.ref x, .long p1, .int p2, .ref o] : List Value).toArray s = true := fun w hw => hts0 w (List.mem_cons_of_mem _ hw)
  have hown : s.vm.findClass RL = some m.cls := findClass_of_methodNamed B.named
  have hl := lv_entry [.ref x, .long p1, .int p2, .ref o] (n := 6) (Nat.le_of_ble_eq_true rfl)
  rw [lg_entry_eq]
  generalize (lg_sl [.ref x, .long p1, .int p2, .ref o] ++ List.replicate (6 - (lg_sl [.ref x, .long p1, .int p2, .ref o]).length) Slot.unset).toArray = ls at hl ⊢
  refine lv_aload hx hb (eL_type (0, .aload 4, 2) (List.mem_of_getElem? (i := 0) rfl)) (lv_at hl 3 rfl) ?_
  refine ff_iconst hx hb (eL_type (2, .iconst 0, 1) (List.mem_of_getElem? (i := 1) rfl)) (by decide) (by decide) (fun v1 e1 => ?_)
  refine lv_aload_n hx hb (eL_type (3, .aload_n 0, 1) (List.mem_of_getElem? (i := 2) rfl)) rfl (lv_at hl 0 rfl) ?_
  refine lv_lload_n hx hb (eL_type (4, .lload_n 1, 1) (List.mem_of_getElem? (i := 3) rfl)) rfl (lv_at hl 1 rfl) ?_
  refine lv_iload_n hx hb (eL_type (5, .iload_n 3, 1) (List.mem_of_getElem? (i := 4) rfl)) rfl (lv_at hl 2 rfl) ?_
  refine zx_rowG (As := [.long p1, .int p2]) (st := [.int v1, .ref o]) (b := x) (C := RX11) hx hb hml hown hts0 (hX11_type l hst D cA ro sz H0 x p1 p2 L zc T O hx10) ⟨rfl, rfl⟩ ⟨by decide, by decide⟩ ⟨by decide, by decide⟩ (tb_4 201 rfl rfl) (tb_1 1 rfl rfl) (tb_4 198 rfl rfl) (tb_4 199 rfl rfl) (tb_4 200 rfl rfl) rfl (show yX11_type.cls ≠ "java/lang/invoke/MethodHandle" ∧ yX11_type.cls ≠ "java/lang/invoke/VarHandle" ∧ (parseMethodDescriptor yX11_type.desc).map (fun d => d.parameters.length) = some 2 by decide +kernel) zs_blindY (zw_ob hh hKa.1.1.1 hx10) (fun U hU hW => ⟨rfl, by rw [hU]; exact hh, hKa.warm hW, hBQ.alike hW.alike, by rw [hU]; exact hJ⟩) (fun q hq => by cases hq) hl.1 (Nat.le_of_ble_eq_true rfl) (eL_type (6, .invokevirtual 65, 3) (List.mem_of_getElem? (i := 5) rfl)) (fun v s0 t lo1 g0 g1 g2 => ?_) (fun q s0 t lo1 E ce g0 g1 g3 g4 g5 g2 => ?_)
  · obtain ⟨v9, r9, T9, O9, q1, ⟨y9, q2, q3⟩, q5, q6, q7, q8⟩ := g1
    cases q1
    cases q2
    rw [g0] at q6
    have hh1 : zh_ok D cA RTg ro sz H0 t.heap lo1 := ⟨q5.1, q5.2.1, g2, q5.2.2.2⟩
    have kp1 := q6
    refine W.eq (g2 := F0 m 9 ls [.int y9, .int v1, .ref o]) rfl ?_
    refine ff_i2l hx hb (eL_type (9, .i2l, 1) (List.mem_of_getElem? (i := 6) rfl)) (fun v2 e2 => ?_)
    refine zw_out hx hb hh1 hKa.1.1.1 ho (by omega) (eL_type (10, .lastore, 1) (List.mem_of_getElem? (i := 7) rfl)) (fun H9 lo9 hh9 hq9 _ hz9 => ?_)
    obtain ⟨z9, hz9, hz8⟩ := hz9
    have kg9 : zc_kept D RTg ro [(42, 0)] t.heap H9 := zk_setA (by decide) ho rfl hq9
    have kp9 := kp1.trans (kg9.mono (ms' := kMc) (by decide))
    have j9 := q7.kept hx10 kg9 (by decide)
    refine lv_goto hx hb (eL_type (11, .goto 11, 3) (List.mem_of_getElem? (i := 8) rfl)) (tgt := 22) rfl ?_
    refine ff_iconst hx hb (eL_type (22, .iconst 0, 1) (List.mem_of_getElem? (i := 15) rfl)) (by decide) (by decide) (fun v3 e3 => ?_)
    exact W.zret hx hb hr rfl (fun t ht hW => ⟨_, T9, O9, z9, v2, rfl, by rw [ht]; exact hh9.l0, by rw [ht]; exact kp9, by rw [ht]; exact j9, by rw [ht]; exact hz9, hz8, Or.inl ⟨by omega, by rw [show v2.toInt = r9 by omega]; exact q8⟩⟩) hh9.2.2.1 (eL_type (23, .ireturn, 1) (List.mem_of_getElem? (i := 16) rfl))
  · obtain ⟨q4, k5, hE⟩ := g1
    rw [g0] at k5
    have k4 : zc_kept D RTg ro kMc s.heap t.heap := k5.mono (fun _ h => by cases h)
    have hh1 : zh_ok D cA RTg ro sz H0 t.heap lo1 := ⟨q4.1, q4.2.1, g2, q4.2.2.2⟩
    have j1 := hJ.2.kept hx10 k5 (by decide)
    obtain ⟨-, z1, oc1, yo1⟩ := zh_arr hh1 ho (show RTg[42]? = some (1, 1, 1, [(1, (-9223372036854775808), 9223372036854775807)]) from rfl)
    obtain ⟨r1, or1, -, -⟩ := yo1 0 (by decide)
    rcases hE with ⟨rfl, sp1⟩ | ⟨rfl, sp1⟩
    · refine vx_catch (own := RL) (name := "java/lang/IllegalArgumentException") hown [] ⟨0, 11, 14, 13⟩ [⟨0, 11, 18, 34⟩] (vx_table (x := yL_type) B (h2 _ (tb_4 197 rfl rfl))) (fun z hz => by cases hz) rfl (by decide) (h2 _ (tb_2 103 rfl rfl)) (va_Nw.use rfl (hKa.1.2.2.2.2.1 (eI, eI) (List.mem_of_getElem? (i := 0) rfl))) g3 g4 g5 ?_
      refine lv_astore hx hb (eL_type (14, .astore 5, 2) (List.mem_of_getElem? (i := 9) rfl)) hl (by decide) rfl (fun ls4 hl4 => ?_)
      refine ff_iconst hx hb (eL_type (16, .iconst 1, 1) (List.mem_of_getElem? (i := 10) rfl)) (by decide) (by decide) (fun v5 e5 => ?_)
      exact W.zret hx hb hr rfl (fun t ht hW => ⟨_, T, O, z1, r1, rfl, by rw [ht]; exact hh1.l0, by rw [ht]; exact k4, by rw [ht]; exact j1, by rw [ht]; exact oc1, or1, Or.inr ⟨by omega, by have g6 := sp1; rw [show (1 : Int) = _ from (by omega : (1 : Int) = v5.toInt)] at g6; exact g6⟩⟩) hh1.2.2.1 (eL_type (17, .ireturn, 1) (List.mem_of_getElem? (i := 11) rfl))
    · refine vx_catch (own := RL) (name := "java/lang/UnsupportedOperationException") hown [⟨0, 11, 14, 13⟩] ⟨0, 11, 18, 34⟩ [] (vx_table (x := yL_type) B (h2 _ (tb_4 197 rfl rfl))) (fun z hz => by cases List.mem_singleton.mp hz; exact Or.inr ⟨by decide, eI, h2 _ (tb_2 103 rfl rfl), hKa.1.2.2.2.2.2.2⟩) rfl (by decide) (h2 _ (tb_3 65 rfl rfl)) (va_Nw.use rfl (hKa.1.2.2.2.2.1 (eU, eU) (List.mem_of_getElem? (i := 1) rfl))) g3 g4 g5 ?_
      refine lv_astore hx hb (eL_type (18, .astore 5, 2) (List.mem_of_getElem? (i := 12) rfl)) hl (by decide) rfl (fun ls6 hl6 => ?_)
      refine ff_iconst hx hb (eL_type (20, .iconst 2, 1) (List.mem_of_getElem? (i := 13) rfl)) (by decide) (by decide) (fun v7 e7 => ?_)
      exact W.zret hx hb hr rfl (fun t ht hW => ⟨_, T, O, z1, r1, rfl, by rw [ht]; exact hh1.l0, by rw [ht]; exact k4, by rw [ht]; exact j1, by rw [ht]; exact oc1, or1, Or.inr ⟨by omega, by have g6 := sp1; rw [show (2 : Int) = _ from (by omega : (2 : Int) = v7.toInt)] at g6; exact g6⟩⟩) hh1.2.2.1 (eL_type (21, .ireturn, 1) (List.mem_of_getElem? (i := 14) rfl))
set_option maxRecDepth 100000 in
set_option maxHeartbeats 4000000 in
theorem wK_out (l : Launch) (hst : l.stackTraces = false) (D : va_G) (cA : Nat → ClassId) (ro : Nat → Option Nat) (sz : Nat) (H0 : Heap) (x : Nat) (p1 : Int32) (o : Nat) (L : List Int) (zc : Int) (T O : List Int) (hx10 : ro x = some 10) (ho : ro o = some 42) : Met l yL_out (Cond.codeWith yL_out cL_out 4 (some .int) [(0, 9, 12, 89)] :: gT) { frames := 7, cells := 1, slots := 6, locals := 103 } (zs_PY D cA ro sz H0 (fun H => jCS D cA ro H x L zc ∧ jCK D cA ro H x T O) [.ref x, .int p1, .ref o]) (zk_QL D cA ro sz H0 x o (spO p1.toInt T O)) 1 6 (zy_fr sz) := by
  refine zw_ofW (cc := cL_out) (maxL := 4) (ret := some .int) (by decide +kernel) rfl ?_
  intro p e s m args below meth c s1 B hml hv
  obtain ⟨rfl, hh, hKa, hBQ, hJ⟩ := hv
  have hx := B.exec
  have hb := B.bytes
  have hr := B.returns
  have hlk := B.notSynchronized
  have hts0 := atoms_spec (ws := Cond.codeWith yL_out cL_out 4 (some .int) [(0, 9, 12, 89)] :: gT) B.pre
  have h2 : ∀ w ∈ gT, w.before ([.ref x, .int p1, .ref o] : List Value).toArray s = true := fun w hw => hts0 w (List.mem_cons_of_mem _ hw)
  have hown : s.vm.findClass RL = some m.cls := findClass_of_methodNamed B.named
  have hl := lv_entry [.ref x, .int p1, .ref o] (n := 4) (Nat.le_of_ble_eq_true rfl)
  rw [lg_entry_eq]
  generalize (lg_sl [.ref x, .int p1, .ref o] ++ List.replicate (4 - (lg_sl [.ref x, .int p1, .ref o]).length) Slot.unset).toArray = ls at hl ⊢
  refine lv_aload_n hx hb (eL_out (0, .aload_n 2, 1) (List.mem_of_getElem? (i := 0) rfl)) rfl (lv_at hl 2 rfl) ?_
  refine ff_iconst hx hb (eL_out (1, .iconst 0, 1) (List.mem_of_getElem? (i := 1) rfl)) (by decide) (by decide) (fun v1 e1 => ?_)
  refine lv_aload_n hx hb (eL_out (2, .aload_n 0, 1) (List.mem_of_getElem? (i := 2) rfl)) rfl (lv_at hl 0 rfl) ?_
  refine lv_iload_n hx hb (eL_out (3, .iload_n 1, 1) (List.mem_of_getElem? (i := 3) rfl)) rfl (lv_at hl 1 rfl) ?_
  refine zx_rowG (As := [.int p1]) (st := [.int v1, .ref o]) (b := x) (C := RX11) hx hb hml hown hts0 (hX11_out l hst D cA ro sz H0 x p1 L zc T O hx10) ⟨rfl, rfl⟩ ⟨by decide, by decide⟩ ⟨by decide, by decide⟩ (tb_6 69 rfl rfl) (tb_1 1 rfl rfl) (tb_6 66 rfl rfl) (tb_6 67 rfl rfl) (tb_6 68 rfl rfl) rfl (show yX11_out.cls ≠ "java/lang/invoke/MethodHandle" ∧ yX11_out.cls ≠ "java/lang/invoke/VarHandle" ∧ (parseMethodDescriptor yX11_out.desc).map (fun d => d.parameters.length) = some 1 by decide +kernel) zs_blindY (zw_ob hh hKa.1.1.1 hx10) (fun U hU hW => ⟨rfl, by rw [hU]; exact hh, hKa.warm hW, hBQ.alike hW.alike, by rw [hU]; exact hJ⟩) (fun q hq => by cases hq) hl.1 (Nat.le_of_ble_eq_true rfl) (eL_out (4, .invokevirtual 86, 3) (List.mem_of_getElem? (i := 4) rfl)) (fun v s0 t lo1 g0 g1 g2 => ?_) (fun q s0 t lo1 E ce g0 g1 g3 g4 g5 g2 => ?_)
  · obtain ⟨v9, r9, T9, O9, q1, ⟨y9, q2, q3⟩, q5, q6, q7, q8⟩ := g1
    cases q1
    cases q2
    rw [g0] at q6
    have hh1 : zh_ok D cA RTg ro sz H0 t.heap lo1 := ⟨q5.1, q5.2.1, g2, q5.2.2.2⟩
    have kp1 := q6
    refine W.eq (g2 := F0 m 7 ls [.int y9, .int v1, .ref o]) rfl ?_
    refine ff_i2l hx hb (eL_out (7, .i2l, 1) (List.mem_of_getElem? (i := 5) rfl)) (fun v2 e2 => ?_)
    refine zw_out hx hb hh1 hKa.1.1.1 ho (by omega) (eL_out (8, .lastore, 1) (List.mem_of_getElem? (i := 6) rfl)) (fun H9 lo9 hh9 hq9 _ hz9 => ?_)
    obtain ⟨z9, hz9, hz8⟩ := hz9
    have kg9 : zc_kept D RTg ro [(42, 0)] t.heap H9 := zk_setA (by decide) ho rfl hq9
    have kp9 := kp1.trans (kg9.mono (ms' := kMc) (by decide))
    have j9 := q7.kept hx10 kg9 (by decide)
    refine lv_goto hx hb (eL_out (9, .goto 6, 3) (List.mem_of_getElem? (i := 7) rfl)) (tgt := 15) rfl ?_
    refine ff_iconst hx hb (eL_out (15, .iconst 0, 1) (List.mem_of_getElem? (i := 11) rfl)) (by decide) (by decide) (fun v3 e3 => ?_)
    exact W.zret hx hb hr rfl (fun t ht hW => ⟨_, T9, O9, z9, v2, rfl, by rw [ht]; exact hh9.l0, by rw [ht]; exact kp9, by rw [ht]; exact j9, by rw [ht]; exact hz9, hz8, Or.inl ⟨by omega, by rw [show v2.toInt = r9 by omega]; exact q8⟩⟩) hh9.2.2.1 (eL_out (16, .ireturn, 1) (List.mem_of_getElem? (i := 12) rfl))
  · obtain ⟨q4, k5, hE⟩ := g1
    rw [g0] at k5
    have k4 : zc_kept D RTg ro kMc s.heap t.heap := k5.mono (fun _ h => by cases h)
    have hh1 : zh_ok D cA RTg ro sz H0 t.heap lo1 := ⟨q4.1, q4.2.1, g2, q4.2.2.2⟩
    have j1 := hJ.2.kept hx10 k5 (by decide)
    obtain ⟨-, z1, oc1, yo1⟩ := zh_arr hh1 ho (show RTg[42]? = some (1, 1, 1, [(1, (-9223372036854775808), 9223372036854775807)]) from rfl)
    obtain ⟨r1, or1, -, -⟩ := yo1 0 (by decide)
    obtain ⟨rfl, sp1⟩ := hE
    · refine vx_catch (own := RL) (name := "java/lang/IndexOutOfBoundsException") hown [] ⟨0, 9, 12, 89⟩ [] (vx_table (x := yL_out) B (h2 _ (tb_6 64 rfl rfl))) (fun z hz => by cases hz) rfl (by decide) (h2 _ (tb_6 65 rfl rfl)) (va_Nw.use rfl (hKa.1.2.2.2.2.1 (eX, eX) (List.mem_of_getElem? (i := 2) rfl))) g3 g4 g5 ?_
      refine lv_astore_n hx hb (eL_out (12, .astore_n 3, 1) (List.mem_of_getElem? (i := 8) rfl)) rfl hl (by decide) rfl (fun ls4 hl4 => ?_)
      refine ff_iconst hx hb (eL_out (13, .iconst 1, 1) (List.mem_of_getElem? (i := 9) rfl)) (by decide) (by decide) (fun v5 e5 => ?_)
      exact W.zret hx hb hr rfl (fun t ht hW => ⟨_, T, O, z1, r1, rfl, by rw [ht]; exact hh1.l0, by rw [ht]; exact k4, by rw [ht]; exact j1, by rw [ht]; exact oc1, or1, Or.inr ⟨by omega, by have g6 := sp1; rw [show (1 : Int) = _ from (by omega : (1 : Int) = v5.toInt)] at g6; exact g6⟩⟩) hh1.2.2.1 (eL_out (14, .ireturn, 1) (List.mem_of_getElem? (i := 10) rfl))
