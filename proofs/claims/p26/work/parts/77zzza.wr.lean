set_option maxRecDepth 100000 in
set_option maxHeartbeats 4000000 in
theorem wY_leap (l : Launch) (hst : l.stackTraces = false) (D : va_G) (cA : Nat → ClassId) (ro : Nat → Option Nat) (sz : Nat) (H0 : Heap) (x : Nat) (p1 : Int64) (o : Nat) (L : List Int) (zc : zY) (hx10 : ro x = some 10) (ho : ro o = some 42) : Met l yL_leap (Cond.codeWith yL_leap cL_leap 5 (some .int) [(0, 9, 12, 13), (0, 9, 16, 34)] :: gT) { frames := 7, cells := 1, slots := 6, locals := 104 } (zs_PX D cA ro sz H0 (fun H => jCY D cA ro H x L zc) [.ref x, .long p1, .ref o]) (yy_QL D cA ro sz H0 x o (spLY p1.toInt L zc)) 1 6 (zy_fr sz) := by
  refine zw_ofW (cc := cL_leap) (maxL := 5) (ret := some .int) (by decide +kernel) rfl ?_
  intro p e s m args below meth c s1 B hml hv
  obtain ⟨rfl, hh, hKa, hBM, hJ⟩ := hv
  have hx := B.exec
  have hb := B.bytes
  have hr := B.returns
  have hlk := B.notSynchronized
  have hts0 := atoms_spec (ws := Cond.codeWith yL_leap cL_leap 5 (some .int) [(0, 9, 12, 13), (0, 9, 16, 34)] :: gT) B.pre
  have h2 : ∀ w ∈ gT, w.before ([.ref x, .long p1, .ref o] : List Value).toArray s = true := fun w hw => hts0 w (List.mem_cons_of_mem _ hw)
  have hown : s.vm.findClass RL = some m.cls := findClass_of_methodNamed B.named
  have hl := lv_entry [.ref x, .long p1, .ref o] (n := 5) (Nat.le_of_ble_eq_true rfl)
  rw [lg_entry_eq]
  generalize (lg_sl [.ref x, .long p1, .ref o] ++ List.replicate (5 - (lg_sl [.ref x, .long p1, .ref o]).length) Slot.unset).toArray = ls at hl ⊢
  refine lv_aload_n hx hb (eL_leap (0, .aload_n 3, 1) (List.mem_of_getElem? (i := 0) rfl)) rfl (lv_at hl 2 rfl) ?_
  refine ff_iconst hx hb (eL_leap (1, .iconst 0, 1) (List.mem_of_getElem? (i := 1) rfl)) (by decide) (by decide) (fun v1 e1 => ?_)
  refine lv_aload_n hx hb (eL_leap (2, .aload_n 0, 1) (List.mem_of_getElem? (i := 2) rfl)) rfl (lv_at hl 0 rfl) ?_
  refine lv_lload_n hx hb (eL_leap (3, .lload_n 1, 1) (List.mem_of_getElem? (i := 3) rfl)) rfl (lv_at hl 1 rfl) ?_
  refine zx_rowG (As := [.long p1]) (st := [.int v1, .ref o]) (b := x) (C := RX11) hx hb hml hown hts0 (hX11_leapY l hst D cA ro sz H0 x p1 L zc.1 zc.2 hx10) ⟨rfl, rfl⟩ ⟨by decide, by decide⟩ ⟨by decide, by decide⟩ (tb_3 69 rfl rfl) (tb_1 1 rfl rfl) (tb_3 66 rfl rfl) (tb_3 67 rfl rfl) (tb_3 68 rfl rfl) rfl (show yX11_leap.cls ≠ "java/lang/invoke/MethodHandle" ∧ yX11_leap.cls ≠ "java/lang/invoke/VarHandle" ∧ (parseMethodDescriptor yX11_leap.desc).map (fun d => d.parameters.length) = some 1 by decide +kernel) zs_blindX (zw_ob hh hKa.1.1.1 hx10) (fun U hU hW => ⟨rfl, by rw [hU]; exact hh, hKa.warm hW, zBM_B.2 s U hW hU hBM, by rw [hU]; exact hJ⟩) (fun q hq => by cases hq) hl.1 (Nat.le_of_ble_eq_true rfl) (eL_leap (4, .invokevirtual 30, 3) (List.mem_of_getElem? (i := 4) rfl)) (fun v s0 t lo1 g0 g1 g2 => ?_) (fun q s0 t lo1 E ce g0 g1 g3 g4 g5 g2 => ?_)
  · obtain ⟨v9, r9, ro9, L9, c9, q1, ⟨y9, q2, q3⟩, he9, q5, q6, q7, q8⟩ := g1
    cases q1
    cases q2
    rw [g0] at q6
    have hh1 : zh_ok D cA RTg ro9 sz H0 t.heap lo1 := ⟨q5.1, q5.2.1, g2, q5.2.2.2⟩
    have kp1 := q6
    refine W.eq (g2 := F0 m 7 ls [.int y9, .int v1, .ref o]) rfl ?_
    refine ff_i2l hx hb (eL_leap (7, .i2l, 1) (List.mem_of_getElem? (i := 5) rfl)) (fun v2 e2 => ?_)
    refine zw_out hx hb hh1 hKa.1.1.1 (he9 _ _ ho) (by omega) (eL_leap (8, .lastore, 1) (List.mem_of_getElem? (i := 6) rfl)) (fun H9 lo9 hh9 hq9 _ hz9 => ?_)
    obtain ⟨z9, hz9, hz8⟩ := hz9
    have kg9 : zc_kept D RTg ro9 [(42, 0)] t.heap H9 := zk_setA (by decide) (he9 _ _ ho) rfl hq9
    have kp9 := kp1.trans ((kept_ro he9 kg9).mono (ms' := yMc) (by decide))
    have j9 := q7.kept (he9 _ _ hx10) kg9 (by decide)
    refine lv_goto hx hb (eL_leap (9, .goto 11, 3) (List.mem_of_getElem? (i := 7) rfl)) (tgt := 20) rfl ?_
    refine ff_iconst hx hb (eL_leap (20, .iconst 0, 1) (List.mem_of_getElem? (i := 14) rfl)) (by decide) (by decide) (fun v3 e3 => ?_)
    exact W.zret hx hb hr rfl (fun t ht hW => ⟨_, ro9, L9, c9, z9, v2, rfl, he9, by rw [ht]; exact hh9.l0, by rw [ht]; exact kp9, by rw [ht]; exact j9, by rw [ht]; exact hz9, hz8, Or.inl ⟨by omega, by rw [show v2.toInt = r9 by omega]; exact q8⟩⟩) hh9.2.2.1 (eL_leap (21, .ireturn, 1) (List.mem_of_getElem? (i := 15) rfl))
  · obtain ⟨q4, k4, k5, hE⟩ := g1
    rw [g0] at k4
    have hh1 : zh_ok D cA RTg ro sz H0 t.heap lo1 := ⟨q4.1, q4.2.1, g2, q4.2.2.2⟩
    have j1 := k5
    obtain ⟨-, z1, oc1, yo1⟩ := zh_arr hh1 ho (show RTg[42]? = some (1, 1, 1, [(1, (-9223372036854775808), 9223372036854775807)]) from rfl)
    obtain ⟨r1, or1, -, -⟩ := yo1 0 (by decide)
    rcases hE with ⟨rfl, sp1⟩ | ⟨rfl, sp1⟩
    · refine vx_catch (own := RL) (name := "java/lang/IllegalArgumentException") hown [] ⟨0, 9, 12, 13⟩ [⟨0, 9, 16, 34⟩] (vx_table (x := yL_leap) B (h2 _ (tb_3 64 rfl rfl))) (fun z hz => by cases hz) rfl (by decide) (h2 _ (tb_2 103 rfl rfl)) (va_Nw.use rfl (hKa.1.2.2.2.2.1 (eI, eI) (List.mem_of_getElem? (i := 0) rfl))) g3 g4 g5 ?_
      refine lv_astore hx hb (eL_leap (12, .astore 4, 2) (List.mem_of_getElem? (i := 8) rfl)) hl (by decide) rfl (fun ls4 hl4 => ?_)
      refine ff_iconst hx hb (eL_leap (14, .iconst 1, 1) (List.mem_of_getElem? (i := 9) rfl)) (by decide) (by decide) (fun v5 e5 => ?_)
      exact W.zret hx hb hr rfl (fun t ht hW => ⟨_, ro, L, zc, z1, r1, rfl, fun _ _ h => h, by rw [ht]; exact hh1.l0, by rw [ht]; exact k4, by rw [ht]; exact j1, by rw [ht]; exact oc1, or1, Or.inr ⟨by omega, by have g6 := sp1; rw [show (1 : Int) = _ from (by omega : (1 : Int) = v5.toInt)] at g6; exact g6⟩⟩) hh1.2.2.1 (eL_leap (15, .ireturn, 1) (List.mem_of_getElem? (i := 10) rfl))
    · refine vx_catch (own := RL) (name := "java/lang/UnsupportedOperationException") hown [⟨0, 9, 12, 13⟩] ⟨0, 9, 16, 34⟩ [] (vx_table (x := yL_leap) B (h2 _ (tb_3 64 rfl rfl))) (fun z hz => by cases List.mem_singleton.mp hz; exact Or.inr ⟨by decide, eI, h2 _ (tb_2 103 rfl rfl), hKa.1.2.2.2.2.2.2⟩) rfl (by decide) (h2 _ (tb_3 65 rfl rfl)) (va_Nw.use rfl (hKa.1.2.2.2.2.1 (eU, eU) (List.mem_of_getElem? (i := 1) rfl))) g3 g4 g5 ?_
      refine lv_astore hx hb (eL_leap (16, .astore 4, 2) (List.mem_of_getElem? (i := 11) rfl)) hl (by decide) rfl (fun ls6 hl6 => ?_)
      refine ff_iconst hx hb (eL_leap (18, .iconst 2, 1) (List.mem_of_getElem? (i := 12) rfl)) (by decide) (by decide) (fun v7 e7 => ?_)
      exact W.zret hx hb hr rfl (fun t ht hW => ⟨_, ro, L, zc, z1, r1, rfl, fun _ _ h => h, by rw [ht]; exact hh1.l0, by rw [ht]; exact k4, by rw [ht]; exact j1, by rw [ht]; exact oc1, or1, Or.inr ⟨by omega, by have g6 := sp1; rw [show (2 : Int) = _ from (by omega : (2 : Int) = v7.toInt)] at g6; exact g6⟩⟩) hh1.2.2.1 (eL_leap (19, .ireturn, 1) (List.mem_of_getElem? (i := 13) rfl))
set_option maxRecDepth 100000 in
set_option maxHeartbeats 4000000 in
theorem wY_zone (l : Launch) (hst : l.stackTraces = false) (D : va_G) (cA : Nat → ClassId) (ro : Nat → Option Nat) (sz : Nat) (H0 : Heap) (x : Nat) (p1 : Int32) (o : Nat) (L : List Int) (zc : zY) (hx10 : ro x = some 10) (ho : ro o = some 42) : Met l yL_zone (Cond.codeWith yL_zone cL_zone 4 (some .int) [(0, 9, 12, 13), (0, 9, 15, 34)] :: gT) { frames := 7, cells := 6, slots := 147, locals := 103 } (zs_PX D cA ro sz H0 (fun H => jCY D cA ro H x L zc) [.ref x, .int p1, .ref o]) (yy_QL D cA ro sz H0 x o (spZY p1.toInt L zc)) 6 147 (zy_fr sz) := by
  refine zw_ofW (cc := cL_zone) (maxL := 4) (ret := some .int) (by decide +kernel) rfl ?_
  intro p e s m args below meth c s1 B hml hv
  obtain ⟨rfl, hh, hKa, hBM, hJ⟩ := hv
  have hx := B.exec
  have hb := B.bytes
  have hr := B.returns
  have hlk := B.notSynchronized
  have hts0 := atoms_spec (ws := Cond.codeWith yL_zone cL_zone 4 (some .int) [(0, 9, 12, 13), (0, 9, 15, 34)] :: gT) B.pre
  have h2 : ∀ w ∈ gT, w.before ([.ref x, .int p1, .ref o] : List Value).toArray s = true := fun w hw => hts0 w (List.mem_cons_of_mem _ hw)
  have hown : s.vm.findClass RL = some m.cls := findClass_of_methodNamed B.named
  have hl := lv_entry [.ref x, .int p1, .ref o] (n := 4) (Nat.le_of_ble_eq_true rfl)
  rw [lg_entry_eq]
  generalize (lg_sl [.ref x, .int p1, .ref o] ++ List.replicate (4 - (lg_sl [.ref x, .int p1, .ref o]).length) Slot.unset).toArray = ls at hl ⊢
  refine lv_aload_n hx hb (eL_zone (0, .aload_n 2, 1) (List.mem_of_getElem? (i := 0) rfl)) rfl (lv_at hl 2 rfl) ?_
  refine ff_iconst hx hb (eL_zone (1, .iconst 0, 1) (List.mem_of_getElem? (i := 1) rfl)) (by decide) (by decide) (fun v1 e1 => ?_)
  refine lv_aload_n hx hb (eL_zone (2, .aload_n 0, 1) (List.mem_of_getElem? (i := 2) rfl)) rfl (lv_at hl 0 rfl) ?_
  refine lv_iload_n hx hb (eL_zone (3, .iload_n 1, 1) (List.mem_of_getElem? (i := 3) rfl)) rfl (lv_at hl 1 rfl) ?_
  refine zx_rowG (As := [.int p1]) (st := [.int v1, .ref o]) (b := x) (C := RX11) hx hb hml hown hts0 (hX11_zoneY l hst D cA ro sz H0 x p1 L zc.1 zc.2 hx10) ⟨rfl, rfl⟩ ⟨by decide, by decide⟩ ⟨by decide, by decide⟩ (tb_3 167 rfl rfl) (tb_1 1 rfl rfl) (tb_3 164 rfl rfl) (tb_3 165 rfl rfl) (tb_3 166 rfl rfl) rfl (show yX11_zone.cls ≠ "java/lang/invoke/MethodHandle" ∧ yX11_zone.cls ≠ "java/lang/invoke/VarHandle" ∧ (parseMethodDescriptor yX11_zone.desc).map (fun d => d.parameters.length) = some 1 by decide +kernel) zs_blindX (zw_ob hh hKa.1.1.1 hx10) (fun U hU hW => ⟨rfl, by rw [hU]; exact hh, hKa.warm hW, zBM_B.2 s U hW hU hBM, by rw [hU]; exact hJ⟩) (fun q hq => by cases hq) hl.1 (Nat.le_of_ble_eq_true rfl) (eL_zone (4, .invokevirtual 42, 3) (List.mem_of_getElem? (i := 4) rfl)) (fun v s0 t lo1 g0 g1 g2 => ?_) (fun q s0 t lo1 E ce g0 g1 g3 g4 g5 g2 => ?_)
  · obtain ⟨v9, r9, ro9, L9, c9, q1, ⟨y9, q2, q3⟩, he9, q5, q6, q7, q8⟩ := g1
    cases q1
    cases q2
    rw [g0] at q6
    have hh1 : zh_ok D cA RTg ro9 sz H0 t.heap lo1 := ⟨q5.1, q5.2.1, g2, q5.2.2.2⟩
    have kp1 := q6
    refine W.eq (g2 := F0 m 7 ls [.int y9, .int v1, .ref o]) rfl ?_
    refine ff_i2l hx hb (eL_zone (7, .i2l, 1) (List.mem_of_getElem? (i := 5) rfl)) (fun v2 e2 => ?_)
    refine zw_out hx hb hh1 hKa.1.1.1 (he9 _ _ ho) (by omega) (eL_zone (8, .lastore, 1) (List.mem_of_getElem? (i := 6) rfl)) (fun H9 lo9 hh9 hq9 _ hz9 => ?_)
    obtain ⟨z9, hz9, hz8⟩ := hz9
    have kg9 : zc_kept D RTg ro9 [(42, 0)] t.heap H9 := zk_setA (by decide) (he9 _ _ ho) rfl hq9
    have kp9 := kp1.trans ((kept_ro he9 kg9).mono (ms' := yMc) (by decide))
    have j9 := q7.kept (he9 _ _ hx10) kg9 (by decide)
    refine lv_goto hx hb (eL_zone (9, .goto 9, 3) (List.mem_of_getElem? (i := 7) rfl)) (tgt := 18) rfl ?_
    refine ff_iconst hx hb (eL_zone (18, .iconst 0, 1) (List.mem_of_getElem? (i := 14) rfl)) (by decide) (by decide) (fun v3 e3 => ?_)
    exact W.zret hx hb hr rfl (fun t ht hW => ⟨_, ro9, L9, c9, z9, v2, rfl, he9, by rw [ht]; exact hh9.l0, by rw [ht]; exact kp9, by rw [ht]; exact j9, by rw [ht]; exact hz9, hz8, Or.inl ⟨by omega, by rw [show v2.toInt = r9 by omega]; exact q8⟩⟩) hh9.2.2.1 (eL_zone (19, .ireturn, 1) (List.mem_of_getElem? (i := 15) rfl))
  · obtain ⟨q4, k4, k5, hE⟩ := g1
    rw [g0] at k4
    have hh1 : zh_ok D cA RTg ro sz H0 t.heap lo1 := ⟨q4.1, q4.2.1, g2, q4.2.2.2⟩
    have j1 := k5
    obtain ⟨-, z1, oc1, yo1⟩ := zh_arr hh1 ho (show RTg[42]? = some (1, 1, 1, [(1, (-9223372036854775808), 9223372036854775807)]) from rfl)
    obtain ⟨r1, or1, -, -⟩ := yo1 0 (by decide)
    rcases hE with ⟨rfl, sp1⟩ | ⟨rfl, sp1⟩
    · refine vx_catch (own := RL) (name := "java/lang/IllegalArgumentException") hown [] ⟨0, 9, 12, 13⟩ [⟨0, 9, 15, 34⟩] (vx_table (x := yL_zone) B (h2 _ (tb_3 163 rfl rfl))) (fun z hz => by cases hz) rfl (by decide) (h2 _ (tb_2 103 rfl rfl)) (va_Nw.use rfl (hKa.1.2.2.2.2.1 (eI, eI) (List.mem_of_getElem? (i := 0) rfl))) g3 g4 g5 ?_
      refine lv_astore_n hx hb (eL_zone (12, .astore_n 3, 1) (List.mem_of_getElem? (i := 8) rfl)) rfl hl (by decide) rfl (fun ls4 hl4 => ?_)
      refine ff_iconst hx hb (eL_zone (13, .iconst 1, 1) (List.mem_of_getElem? (i := 9) rfl)) (by decide) (by decide) (fun v5 e5 => ?_)
      exact W.zret hx hb hr rfl (fun t ht hW => ⟨_, ro, L, zc, z1, r1, rfl, fun _ _ h => h, by rw [ht]; exact hh1.l0, by rw [ht]; exact k4, by rw [ht]; exact j1, by rw [ht]; exact oc1, or1, Or.inr ⟨by omega, by have g6 := sp1; rw [show (1 : Int) = _ from (by omega : (1 : Int) = v5.toInt)] at g6; exact g6⟩⟩) hh1.2.2.1 (eL_zone (14, .ireturn, 1) (List.mem_of_getElem? (i := 10) rfl))
    · refine vx_catch (own := RL) (name := "java/lang/UnsupportedOperationException") hown [⟨0, 9, 12, 13⟩] ⟨0, 9, 15, 34⟩ [] (vx_table (x := yL_zone) B (h2 _ (tb_3 163 rfl rfl))) (fun z hz => by cases List.mem_singleton.mp hz; exact Or.inr ⟨by decide, eI, h2 _ (tb_2 103 rfl rfl), hKa.1.2.2.2.2.2.2⟩) rfl (by decide) (h2 _ (tb_3 65 rfl rfl)) (va_Nw.use rfl (hKa.1.2.2.2.2.1 (eU, eU) (List.mem_of_getElem? (i := 1) rfl))) g3 g4 g5 ?_
      refine lv_astore_n hx hb (eL_zone (15, .astore_n 3, 1) (List.mem_of_getElem? (i := 11) rfl)) rfl hl (by decide) rfl (fun ls6 hl6 => ?_)
      refine ff_iconst hx hb (eL_zone (16, .iconst 2, 1) (List.mem_of_getElem? (i := 12) rfl)) (by decide) (by decide) (fun v7 e7 => ?_)
      exact W.zret hx hb hr rfl (fun t ht hW => ⟨_, ro, L, zc, z1, r1, rfl, fun _ _ h => h, by rw [ht]; exact hh1.l0, by rw [ht]; exact k4, by rw [ht]; exact j1, by rw [ht]; exact oc1, or1, Or.inr ⟨by omega, by have g6 := sp1; rw [show (2 : Int) = _ from (by omega : (2 : Int) = v7.toInt)] at g6; exact g6⟩⟩) hh1.2.2.1 (eL_zone (17, .ireturn, 1) (List.mem_of_getElem? (i := 13) rfl))
set_option maxRecDepth 100000 in
set_option maxHeartbeats 4000000 in
theorem wY_change (l : Launch) (hst : l.stackTraces = false) (D : va_G) (cA : Nat → ClassId) (ro : Nat → Option Nat) (sz : Nat) (H0 : Heap) (x : Nat) (p1 : Int32) (p2 : Int64) (p3 : Int32) (o : Nat) (L : List Int) (zc : zY) (hx10 : ro x = some 10) (ho : ro o = some 42) : Met l yL_change (Cond.codeWith yL_change cL_change 7 (some .int) [(0, 13, 16, 13), (0, 13, 20, 34)] :: gT) { frames := 7, cells := 1, slots := 6, locals := 107 } (zs_PX D cA ro sz H0 (fun H => jCY D cA ro H x L zc) [.ref x, .int p1, .long p2, .int p3, .ref o]) (yy_QL D cA ro sz H0 x o (spHY p1.toInt p2.toInt p3.toInt L zc)) 1 6 (zy_fr sz) := by
  refine zw_ofW (cc := cL_change) (maxL := 7) (ret := some .int) (by decide +kernel) rfl ?_
  intro p e s m args below meth c s1 B hml hv
  obtain ⟨rfl, hh, hKa, hBM, hJ⟩ := hv
  have hx := B.exec
  have hb := B.bytes
  have hr := B.returns
  have hlk := B.notSynchronized
  have hts0 := atoms_spec (ws := Cond.codeWith yL_change cL_change 7 (some .int) [(0, 13, 16, 13), (0, 13, 20, 34)] :: gT) B.pre
  have h2 : ∀ w ∈ gT, w.before ([.ref x, .int p1, .long p2, .int p3, .ref o] : List Value).toArray s = true := fun w hw => hts0 w (List.mem_cons_of_mem _ hw)
  have hown : s.vm.findClass RL = some m.cls := findClass_of_methodNamed B.named
  have hl := lv_entry [.ref x, .int p1, .long p2, .int p3, .ref o] (n := 7) (Nat.le_of_ble_eq_true rfl)
  rw [lg_entry_eq]
  generalize (lg_sl [.ref x, .int p1, .long p2, .int p3, .ref o] ++ List.replicate (7 - (lg_sl [.ref x, .int p1, .long p2, .int p3, .ref o]).length) Slot.unset).toArray = ls at hl ⊢
  refine lv_aload hx hb (eL_change (0, .aload 5, 2) (List.mem_of_getElem? (i := 0) rfl)) (lv_at hl 4 rfl) ?_
  refine ff_iconst hx hb (eL_change (2, .iconst 0, 1) (List.mem_of_getElem? (i := 1) rfl)) (by decide) (by decide) (fun v1 e1 => ?_)
  refine lv_aload_n hx hb (eL_change (3, .aload_n 0, 1) (List.mem_of_getElem? (i := 2) rfl)) rfl (lv_at hl 0 rfl) ?_
  refine lv_iload_n hx hb (eL_change (4, .iload_n 1, 1) (List.mem_of_getElem? (i := 3) rfl)) rfl (lv_at hl 1 rfl) ?_
  refine lv_lload_n hx hb (eL_change (5, .lload_n 2, 1) (List.mem_of_getElem? (i := 4) rfl)) rfl (lv_at hl 2 rfl) ?_
  refine lv_iload hx hb (eL_change (6, .iload 4, 2) (List.mem_of_getElem? (i := 5) rfl)) (lv_at hl 3 rfl) ?_
  refine zx_rowG (As := [.int p1, .long p2, .int p3]) (st := [.int v1, .ref o]) (b := x) (C := RX11) hx hb hml hown hts0 (hX11_changeY l hst D cA ro sz H0 x p1 p2 p3 L zc.1 zc.2 hx10) ⟨rfl, rfl⟩ ⟨by decide, by decide⟩ ⟨by decide, by decide⟩ (tb_3 207 rfl rfl) (tb_1 1 rfl rfl) (tb_3 204 rfl rfl) (tb_3 205 rfl rfl) (tb_3 206 rfl rfl) rfl (show yX11_change.cls ≠ "java/lang/invoke/MethodHandle" ∧ yX11_change.cls ≠ "java/lang/invoke/VarHandle" ∧ (parseMethodDescriptor yX11_change.desc).map (fun d => d.parameters.length) = some 3 by decide +kernel) zs_blindX (zw_ob hh hKa.1.1.1 hx10) (fun U hU hW => ⟨rfl, by rw [hU]; exact hh, hKa.warm hW, zBM_B.2 s U hW hU hBM, by rw [hU]; exact hJ⟩) (fun q hq => by cases hq) hl.1 (Nat.le_of_ble_eq_true rfl) (eL_change (8, .invokevirtual 46, 3) (List.mem_of_getElem? (i := 6) rfl)) (fun v s0 t lo1 g0 g1 g2 => ?_) (fun q s0 t lo1 E ce g0 g1 g3 g4 g5 g2 => ?_)
  · obtain ⟨v9, r9, ro9, L9, c9, q1, ⟨y9, q2, q3⟩, he9, q5, q6, q7, q8⟩ := g1
    cases q1
    cases q2
    rw [g0] at q6
    have hh1 : zh_ok D cA RTg ro9 sz H0 t.heap lo1 := ⟨q5.1, q5.2.1, g2, q5.2.2.2⟩
    have kp1 := q6
    refine W.eq (g2 := F0 m 11 ls [.int y9, .int v1, .ref o]) rfl ?_
    refine ff_i2l hx hb (eL_change (11, .i2l, 1) (List.mem_of_getElem? (i := 7) rfl)) (fun v2 e2 => ?_)
    refine zw_out hx hb hh1 hKa.1.1.1 (he9 _ _ ho) (by omega) (eL_change (12, .lastore, 1) (List.mem_of_getElem? (i := 8) rfl)) (fun H9 lo9 hh9 hq9 _ hz9 => ?_)
    obtain ⟨z9, hz9, hz8⟩ := hz9
    have kg9 : zc_kept D RTg ro9 [(42, 0)] t.heap H9 := zk_setA (by decide) (he9 _ _ ho) rfl hq9
    have kp9 := kp1.trans ((kept_ro he9 kg9).mono (ms' := yMc) (by decide))
    have j9 := q7.kept (he9 _ _ hx10) kg9 (by decide)
    refine lv_goto hx hb (eL_change (13, .goto 11, 3) (List.mem_of_getElem? (i := 9) rfl)) (tgt := 24) rfl ?_
    refine ff_iconst hx hb (eL_change (24, .iconst 0, 1) (List.mem_of_getElem? (i := 16) rfl)) (by decide) (by decide) (fun v3 e3 => ?_)
    exact W.zret hx hb hr rfl (fun t ht hW => ⟨_, ro9, L9, c9, z9, v2, rfl, he9, by rw [ht]; exact hh9.l0, by rw [ht]; exact kp9, by rw [ht]; exact j9, by rw [ht]; exact hz9, hz8, Or.inl ⟨by omega, by rw [show v2.toInt = r9 by omega]; exact q8⟩⟩) hh9.2.2.1 (eL_change (25, .ireturn, 1) (List.mem_of_getElem? (i := 17) rfl))
  · obtain ⟨q4, k4, k5, hE⟩ := g1
    rw [g0] at k4
    have hh1 : zh_ok D cA RTg ro sz H0 t.heap lo1 := ⟨q4.1, q4.2.1, g2, q4.2.2.2⟩
    have j1 := k5
    obtain ⟨-, z1, oc1, yo1⟩ := zh_arr hh1 ho (show RTg[42]? = some (1, 1, 1, [(1, (-9223372036854775808), 9223372036854775807)]) from rfl)
    obtain ⟨r1, or1, -, -⟩ := yo1 0 (by decide)
    rcases hE with ⟨rfl, sp1⟩ | ⟨rfl, sp1⟩
    · refine vx_catch (own := RL) (name := "java/lang/IllegalArgumentException") hown [] ⟨0, 13, 16, 13⟩ [⟨0, 13, 20, 34⟩] (vx_table (x := yL_change) B (h2 _ (tb_3 203 rfl rfl))) (fun z hz => by cases hz) rfl (by decide) (h2 _ (tb_2 103 rfl rfl)) (va_Nw.use rfl (hKa.1.2.2.2.2.1 (eI, eI) (List.mem_of_getElem? (i := 0) rfl))) g3 g4 g5 ?_
      refine lv_astore hx hb (eL_change (16, .astore 6, 2) (List.mem_of_getElem? (i := 10) rfl)) hl (by decide) rfl (fun ls4 hl4 => ?_)
      refine ff_iconst hx hb (eL_change (18, .iconst 1, 1) (List.mem_of_getElem? (i := 11) rfl)) (by decide) (by decide) (fun v5 e5 => ?_)
      exact W.zret hx hb hr rfl (fun t ht hW => ⟨_, ro, L, zc, z1, r1, rfl, fun _ _ h => h, by rw [ht]; exact hh1.l0, by rw [ht]; exact k4, by rw [ht]; exact j1, by rw [ht]; exact oc1, or1, Or.inr ⟨by omega, by have g6 := sp1; rw [show (1 : Int) = _ from (by omega : (1 : Int) = v5.toInt)] at g6; exact g6⟩⟩) hh1.2.2.1 (eL_change (19, .ireturn, 1) (List.mem_of_getElem? (i := 12) rfl))
    · refine vx_catch (own := RL) (name := "java/lang/UnsupportedOperationException") hown [⟨0, 13, 16, 13⟩] ⟨0, 13, 20, 34⟩ [] (vx_table (x := yL_change) B (h2 _ (tb_3 203 rfl rfl))) (fun z hz => by cases List.mem_singleton.mp hz; exact Or.inr ⟨by decide, eI, h2 _ (tb_2 103 rfl rfl), hKa.1.2.2.2.2.2.2⟩) rfl (by decide) (h2 _ (tb_3 65 rfl rfl)) (va_Nw.use rfl (hKa.1.2.2.2.2.1 (eU, eU) (List.mem_of_getElem? (i := 1) rfl))) g3 g4 g5 ?_
      refine lv_astore hx hb (eL_change (20, .astore 6, 2) (List.mem_of_getElem? (i := 13) rfl)) hl (by decide) rfl (fun ls6 hl6 => ?_)
      refine ff_iconst hx hb (eL_change (22, .iconst 2, 1) (List.mem_of_getElem? (i := 14) rfl)) (by decide) (by decide) (fun v7 e7 => ?_)
      exact W.zret hx hb hr rfl (fun t ht hW => ⟨_, ro, L, zc, z1, r1, rfl, fun _ _ h => h, by rw [ht]; exact hh1.l0, by rw [ht]; exact k4, by rw [ht]; exact j1, by rw [ht]; exact oc1, or1, Or.inr ⟨by omega, by have g6 := sp1; rw [show (2 : Int) = _ from (by omega : (2 : Int) = v7.toInt)] at g6; exact g6⟩⟩) hh1.2.2.1 (eL_change (23, .ireturn, 1) (List.mem_of_getElem? (i := 15) rfl))
set_option maxRecDepth 100000 in
set_option maxHeartbeats 4000000 in
theorem wY_rule (l : Launch) (hst : l.stackTraces = false) (D : va_G) (cA : Nat → ClassId) (ro : Nat → Option Nat) (sz : Nat) (H0 : Heap) (x : Nat) (p1 : Int32) (o : Nat) (L : List Int) (zc : zY) (T O : List Int) (hx10 : ro x = some 10) (ho : ro o = some 42) : Met l yL_rule (Cond.codeWith yL_rule cL_rule 4 (some .int) [(0, 8, 11, 13)] :: gT) { frames := 7, cells := 1, slots := 6, locals := 164 } (zs_PX D cA ro sz H0 (fun H => jCY D cA ro H x L zc ∧ jCK D cA ro H x T O) [.ref x, .int p1, .ref o]) (yy_QL D cA ro sz H0 x o (spUY p1.toInt T L zc)) 1 6 (zy_fr sz) := by
  refine zw_ofW (cc := cL_rule) (maxL := 4) (ret := some .int) (by decide +kernel) rfl ?_
  intro p e s m args below meth c s1 B hml hv
  obtain ⟨rfl, hh, hKa, hBM, hJ⟩ := hv
  have hx := B.exec
  have hb := B.bytes
  have hr := B.returns
  have hlk := B.notSynchronized
  have hts0 := atoms_spec (ws := Cond.codeWith yL_rule cL_rule 4 (some .int) [(0, 8, 11, 13)] :: gT) B.pre
  have h2 : ∀ w ∈ gT, w.before ([.ref x, .int p1, .ref o] : List Value).toArray s = true := fun w hw => hts0 w (List.mem_cons_of_mem _ hw)
  have hown : s.vm.findClass RL = some m.cls := findClass_of_methodNamed B.named
  have hl := lv_entry [.ref x, .int p1, .ref o] (n := 4) (Nat.le_of_ble_eq_true rfl)
  rw [lg_entry_eq]
  generalize (lg_sl [.ref x, .int p1, .ref o] ++ List.replicate (4 - (lg_sl [.ref x, .int p1, .ref o]).length) Slot.unset).toArray = ls at hl ⊢
  refine lv_aload_n hx hb (eL_rule (0, .aload_n 2, 1) (List.mem_of_getElem? (i := 0) rfl)) rfl (lv_at hl 2 rfl) ?_
  refine ff_iconst hx hb (eL_rule (1, .iconst 0, 1) (List.mem_of_getElem? (i := 1) rfl)) (by decide) (by decide) (fun v1 e1 => ?_)
  refine lv_aload_n hx hb (eL_rule (2, .aload_n 0, 1) (List.mem_of_getElem? (i := 2) rfl)) rfl (lv_at hl 0 rfl) ?_
  refine lv_iload_n hx hb (eL_rule (3, .iload_n 1, 1) (List.mem_of_getElem? (i := 3) rfl)) rfl (lv_at hl 1 rfl) ?_
  refine zx_rowG (As := [.int p1]) (st := [.int v1, .ref o]) (b := x) (C := RX11) hx hb hml hown hts0 (hX11_ruleY l hst D cA ro sz H0 x p1 L zc.1 zc.2 T O hx10) ⟨rfl, rfl⟩ ⟨by decide, by decide⟩ ⟨by decide, by decide⟩ (tb_3 232 rfl rfl) (tb_1 1 rfl rfl) (tb_3 229 rfl rfl) (tb_3 230 rfl rfl) (tb_3 231 rfl rfl) rfl (show yX11_rule.cls ≠ "java/lang/invoke/MethodHandle" ∧ yX11_rule.cls ≠ "java/lang/invoke/VarHandle" ∧ (parseMethodDescriptor yX11_rule.desc).map (fun d => d.parameters.length) = some 1 by decide +kernel) zs_blindX (zw_ob hh hKa.1.1.1 hx10) (fun U hU hW => ⟨rfl, by rw [hU]; exact hh, hKa.warm hW, zBM_B.2 s U hW hU hBM, by rw [hU]; exact hJ⟩) (fun q hq => by cases hq) hl.1 (Nat.le_of_ble_eq_true rfl) (eL_rule (4, .invokevirtual 50, 3) (List.mem_of_getElem? (i := 4) rfl)) (fun v s0 t lo1 g0 g1 g2 => ?_) (fun q s0 t lo1 E ce g0 g1 g3 g4 g5 g2 => ?_)
  · obtain ⟨v9, r9, ro9, L9, c9, q1, ⟨y9, q2, q3⟩, he9, q5, q6, q7, q8⟩ := g1
    cases q1
    cases q2
    rw [g0] at q6
    have hh1 : zh_ok D cA RTg ro9 sz H0 t.heap lo1 := ⟨q5.1, q5.2.1, g2, q5.2.2.2⟩
    have kp1 := q6
    refine W.eq (g2 := F0 m 7 ls [.long y9, .int v1, .ref o]) rfl ?_
    refine zw_out hx hb hh1 hKa.1.1.1 (he9 _ _ ho) (by omega) (eL_rule (7, .lastore, 1) (List.mem_of_getElem? (i := 5) rfl)) (fun H9 lo9 hh9 hq9 _ hz9 => ?_)
    obtain ⟨z9, hz9, hz8⟩ := hz9
    have kg9 : zc_kept D RTg ro9 [(42, 0)] t.heap H9 := zk_setA (by decide) (he9 _ _ ho) rfl hq9
    have kp9 := kp1.trans ((kept_ro he9 kg9).mono (ms' := yMc) (by decide))
    have j9 := q7.kept (he9 _ _ hx10) kg9 (by decide)
    refine lv_goto hx hb (eL_rule (8, .goto 6, 3) (List.mem_of_getElem? (i := 6) rfl)) (tgt := 14) rfl ?_
    refine ff_iconst hx hb (eL_rule (14, .iconst 0, 1) (List.mem_of_getElem? (i := 10) rfl)) (by decide) (by decide) (fun v2 e2 => ?_)
    exact W.zret hx hb hr rfl (fun t ht hW => ⟨_, ro9, L9, c9, z9, y9, rfl, he9, by rw [ht]; exact hh9.l0, by rw [ht]; exact kp9, by rw [ht]; exact j9, by rw [ht]; exact hz9, hz8, Or.inl ⟨by omega, by rw [show y9.toInt = r9 by omega]; exact q8⟩⟩) hh9.2.2.1 (eL_rule (15, .ireturn, 1) (List.mem_of_getElem? (i := 11) rfl))
  · obtain ⟨q4, k4, k5, hE⟩ := g1
    rw [g0] at k4
    have hh1 : zh_ok D cA RTg ro sz H0 t.heap lo1 := ⟨q4.1, q4.2.1, g2, q4.2.2.2⟩
    have j1 := k5
    obtain ⟨-, z1, oc1, yo1⟩ := zh_arr hh1 ho (show RTg[42]? = some (1, 1, 1, [(1, (-9223372036854775808), 9223372036854775807)]) from rfl)
    obtain ⟨r1, or1, -, -⟩ := yo1 0 (by decide)
    rcases hE with ⟨rfl, sp1⟩ | ⟨rfl, sp1⟩
    · refine vx_catch (own := RL) (name := "java/lang/IllegalArgumentException") hown [] ⟨0, 8, 11, 13⟩ [] (vx_table (x := yL_rule) B (h2 _ (tb_3 228 rfl rfl))) (fun z hz => by cases hz) rfl (by decide) (h2 _ (tb_2 103 rfl rfl)) (va_Nw.use rfl (hKa.1.2.2.2.2.1 (eI, eI) (List.mem_of_getElem? (i := 0) rfl))) g3 g4 g5 ?_
      refine lv_astore_n hx hb (eL_rule (11, .astore_n 3, 1) (List.mem_of_getElem? (i := 7) rfl)) rfl hl (by decide) rfl (fun ls3 hl3 => ?_)
      refine ff_iconst hx hb (eL_rule (12, .iconst 1, 1) (List.mem_of_getElem? (i := 8) rfl)) (by decide) (by decide) (fun v4 e4 => ?_)
      exact W.zret hx hb hr rfl (fun t ht hW => ⟨_, ro, L, zc, z1, r1, rfl, fun _ _ h => h, by rw [ht]; exact hh1.l0, by rw [ht]; exact k4, by rw [ht]; exact j1, by rw [ht]; exact oc1, or1, Or.inr ⟨by omega, by have g6 := sp1; rw [show (1 : Int) = _ from (by omega : (1 : Int) = v4.toInt)] at g6; exact g6⟩⟩) hh1.2.2.1 (eL_rule (13, .ireturn, 1) (List.mem_of_getElem? (i := 9) rfl))
    · exfalso
      obtain ⟨r8, sp1⟩ := sp1
      exact spUY_no2 sp1
set_option maxRecDepth 100000 in
set_option maxHeartbeats 4000000 in
theorem wY_offset (l : Launch) (hst : l.stackTraces = false) (D : va_G) (cA : Nat → ClassId) (ro : Nat → Option Nat) (sz : Nat) (H0 : Heap) (x : Nat) (p1 : Int32) (p2 : Int64) (o : Nat) (L : List Int) (zc : zY) (hx10 : ro x = some 10) (ho : ro o = some 42) : Met l yL_offset (Cond.codeWith yL_offset cL_offset 6 (some .int) [(0, 11, 14, 13)] :: gT) { frames := 7, cells := 1, slots := 6, locals := 121 } (zs_PY D cA ro sz H0 (fun H => jCY D cA ro H x L zc) [.ref x, .int p1, .long p2, .ref o]) (yy_QL D cA ro sz H0 x o (spOY p1.toInt p2.toInt L zc)) 1 6 (zy_fr sz) := by
  refine zw_ofW (cc := cL_offset) (maxL := 6) (ret := some .int) (by decide +kernel) rfl ?_
  intro p e s m args below meth c s1 B hml hv
  obtain ⟨rfl, hh, hKa, hBQ, hJ⟩ := hv
  have hx := B.exec
  have hb := B.bytes
  have hr := B.returns
  have hlk := B.notSynchronized
  have hts0 := atoms_spec (ws := Cond.codeWith yL_offset cL_offset 6 (some .int) [(0, 11, 14, 13)] :: gT) B.pre
  have h2 : ∀ w ∈ gT, w.before ([.ref x, .int p1, .long p2, .ref o] : List Value).toArray s = true := fun w hw => hts0 w (List.mem_cons_of_mem _ hw)
  have hown : s.vm.findClass RL = some m.cls := findClass_of_methodNamed B.named
  have hl := lv_entry [.ref x, .int p1, .long p2, .ref o] (n := 6) (Nat.le_of_ble_eq_true rfl)
  rw [lg_entry_eq]
  generalize (lg_sl [.ref x, .int p1, .long p2, .ref o] ++ List.replicate (6 - (lg_sl [.ref x, .int p1, .long p2, .ref o]).length) Slot.unset).toArray = ls at hl ⊢
  refine lv_aload hx hb (eL_offset (0, .aload 4, 2) (List.mem_of_getElem? (i := 0) rfl)) (lv_at hl 3 rfl) ?_
  refine ff_iconst hx hb (eL_offset (2, .iconst 0, 1) (List.mem_of_getElem? (i := 1) rfl)) (by decide) (by decide) (fun v1 e1 => ?_)
  refine lv_aload_n hx hb (eL_offset (3, .aload_n 0, 1) (List.mem_of_getElem? (i := 2) rfl)) rfl (lv_at hl 0 rfl) ?_
  refine lv_iload_n hx hb (eL_offset (4, .iload_n 1, 1) (List.mem_of_getElem? (i := 3) rfl)) rfl (lv_at hl 1 rfl) ?_
  refine lv_lload_n hx hb (eL_offset (5, .lload_n 2, 1) (List.mem_of_getElem? (i := 4) rfl)) rfl (lv_at hl 2 rfl) ?_
  refine zx_rowG (As := [.int p1, .long p2]) (st := [.int v1, .ref o]) (b := x) (C := RX11) hx hb hml hown hts0 (hX11_offsetY l hst D cA ro sz H0 x p1 p2 L zc.1 zc.2 hx10) ⟨rfl, rfl⟩ ⟨by decide, by decide⟩ ⟨by decide, by decide⟩ (tb_4 108 rfl rfl) (tb_1 1 rfl rfl) (tb_4 105 rfl rfl) (tb_4 106 rfl rfl) (tb_4 107 rfl rfl) rfl (show yX11_offset.cls ≠ "java/lang/invoke/MethodHandle" ∧ yX11_offset.cls ≠ "java/lang/invoke/VarHandle" ∧ (parseMethodDescriptor yX11_offset.desc).map (fun d => d.parameters.length) = some 2 by decide +kernel) zs_blindY (zw_ob hh hKa.1.1.1 hx10) (fun U hU hW => ⟨rfl, by rw [hU]; exact hh, hKa.warm hW, hBQ.alike hW.alike, by rw [hU]; exact hJ⟩) (fun q hq => by cases hq) hl.1 (Nat.le_of_ble_eq_true rfl) (eL_offset (6, .invokevirtual 53, 3) (List.mem_of_getElem? (i := 5) rfl)) (fun v s0 t lo1 g0 g1 g2 => ?_) (fun q s0 t lo1 E ce g0 g1 g3 g4 g5 g2 => ?_)
  · obtain ⟨v9, r9, ro9, L9, c9, q1, ⟨y9, q2, q3⟩, he9, q5, q6, q7, q8⟩ := g1
    cases q1
    cases q2
    rw [g0] at q6
    have hh1 : zh_ok D cA RTg ro9 sz H0 t.heap lo1 := ⟨q5.1, q5.2.1, g2, q5.2.2.2⟩
    have kp1 := q6
    refine W.eq (g2 := F0 m 9 ls [.int y9, .int v1, .ref o]) rfl ?_
    refine ff_i2l hx hb (eL_offset (9, .i2l, 1) (List.mem_of_getElem? (i := 6) rfl)) (fun v2 e2 => ?_)
    refine zw_out hx hb hh1 hKa.1.1.1 (he9 _ _ ho) (by omega) (eL_offset (10, .lastore, 1) (List.mem_of_getElem? (i := 7) rfl)) (fun H9 lo9 hh9 hq9 _ hz9 => ?_)
    obtain ⟨z9, hz9, hz8⟩ := hz9
    have kg9 : zc_kept D RTg ro9 [(42, 0)] t.heap H9 := zk_setA (by decide) (he9 _ _ ho) rfl hq9
    have kp9 := kp1.trans ((kept_ro he9 kg9).mono (ms' := yMc) (by decide))
    have j9 := q7.kept (he9 _ _ hx10) kg9 (by decide)
    refine lv_goto hx hb (eL_offset (11, .goto 7, 3) (List.mem_of_getElem? (i := 8) rfl)) (tgt := 18) rfl ?_
    refine ff_iconst hx hb (eL_offset (18, .iconst 0, 1) (List.mem_of_getElem? (i := 12) rfl)) (by decide) (by decide) (fun v3 e3 => ?_)
    exact W.zret hx hb hr rfl (fun t ht hW => ⟨_, ro9, L9, c9, z9, v2, rfl, he9, by rw [ht]; exact hh9.l0, by rw [ht]; exact kp9, by rw [ht]; exact j9, by rw [ht]; exact hz9, hz8, Or.inl ⟨by omega, by rw [show v2.toInt = r9 by omega]; exact q8⟩⟩) hh9.2.2.1 (eL_offset (19, .ireturn, 1) (List.mem_of_getElem? (i := 13) rfl))
  · obtain ⟨q4, k4, k5, hE⟩ := g1
    rw [g0] at k4
    have hh1 : zh_ok D cA RTg ro sz H0 t.heap lo1 := ⟨q4.1, q4.2.1, g2, q4.2.2.2⟩
    have j1 := k5
    obtain ⟨-, z1, oc1, yo1⟩ := zh_arr hh1 ho (show RTg[42]? = some (1, 1, 1, [(1, (-9223372036854775808), 9223372036854775807)]) from rfl)
    obtain ⟨r1, or1, -, -⟩ := yo1 0 (by decide)
    rcases hE with ⟨rfl, sp1⟩ | ⟨rfl, sp1⟩
    · refine vx_catch (own := RL) (name := "java/lang/IllegalArgumentException") hown [] ⟨0, 11, 14, 13⟩ [] (vx_table (x := yL_offset) B (h2 _ (tb_4 104 rfl rfl))) (fun z hz => by cases hz) rfl (by decide) (h2 _ (tb_2 103 rfl rfl)) (va_Nw.use rfl (hKa.1.2.2.2.2.1 (eI, eI) (List.mem_of_getElem? (i := 0) rfl))) g3 g4 g5 ?_
      refine lv_astore hx hb (eL_offset (14, .astore 5, 2) (List.mem_of_getElem? (i := 9) rfl)) hl (by decide) rfl (fun ls4 hl4 => ?_)
      refine ff_iconst hx hb (eL_offset (16, .iconst 1, 1) (List.mem_of_getElem? (i := 10) rfl)) (by decide) (by decide) (fun v5 e5 => ?_)
      exact W.zret hx hb hr rfl (fun t ht hW => ⟨_, ro, L, zc, z1, r1, rfl, fun _ _ h => h, by rw [ht]; exact hh1.l0, by rw [ht]; exact k4, by rw [ht]; exact j1, by rw [ht]; exact oc1, or1, Or.inr ⟨by omega, by have g6 := sp1; rw [show (1 : Int) = _ from (by omega : (1 : Int) = v5.toInt)] at g6; exact g6⟩⟩) hh1.2.2.1 (eL_offset (17, .ireturn, 1) (List.mem_of_getElem? (i := 11) rfl))
    · exfalso
      obtain ⟨r8, sp1⟩ := sp1
      exact spOY_no2 sp1
set_option maxRecDepth 100000 in
set_option maxHeartbeats 4000000 in
theorem wY_local (l : Launch) (hst : l.stackTraces = false) (D : va_G) (cA : Nat → ClassId) (ro : Nat → Option Nat) (sz : Nat) (H0 : Heap) (x : Nat) (p1 : Int32) (p2 : Int64) (p3 : Int32) (p4 : Int32) (o : Nat) (L : List Int) (zc : zY) (hx10 : ro x = some 10) (ho : ro o = some 42) (hzp : zP zc.1) : Met l yL_local (Cond.codeWith yL_local cL_local 8 (some .int) [(0, 14, 17, 13)] :: gT) { frames := 7, cells := 1, slots := 6, locals := 155 } (zs_PY D cA ro sz H0 (fun H => jCY D cA ro H x L zc) [.ref x, .int p1, .long p2, .int p3, .int p4, .ref o]) (yy_QL D cA ro sz H0 x o (spKY p1.toInt p2.toInt p3.toInt p4.toInt L zc)) 1 6 (zy_fr sz) := by
  refine zw_ofW (cc := cL_local) (maxL := 8) (ret := some .int) (by decide +kernel) rfl ?_
  intro p e s m args below meth c s1 B hml hv
  obtain ⟨rfl, hh, hKa, hBQ, hJ⟩ := hv
  have hx := B.exec
  have hb := B.bytes
  have hr := B.returns
  have hlk := B.notSynchronized
  have hts0 := atoms_spec (ws := Cond.codeWith yL_local cL_local 8 (some .int) [(0, 14, 17, 13)] :: gT) B.pre
  have h2 : ∀ w ∈ gT, w.before ([.ref x, .int p1, .long p2, .int p3, .int p4, .ref o] : List Value).toArray s = true := fun w hw => hts0 w (List.mem_cons_of_mem _ hw)
  have hown : s.vm.findClass RL = some m.cls := findClass_of_methodNamed B.named
  have hl := lv_entry [.ref x, .int p1, .long p2, .int p3, .int p4, .ref o] (n := 8) (Nat.le_of_ble_eq_true rfl)
  rw [lg_entry_eq]
  generalize (lg_sl [.ref x, .int p1, .long p2, .int p3, .int p4, .ref o] ++ List.replicate (8 - (lg_sl [.ref x, .int p1, .long p2, .int p3, .int p4, .ref o]).length) Slot.unset).toArray = ls at hl ⊢
  refine lv_aload hx hb (eL_local (0, .aload 6, 2) (List.mem_of_getElem? (i := 0) rfl)) (lv_at hl 5 rfl) ?_
  refine ff_iconst hx hb (eL_local (2, .iconst 0, 1) (List.mem_of_getElem? (i := 1) rfl)) (by decide) (by decide) (fun v1 e1 => ?_)
  refine lv_aload_n hx hb (eL_local (3, .aload_n 0, 1) (List.mem_of_getElem? (i := 2) rfl)) rfl (lv_at hl 0 rfl) ?_
  refine lv_iload_n hx hb (eL_local (4, .iload_n 1, 1) (List.mem_of_getElem? (i := 3) rfl)) rfl (lv_at hl 1 rfl) ?_
  refine lv_lload_n hx hb (eL_local (5, .lload_n 2, 1) (List.mem_of_getElem? (i := 4) rfl)) rfl (lv_at hl 2 rfl) ?_
  refine lv_iload hx hb (eL_local (6, .iload 4, 2) (List.mem_of_getElem? (i := 5) rfl)) (lv_at hl 3 rfl) ?_
  refine lv_iload hx hb (eL_local (8, .iload 5, 2) (List.mem_of_getElem? (i := 6) rfl)) (lv_at hl 4 rfl) ?_
  refine zx_rowG (As := [.int p1, .long p2, .int p3, .int p4]) (st := [.int v1, .ref o]) (b := x) (C := RX11) hx hb hml hown hts0 (hX11_localY l hst D cA ro sz H0 x p1 p2 p3 p4 L zc.1 zc.2 hx10 hzp) ⟨rfl, rfl⟩ ⟨by decide, by decide⟩ ⟨by decide, by decide⟩ (tb_4 151 rfl rfl) (tb_1 1 rfl rfl) (tb_4 148 rfl rfl) (tb_4 149 rfl rfl) (tb_4 150 rfl rfl) rfl (show yX11_local.cls ≠ "java/lang/invoke/MethodHandle" ∧ yX11_local.cls ≠ "java/lang/invoke/VarHandle" ∧ (parseMethodDescriptor yX11_local.desc).map (fun d => d.parameters.length) = some 4 by decide +kernel) zs_blindY (zw_ob hh hKa.1.1.1 hx10) (fun U hU hW => ⟨rfl, by rw [hU]; exact hh, hKa.warm hW, hBQ.alike hW.alike, by rw [hU]; exact hJ⟩) (fun q hq => by cases hq) hl.1 (Nat.le_of_ble_eq_true rfl) (eL_local (10, .invokevirtual 57, 3) (List.mem_of_getElem? (i := 7) rfl)) (fun v s0 t lo1 g0 g1 g2 => ?_) (fun q s0 t lo1 E ce g0 g1 g3 g4 g5 g2 => ?_)
  · obtain ⟨v9, r9, ro9, L9, c9, q1, ⟨y9, q2, q3⟩, he9, q5, q6, q7, q8⟩ := g1
    cases q1
    cases q2
    rw [g0] at q6
    have hh1 : zh_ok D cA RTg ro9 sz H0 t.heap lo1 := ⟨q5.1, q5.2.1, g2, q5.2.2.2⟩
    have kp1 := q6
    refine W.eq (g2 := F0 m 13 ls [.long y9, .int v1, .ref o]) rfl ?_
    refine zw_out hx hb hh1 hKa.1.1.1 (he9 _ _ ho) (by omega) (eL_local (13, .lastore, 1) (List.mem_of_getElem? (i := 8) rfl)) (fun H9 lo9 hh9 hq9 _ hz9 => ?_)
    obtain ⟨z9, hz9, hz8⟩ := hz9
    have kg9 : zc_kept D RTg ro9 [(42, 0)] t.heap H9 := zk_setA (by decide) (he9 _ _ ho) rfl hq9
    have kp9 := kp1.trans ((kept_ro he9 kg9).mono (ms' := yMc) (by decide))
    have j9 := q7.kept (he9 _ _ hx10) kg9 (by decide)
    refine lv_goto hx hb (eL_local (14, .goto 7, 3) (List.mem_of_getElem? (i := 9) rfl)) (tgt := 21) rfl ?_
    refine ff_iconst hx hb (eL_local (21, .iconst 0, 1) (List.mem_of_getElem? (i := 13) rfl)) (by decide) (by decide) (fun v2 e2 => ?_)
    exact W.zret hx hb hr rfl (fun t ht hW => ⟨_, ro9, L9, c9, z9, y9, rfl, he9, by rw [ht]; exact hh9.l0, by rw [ht]; exact kp9, by rw [ht]; exact j9, by rw [ht]; exact hz9, hz8, Or.inl ⟨by omega, by rw [show y9.toInt = r9 by omega]; exact q8⟩⟩) hh9.2.2.1 (eL_local (22, .ireturn, 1) (List.mem_of_getElem? (i := 14) rfl))
  · obtain ⟨q4, k4, k5, hE⟩ := g1
    rw [g0] at k4
    have hh1 : zh_ok D cA RTg ro sz H0 t.heap lo1 := ⟨q4.1, q4.2.1, g2, q4.2.2.2⟩
    have j1 := k5
    obtain ⟨-, z1, oc1, yo1⟩ := zh_arr hh1 ho (show RTg[42]? = some (1, 1, 1, [(1, (-9223372036854775808), 9223372036854775807)]) from rfl)
    obtain ⟨r1, or1, -, -⟩ := yo1 0 (by decide)
    rcases hE with ⟨rfl, sp1⟩ | ⟨rfl, sp1⟩
    · refine vx_catch (own := RL) (name := "java/lang/IllegalArgumentException") hown [] ⟨0, 14, 17, 13⟩ [] (vx_table (x := yL_local) B (h2 _ (tb_4 147 rfl rfl))) (fun z hz => by cases hz) rfl (by decide) (h2 _ (tb_2 103 rfl rfl)) (va_Nw.use rfl (hKa.1.2.2.2.2.1 (eI, eI) (List.mem_of_getElem? (i := 0) rfl))) g3 g4 g5 ?_
      refine lv_astore hx hb (eL_local (17, .astore 7, 2) (List.mem_of_getElem? (i := 10) rfl)) hl (by decide) rfl (fun ls3 hl3 => ?_)
      refine ff_iconst hx hb (eL_local (19, .iconst 1, 1) (List.mem_of_getElem? (i := 11) rfl)) (by decide) (by decide) (fun v4 e4 => ?_)
      exact W.zret hx hb hr rfl (fun t ht hW => ⟨_, ro, L, zc, z1, r1, rfl, fun _ _ h => h, by rw [ht]; exact hh1.l0, by rw [ht]; exact k4, by rw [ht]; exact j1, by rw [ht]; exact oc1, or1, Or.inr ⟨by omega, by have g6 := sp1; rw [show (1 : Int) = _ from (by omega : (1 : Int) = v4.toInt)] at g6; exact g6⟩⟩) hh1.2.2.1 (eL_local (20, .ireturn, 1) (List.mem_of_getElem? (i := 12) rfl))
    · exfalso
      obtain ⟨r8, sp1⟩ := sp1
      exact spKY_no2 sp1
set_option maxRecDepth 100000 in
set_option maxHeartbeats 4000000 in
theorem wY_next (l : Launch) (hst : l.stackTraces = false) (D : va_G) (cA : Nat → ClassId) (ro : Nat → Option Nat) (sz : Nat) (H0 : Heap) (x : Nat) (p1 : Int32) (p2 : Int64) (o : Nat) (L : List Int) (zc : zY) (hx10 : ro x = some 10) (ho : ro o = some 42) (hzp : zP zc.1) : Met l yL_next (Cond.codeWith yL_next cL_next 6 (some .int) [(0, 10, 13, 13)] :: gT) { frames := 7, cells := 1, slots := 6, locals := 133 } (zs_PY D cA ro sz H0 (fun H => jCY D cA ro H x L zc) [.ref x, .int p1, .long p2, .ref o]) (yy_QL D cA ro sz H0 x o (spNY p1.toInt p2.toInt L zc)) 1 6 (zy_fr sz) := by
  refine zw_ofW (cc := cL_next) (maxL := 6) (ret := some .int) (by decide +kernel) rfl ?_
  intro p e s m args below meth c s1 B hml hv
  obtain ⟨rfl, hh, hKa, hBQ, hJ⟩ := hv
  have hx := B.exec
  have hb := B.bytes
  have hr := B.returns
  have hlk := B.notSynchronized
  have hts0 := atoms_spec (ws := Cond.codeWith yL_next cL_next 6 (some .int) [(0, 10, 13, 13)] :: gT) B.pre
  have h2 : ∀ w ∈ gT, w.before ([.ref x, .int p1, .long p2, .ref o] : List Value).toArray s = true := fun w hw => hts0 w (List.mem_cons_of_mem _ hw)
  have hown : s.vm.findClass RL = some m.cls := findClass_of_methodNamed B.named
  have hl := lv_entry [.ref x, .int p1, .long p2, .ref o] (n := 6) (Nat.le_of_ble_eq_true rfl)
  rw [lg_entry_eq]
  generalize (lg_sl [.ref x, .int p1, .long p2, .ref o] ++ List.replicate (6 - (lg_sl [.ref x, .int p1, .long p2, .ref o]).length) Slot.unset).toArray = ls at hl ⊢
  refine lv_aload hx hb (eL_next (0, .aload 4, 2) (List.mem_of_getElem? (i := 0) rfl)) (lv_at hl 3 rfl) ?_
  refine ff_iconst hx hb (eL_next (2, .iconst 0, 1) (List.mem_of_getElem? (i := 1) rfl)) (by decide) (by decide) (fun v1 e1 => ?_)
  refine lv_aload_n hx hb (eL_next (3, .aload_n 0, 1) (List.mem_of_getElem? (i := 2) rfl)) rfl (lv_at hl 0 rfl) ?_
  refine lv_iload_n hx hb (eL_next (4, .iload_n 1, 1) (List.mem_of_getElem? (i := 3) rfl)) rfl (lv_at hl 1 rfl) ?_
  refine lv_lload_n hx hb (eL_next (5, .lload_n 2, 1) (List.mem_of_getElem? (i := 4) rfl)) rfl (lv_at hl 2 rfl) ?_
  refine zx_rowG (As := [.int p1, .long p2]) (st := [.int v1, .ref o]) (b := x) (C := RX11) hx hb hml hown hts0 (hX11_nextY l hst D cA ro sz H0 x p1 p2 L zc.1 zc.2 hx10 hzp) ⟨rfl, rfl⟩ ⟨by decide, by decide⟩ ⟨by decide, by decide⟩ (tb_4 174 rfl rfl) (tb_1 1 rfl rfl) (tb_4 171 rfl rfl) (tb_4 172 rfl rfl) (tb_4 173 rfl rfl) rfl (show yX11_next.cls ≠ "java/lang/invoke/MethodHandle" ∧ yX11_next.cls ≠ "java/lang/invoke/VarHandle" ∧ (parseMethodDescriptor yX11_next.desc).map (fun d => d.parameters.length) = some 2 by decide +kernel) zs_blindY (zw_ob hh hKa.1.1.1 hx10) (fun U hU hW => ⟨rfl, by rw [hU]; exact hh, hKa.warm hW, hBQ.alike hW.alike, by rw [hU]; exact hJ⟩) (fun q hq => by cases hq) hl.1 (Nat.le_of_ble_eq_true rfl) (eL_next (6, .invokevirtual 61, 3) (List.mem_of_getElem? (i := 5) rfl)) (fun v s0 t lo1 g0 g1 g2 => ?_) (fun q s0 t lo1 E ce g0 g1 g3 g4 g5 g2 => ?_)
  · obtain ⟨v9, r9, ro9, L9, c9, q1, ⟨y9, q2, q3⟩, he9, q5, q6, q7, q8⟩ := g1
    cases q1
    cases q2
    rw [g0] at q6
    have hh1 : zh_ok D cA RTg ro9 sz H0 t.heap lo1 := ⟨q5.1, q5.2.1, g2, q5.2.2.2⟩
    have kp1 := q6
    refine W.eq (g2 := F0 m 9 ls [.long y9, .int v1, .ref o]) rfl ?_
    refine zw_out hx hb hh1 hKa.1.1.1 (he9 _ _ ho) (by omega) (eL_next (9, .lastore, 1) (List.mem_of_getElem? (i := 6) rfl)) (fun H9 lo9 hh9 hq9 _ hz9 => ?_)
    obtain ⟨z9, hz9, hz8⟩ := hz9
    have kg9 : zc_kept D RTg ro9 [(42, 0)] t.heap H9 := zk_setA (by decide) (he9 _ _ ho) rfl hq9
    have kp9 := kp1.trans ((kept_ro he9 kg9).mono (ms' := yMc) (by decide))
    have j9 := q7.kept (he9 _ _ hx10) kg9 (by decide)
    refine lv_goto hx hb (eL_next (10, .goto 7, 3) (List.mem_of_getElem? (i := 7) rfl)) (tgt := 17) rfl ?_
    refine ff_iconst hx hb (eL_next (17, .iconst 0, 1) (List.mem_of_getElem? (i := 11) rfl)) (by decide) (by decide) (fun v2 e2 => ?_)
    exact W.zret hx hb hr rfl (fun t ht hW => ⟨_, ro9, L9, c9, z9, y9, rfl, he9, by rw [ht]; exact hh9.l0, by rw [ht]; exact kp9, by rw [ht]; exact j9, by rw [ht]; exact hz9, hz8, Or.inl ⟨by omega, by rw [show y9.toInt = r9 by omega]; exact q8⟩⟩) hh9.2.2.1 (eL_next (18, .ireturn, 1) (List.mem_of_getElem? (i := 12) rfl))
  · obtain ⟨q4, k4, k5, hE⟩ := g1
    rw [g0] at k4
    have hh1 : zh_ok D cA RTg ro sz H0 t.heap lo1 := ⟨q4.1, q4.2.1, g2, q4.2.2.2⟩
    have j1 := k5
    obtain ⟨-, z1, oc1, yo1⟩ := zh_arr hh1 ho (show RTg[42]? = some (1, 1, 1, [(1, (-9223372036854775808), 9223372036854775807)]) from rfl)
    obtain ⟨r1, or1, -, -⟩ := yo1 0 (by decide)
    rcases hE with ⟨rfl, sp1⟩ | ⟨rfl, sp1⟩
    · refine vx_catch (own := RL) (name := "java/lang/IllegalArgumentException") hown [] ⟨0, 10, 13, 13⟩ [] (vx_table (x := yL_next) B (h2 _ (tb_4 170 rfl rfl))) (fun z hz => by cases hz) rfl (by decide) (h2 _ (tb_2 103 rfl rfl)) (va_Nw.use rfl (hKa.1.2.2.2.2.1 (eI, eI) (List.mem_of_getElem? (i := 0) rfl))) g3 g4 g5 ?_
      refine lv_astore hx hb (eL_next (13, .astore 5, 2) (List.mem_of_getElem? (i := 8) rfl)) hl (by decide) rfl (fun ls3 hl3 => ?_)
      refine ff_iconst hx hb (eL_next (15, .iconst 1, 1) (List.mem_of_getElem? (i := 9) rfl)) (by decide) (by decide) (fun v4 e4 => ?_)
      exact W.zret hx hb hr rfl (fun t ht hW => ⟨_, ro, L, zc, z1, r1, rfl, fun _ _ h => h, by rw [ht]; exact hh1.l0, by rw [ht]; exact k4, by rw [ht]; exact j1, by rw [ht]; exact oc1, or1, Or.inr ⟨by omega, by have g6 := sp1; rw [show (1 : Int) = _ from (by omega : (1 : Int) = v4.toInt)] at g6; exact g6⟩⟩) hh1.2.2.1 (eL_next (16, .ireturn, 1) (List.mem_of_getElem? (i := 10) rfl))
    · exfalso
      obtain ⟨r8, sp1⟩ := sp1
      exact spNY_no2 sp1
set_option maxRecDepth 100000 in
set_option maxHeartbeats 4000000 in
theorem wY_plus (l : Launch) (hst : l.stackTraces = false) (D : va_G) (cA : Nat → ClassId) (ro : Nat → Option Nat) (sz : Nat) (H0 : Heap) (x : Nat) (p1 : Int32) (p2 : Int64) (p3 : Int32) (p4 : Int32) (o : Nat) (L : List Int) (zc : zY) (hx10 : ro x = some 10) (ho : ro o = some 42) (hzp : zP zc.1) : Met l yL_plus (Cond.codeWith yL_plus cL_plus 8 (some .int) [(0, 14, 17, 13)] :: gT) { frames := 7, cells := 1, slots := 6, locals := 204 } (zs_PY D cA ro sz H0 (fun H => jCY D cA ro H x L zc) [.ref x, .int p1, .long p2, .int p3, .int p4, .ref o]) (yy_QL D cA ro sz H0 x o (spPY L zc)) 1 6 (zy_fr sz) := by
  refine zw_ofW (cc := cL_plus) (maxL := 8) (ret := some .int) (by decide +kernel) rfl ?_
  intro p e s m args below meth c s1 B hml hv
  obtain ⟨rfl, hh, hKa, hBQ, hJ⟩ := hv
  have hx := B.exec
  have hb := B.bytes
  have hr := B.returns
  have hlk := B.notSynchronized
  have hts0 := atoms_spec (ws := Cond.codeWith yL_plus cL_plus 8 (some .int) [(0, 14, 17, 13)] :: gT) B.pre
  have h2 : ∀ w ∈ gT, w.before ([.ref x, .int p1, .long p2, .int p3, .int p4, .ref o] : List Value).toArray s = true := fun w hw => hts0 w (List.mem_cons_of_mem _ hw)
  have hown : s.vm.findClass RL = some m.cls := findClass_of_methodNamed B.named
  have hl := lv_entry [.ref x, .int p1, .long p2, .int p3, .int p4, .ref o] (n := 8) (Nat.le_of_ble_eq_true rfl)
  rw [lg_entry_eq]
  generalize (lg_sl [.ref x, .int p1, .long p2, .int p3, .int p4, .ref o] ++ List.replicate (8 - (lg_sl [.ref x, .int p1, .long p2, .int p3, .int p4, .ref o]).length) Slot.unset).toArray = ls at hl ⊢
  refine lv_aload hx hb (eL_plus (0, .aload 6, 2) (List.mem_of_getElem? (i := 0) rfl)) (lv_at hl 5 rfl) ?_
  refine ff_iconst hx hb (eL_plus (2, .iconst 0, 1) (List.mem_of_getElem? (i := 1) rfl)) (by decide) (by decide) (fun v1 e1 => ?_)
  refine lv_aload_n hx hb (eL_plus (3, .aload_n 0, 1) (List.mem_of_getElem? (i := 2) rfl)) rfl (lv_at hl 0 rfl) ?_
  refine lv_iload_n hx hb (eL_plus (4, .iload_n 1, 1) (List.mem_of_getElem? (i := 3) rfl)) rfl (lv_at hl 1 rfl) ?_
  refine lv_lload_n hx hb (eL_plus (5, .lload_n 2, 1) (List.mem_of_getElem? (i := 4) rfl)) rfl (lv_at hl 2 rfl) ?_
  refine lv_iload hx hb (eL_plus (6, .iload 4, 2) (List.mem_of_getElem? (i := 5) rfl)) (lv_at hl 3 rfl) ?_
  refine lv_iload hx hb (eL_plus (8, .iload 5, 2) (List.mem_of_getElem? (i := 6) rfl)) (lv_at hl 4 rfl) ?_
  refine zx_rowG (As := [.int p1, .long p2, .int p3, .int p4]) (st := [.int v1, .ref o]) (b := x) (C := RX11) hx hb hml hown hts0 (hX11_plusY l hst D cA ro sz H0 x p1 p2 p3 p4 L zc.1 zc.2 hx10 hzp) ⟨rfl, rfl⟩ ⟨by decide, by decide⟩ ⟨by decide, by decide⟩ (tb_6 92 rfl rfl) (tb_1 1 rfl rfl) (tb_6 89 rfl rfl) (tb_6 90 rfl rfl) (tb_6 91 rfl rfl) rfl (show yX11_plus.cls ≠ "java/lang/invoke/MethodHandle" ∧ yX11_plus.cls ≠ "java/lang/invoke/VarHandle" ∧ (parseMethodDescriptor yX11_plus.desc).map (fun d => d.parameters.length) = some 4 by decide +kernel) zs_blindY (zw_ob hh hKa.1.1.1 hx10) (fun U hU hW => ⟨rfl, by rw [hU]; exact hh, hKa.warm hW, hBQ.alike hW.alike, by rw [hU]; exact hJ⟩) (fun q hq => by cases hq) hl.1 (Nat.le_of_ble_eq_true rfl) (eL_plus (10, .invokevirtual 91, 3) (List.mem_of_getElem? (i := 7) rfl)) (fun v s0 t lo1 g0 g1 g2 => ?_) (fun q s0 t lo1 E ce g0 g1 g3 g4 g5 g2 => ?_)
  · obtain ⟨v9, r9, ro9, L9, c9, q1, ⟨y9, q2, q3⟩, he9, q5, q6, q7, q8⟩ := g1
    cases q1
    cases q2
    rw [g0] at q6
    have hh1 : zh_ok D cA RTg ro9 sz H0 t.heap lo1 := ⟨q5.1, q5.2.1, g2, q5.2.2.2⟩
    have kp1 := q6
    refine W.eq (g2 := F0 m 13 ls [.long y9, .int v1, .ref o]) rfl ?_
    refine zw_out hx hb hh1 hKa.1.1.1 (he9 _ _ ho) (by omega) (eL_plus (13, .lastore, 1) (List.mem_of_getElem? (i := 8) rfl)) (fun H9 lo9 hh9 hq9 _ hz9 => ?_)
    obtain ⟨z9, hz9, hz8⟩ := hz9
    have kg9 : zc_kept D RTg ro9 [(42, 0)] t.heap H9 := zk_setA (by decide) (he9 _ _ ho) rfl hq9
    have kp9 := kp1.trans ((kept_ro he9 kg9).mono (ms' := yMc) (by decide))
    have j9 := q7.kept (he9 _ _ hx10) kg9 (by decide)
    refine lv_goto hx hb (eL_plus (14, .goto 7, 3) (List.mem_of_getElem? (i := 9) rfl)) (tgt := 21) rfl ?_
    refine ff_iconst hx hb (eL_plus (21, .iconst 0, 1) (List.mem_of_getElem? (i := 13) rfl)) (by decide) (by decide) (fun v2 e2 => ?_)
    exact W.zret hx hb hr rfl (fun t ht hW => ⟨_, ro9, L9, c9, z9, y9, rfl, he9, by rw [ht]; exact hh9.l0, by rw [ht]; exact kp9, by rw [ht]; exact j9, by rw [ht]; exact hz9, hz8, Or.inl ⟨by omega, by rw [show y9.toInt = r9 by omega]; exact q8⟩⟩) hh9.2.2.1 (eL_plus (22, .ireturn, 1) (List.mem_of_getElem? (i := 14) rfl))
  · obtain ⟨q4, k4, k5, hE⟩ := g1
    rw [g0] at k4
    have hh1 : zh_ok D cA RTg ro sz H0 t.heap lo1 := ⟨q4.1, q4.2.1, g2, q4.2.2.2⟩
    have j1 := k5
    obtain ⟨-, z1, oc1, yo1⟩ := zh_arr hh1 ho (show RTg[42]? = some (1, 1, 1, [(1, (-9223372036854775808), 9223372036854775807)]) from rfl)
    obtain ⟨r1, or1, -, -⟩ := yo1 0 (by decide)
    rcases hE with ⟨rfl, sp1⟩ | ⟨rfl, sp1⟩
    · refine vx_catch (own := RL) (name := "java/lang/IllegalArgumentException") hown [] ⟨0, 14, 17, 13⟩ [] (vx_table (x := yL_plus) B (h2 _ (tb_6 88 rfl rfl))) (fun z hz => by cases hz) rfl (by decide) (h2 _ (tb_2 103 rfl rfl)) (va_Nw.use rfl (hKa.1.2.2.2.2.1 (eI, eI) (List.mem_of_getElem? (i := 0) rfl))) g3 g4 g5 ?_
      refine lv_astore hx hb (eL_plus (17, .astore 7, 2) (List.mem_of_getElem? (i := 10) rfl)) hl (by decide) rfl (fun ls3 hl3 => ?_)
      refine ff_iconst hx hb (eL_plus (19, .iconst 1, 1) (List.mem_of_getElem? (i := 11) rfl)) (by decide) (by decide) (fun v4 e4 => ?_)
      exact W.zret hx hb hr rfl (fun t ht hW => ⟨_, ro, L, zc, z1, r1, rfl, fun _ _ h => h, by rw [ht]; exact hh1.l0, by rw [ht]; exact k4, by rw [ht]; exact j1, by rw [ht]; exact oc1, or1, Or.inr ⟨by omega, by have g6 := sp1; rw [show (1 : Int) = _ from (by omega : (1 : Int) = v4.toInt)] at g6; exact g6⟩⟩) hh1.2.2.1 (eL_plus (20, .ireturn, 1) (List.mem_of_getElem? (i := 12) rfl))
    · exfalso
      obtain ⟨r8, sp1⟩ := sp1
      exact spPY_no2 sp1
set_option maxRecDepth 100000 in
set_option maxHeartbeats 4000000 in
theorem wY_between (l : Launch) (hst : l.stackTraces = false) (D : va_G) (cA : Nat → ClassId) (ro : Nat → Option Nat) (sz : Nat) (H0 : Heap) (x : Nat) (p1 : Int32) (p2 : Int64) (p3 : Int64) (p4 : Int32) (o : Nat) (L : List Int) (zc : zY) (hx10 : ro x = some 10) (ho : ro o = some 42) (hzp : zP zc.1) : Met l yL_between (Cond.codeWith yL_between cL_between 9 (some .int) [(0, 14, 17, 13)] :: gT) { frames := 7, cells := 1, slots := 6, locals := 209 } (zs_PY D cA ro sz H0 (fun H => jCY D cA ro H x L zc) [.ref x, .int p1, .long p2, .long p3, .int p4, .ref o]) (yy_QL D cA ro sz H0 x o (spPY L zc)) 1 6 (zy_fr sz) := by
  refine zw_ofW (cc := cL_between) (maxL := 9) (ret := some .int) (by decide +kernel) rfl ?_
  intro p e s m args below meth c s1 B hml hv
  obtain ⟨rfl, hh, hKa, hBQ, hJ⟩ := hv
  have hx := B.exec
  have hb := B.bytes
  have hr := B.returns
  have hlk := B.notSynchronized
  have hts0 := atoms_spec (ws := Cond.codeWith yL_between cL_between 9 (some .int) [(0, 14, 17, 13)] :: gT) B.pre
  have h2 : ∀ w ∈ gT, w.before ([.ref x, .int p1, .long p2, .long p3, .int p4, .ref o] : List Value).toArray s = true := fun w hw => hts0 w (List.mem_cons_of_mem _ hw)
  have hown : s.vm.findClass RL = some m.cls := findClass_of_methodNamed B.named
  have hl := lv_entry [.ref x, .int p1, .long p2, .long p3, .int p4, .ref o] (n := 9) (Nat.le_of_ble_eq_true rfl)
  rw [lg_entry_eq]
  generalize (lg_sl [.ref x, .int p1, .long p2, .long p3, .int p4, .ref o] ++ List.replicate (9 - (lg_sl [.ref x, .int p1, .long p2, .long p3, .int p4, .ref o]).length) Slot.unset).toArray = ls at hl ⊢
  refine lv_aload hx hb (eL_between (0, .aload 7, 2) (List.mem_of_getElem? (i := 0) rfl)) (lv_at hl 5 rfl) ?_
  refine ff_iconst hx hb (eL_between (2, .iconst 0, 1) (List.mem_of_getElem? (i := 1) rfl)) (by decide) (by decide) (fun v1 e1 => ?_)
  refine lv_aload_n hx hb (eL_between (3, .aload_n 0, 1) (List.mem_of_getElem? (i := 2) rfl)) rfl (lv_at hl 0 rfl) ?_
  refine lv_iload_n hx hb (eL_between (4, .iload_n 1, 1) (List.mem_of_getElem? (i := 3) rfl)) rfl (lv_at hl 1 rfl) ?_
  refine lv_lload_n hx hb (eL_between (5, .lload_n 2, 1) (List.mem_of_getElem? (i := 4) rfl)) rfl (lv_at hl 2 rfl) ?_
  refine lv_lload hx hb (eL_between (6, .lload 4, 2) (List.mem_of_getElem? (i := 5) rfl)) (lv_at hl 3 rfl) ?_
  refine lv_iload hx hb (eL_between (8, .iload 6, 2) (List.mem_of_getElem? (i := 6) rfl)) (lv_at hl 4 rfl) ?_
  refine zx_rowG (As := [.int p1, .long p2, .long p3, .int p4]) (st := [.int v1, .ref o]) (b := x) (C := RX11) hx hb hml hown hts0 (hX11_betweenY l hst D cA ro sz H0 x p1 p2 p3 p4 L zc.1 zc.2 hx10 hzp) ⟨rfl, rfl⟩ ⟨by decide, by decide⟩ ⟨by decide, by decide⟩ (tb_6 110 rfl rfl) (tb_1 1 rfl rfl) (tb_6 107 rfl rfl) (tb_6 108 rfl rfl) (tb_6 109 rfl rfl) rfl (show yX11_between.cls ≠ "java/lang/invoke/MethodHandle" ∧ yX11_between.cls ≠ "java/lang/invoke/VarHandle" ∧ (parseMethodDescriptor yX11_between.desc).map (fun d => d.parameters.length) = some 4 by decide +kernel) zs_blindY (zw_ob hh hKa.1.1.1 hx10) (fun U hU hW => ⟨rfl, by rw [hU]; exact hh, hKa.warm hW, hBQ.alike hW.alike, by rw [hU]; exact hJ⟩) (fun q hq => by cases hq) hl.1 (Nat.le_of_ble_eq_true rfl) (eL_between (10, .invokevirtual 94, 3) (List.mem_of_getElem? (i := 7) rfl)) (fun v s0 t lo1 g0 g1 g2 => ?_) (fun q s0 t lo1 E ce g0 g1 g3 g4 g5 g2 => ?_)
  · obtain ⟨v9, r9, ro9, L9, c9, q1, ⟨y9, q2, q3⟩, he9, q5, q6, q7, q8⟩ := g1
    cases q1
    cases q2
    rw [g0] at q6
    have hh1 : zh_ok D cA RTg ro9 sz H0 t.heap lo1 := ⟨q5.1, q5.2.1, g2, q5.2.2.2⟩
    have kp1 := q6
    refine W.eq (g2 := F0 m 13 ls [.long y9, .int v1, .ref o]) rfl ?_
    refine zw_out hx hb hh1 hKa.1.1.1 (he9 _ _ ho) (by omega) (eL_between (13, .lastore, 1) (List.mem_of_getElem? (i := 8) rfl)) (fun H9 lo9 hh9 hq9 _ hz9 => ?_)
    obtain ⟨z9, hz9, hz8⟩ := hz9
    have kg9 : zc_kept D RTg ro9 [(42, 0)] t.heap H9 := zk_setA (by decide) (he9 _ _ ho) rfl hq9
    have kp9 := kp1.trans ((kept_ro he9 kg9).mono (ms' := yMc) (by decide))
    have j9 := q7.kept (he9 _ _ hx10) kg9 (by decide)
    refine lv_goto hx hb (eL_between (14, .goto 7, 3) (List.mem_of_getElem? (i := 9) rfl)) (tgt := 21) rfl ?_
    refine ff_iconst hx hb (eL_between (21, .iconst 0, 1) (List.mem_of_getElem? (i := 13) rfl)) (by decide) (by decide) (fun v2 e2 => ?_)
    exact W.zret hx hb hr rfl (fun t ht hW => ⟨_, ro9, L9, c9, z9, y9, rfl, he9, by rw [ht]; exact hh9.l0, by rw [ht]; exact kp9, by rw [ht]; exact j9, by rw [ht]; exact hz9, hz8, Or.inl ⟨by omega, by rw [show y9.toInt = r9 by omega]; exact q8⟩⟩) hh9.2.2.1 (eL_between (22, .ireturn, 1) (List.mem_of_getElem? (i := 14) rfl))
  · obtain ⟨q4, k4, k5, hE⟩ := g1
    rw [g0] at k4
    have hh1 : zh_ok D cA RTg ro sz H0 t.heap lo1 := ⟨q4.1, q4.2.1, g2, q4.2.2.2⟩
    have j1 := k5
    obtain ⟨-, z1, oc1, yo1⟩ := zh_arr hh1 ho (show RTg[42]? = some (1, 1, 1, [(1, (-9223372036854775808), 9223372036854775807)]) from rfl)
    obtain ⟨r1, or1, -, -⟩ := yo1 0 (by decide)
    rcases hE with ⟨rfl, sp1⟩ | ⟨rfl, sp1⟩
    · refine vx_catch (own := RL) (name := "java/lang/IllegalArgumentException") hown [] ⟨0, 14, 17, 13⟩ [] (vx_table (x := yL_between) B (h2 _ (tb_6 106 rfl rfl))) (fun z hz => by cases hz) rfl (by decide) (h2 _ (tb_2 103 rfl rfl)) (va_Nw.use rfl (hKa.1.2.2.2.2.1 (eI, eI) (List.mem_of_getElem? (i := 0) rfl))) g3 g4 g5 ?_
      refine lv_astore hx hb (eL_between (17, .astore 8, 2) (List.mem_of_getElem? (i := 10) rfl)) hl (by decide) rfl (fun ls3 hl3 => ?_)
      refine ff_iconst hx hb (eL_between (19, .iconst 1, 1) (List.mem_of_getElem? (i := 11) rfl)) (by decide) (by decide) (fun v4 e4 => ?_)
      exact W.zret hx hb hr rfl (fun t ht hW => ⟨_, ro, L, zc, z1, r1, rfl, fun _ _ h => h, by rw [ht]; exact hh1.l0, by rw [ht]; exact k4, by rw [ht]; exact j1, by rw [ht]; exact oc1, or1, Or.inr ⟨by omega, by have g6 := sp1; rw [show (1 : Int) = _ from (by omega : (1 : Int) = v4.toInt)] at g6; exact g6⟩⟩) hh1.2.2.1 (eL_between (20, .ireturn, 1) (List.mem_of_getElem? (i := 12) rfl))
    · exfalso
      obtain ⟨r8, sp1⟩ := sp1
      exact spPY_no2 sp1
