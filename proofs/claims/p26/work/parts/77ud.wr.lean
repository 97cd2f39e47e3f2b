set_option maxRecDepth 100000 in
set_option maxHeartbeats 4000000 in
theorem wZ_leap (l : Launch) (hst : l.stackTraces = false) (D : va_G) (cA : Nat → ClassId) (ro : Nat → Option Nat) (sz : Nat) (H0 : Heap) (x : Nat) (p1 : Int64) (o : Nat) (L : List Int) (zc : List zE) (hx10 : ro x = some 10) (ho : ro o = some 42) : Met l yL_leap (Cond.codeWith yL_leap cL_leap 5 (some .int) [(0, 9, 12, 13), (0, 9, 16, 34)] :: gT) { frames := 7, cells := 1, slots := 6, locals := 104 } (zs_PX D cA ro sz H0 (fun H => jCZ D cA ro H x L zc) [.ref x, .long p1, .ref o]) (zz_QL D cA ro sz H0 x o (spLZ p1.toInt L zc)) 1 6 (zy_fr sz) := by
  refine zw_ofW (cc := cL_leap) (maxL := 5) (ret := some .int) (by decide +kernel) rfl ?_
  intro p e s m args below meth c s1 B hml hv
  obtain ⟨rfl, hh, hKa, hBM, hJ⟩ := hv
  have hx := B.exec
  have hb := B.bytes
  have hr := B.returns
  have hlk := B.notSynchronized
  have hts0 := atoms_spec (ws := Cond.codeWith yL_leap cL_leap 5 (some .int) [(0, 9, 12, 13), (0, 9, 16, 34)] :: gT) B.pre
  have h2 : ∀ w ∈ gT, w.before ([.ref x, .long p1, .ref o] : List Value).toArray s = true := fun w hw => hts0 w (List.mem_cons_of_mem _ hw)
  have hown : s.vm.findClass RL = some m.cls := findClass_of_methodNamed B.named
  have hl := lv_entry [.ref x, .long p1, .ref o] (n := 5) (Nat.le_of_ble_eq_true rfl)
  rw [lg_entry_eq]
  generalize (lg_sl [.ref x, .long p1, .ref o] ++ List.replicate (5 - (lg_sl [.ref x, .long p1, .ref o]).length) Slot.unset).toArray = ls at hl ⊢
  refine lv_aload_n hx hb (eL_leap (0, .aload_n 3, 1) (List.mem_of_getElem? (i := 0) rfl)) rfl (lv_at hl 2 rfl) ?_
  refine ff_iconst hx hb (eL_leap (1, .iconst 0, 1) (List.mem_of_getElem? (i := 1) rfl)) (by decide) (by decide) (fun v1 e1 => ?_)
  refine lv_aload_n hx hb (eL_leap (2, .aload_n 0, 1) (List.mem_of_getElem? (i := 2) rfl)) rfl (lv_at hl 0 rfl) ?_
  refine lv_lload_n hx hb (eL_leap (3, .lload_n 1, 1) (List.mem_of_getElem? (i := 3) rfl)) rfl (lv_at hl 1 rfl) ?_
  refine zx_rowG (As := [.long p1]) (st := [.int v1, .ref o]) (b := x) (C := RX11) hx hb hml hown hts0 (hX11_leapZ l hst D cA ro sz H0 x p1 L zc hx10) ⟨rfl, rfl⟩ ⟨by decide, by decide⟩ ⟨by decide, by decide⟩ (tb_3 69 rfl rfl) (tb_1 1 rfl rfl) (tb_3 66 rfl rfl) (tb_3 67 rfl rfl) (tb_3 68 rfl rfl) rfl (show yX11_leap.cls ≠ "java/lang/invoke/MethodHandle" ∧ yX11_leap.cls ≠ "java/lang/invoke/VarHandle" ∧ (parseMethodDescriptor yX11_leap.desc).map (fun d => d.parameters.length) = some 1 by decide +kernel) zs_blindX (zw_ob hh hKa.1.1.1 hx10) (fun U hU hW => ⟨rfl, by rw [hU]; exact hh, hKa.warm hW, zBM_B.2 s U hW hU hBM, by rw [hU]; exact hJ⟩) (fun q hq => by cases hq) hl.1 (Nat.le_of_ble_eq_true rfl) (eL_leap (4, .invokevirtual 30, 3) (List.mem_of_getElem? (i := 4) rfl)) (fun v s0 t lo1 g0 g1 g2 => ?_) (fun q s0 t lo1 E ce g0 g1 g3 g4 g5 g2 => ?_)
  · obtain ⟨v9, r9, ro9, L9, c9, q1, ⟨y9, q2, q3⟩, he9, q5, q6, q7, q8⟩ := g1
    cases q1
    cases q2
    rw [g0] at q6
    have hh1 : zh_ok D cA RTg ro9 sz H0 t.heap lo1 := ⟨q5.1, q5.2.1, g2, q5.2.2.2⟩
    have kp1 := q6
    refine W.eq (g2 := F0 m 7 ls [.int y9, .int v1, .ref o]) rfl ?_
    refine ff_i2l hx hb (eL_leap (7, .i2l, 1) (List.mem_of_getElem? (i := 5) rfl)) (fun v2 e2 => ?_)
    refine zw_out hx hb hh1 hKa.1.1.1 (he9 _ _ ho) (by omega) (eL_leap (8, .lastore, 1) (List.mem_of_getElem? (i := 6) rfl)) (fun H9 lo9 hh9 hq9 _ hz9 => ?_)
    obtain ⟨z9, hz9, hz8⟩ := hz9
    have kg9 : zc_kept D RTg ro9 [(42, 0)] t.heap H9 := zk_setA (by decide) (he9 _ _ ho) rfl hq9
    have kp9 := kp1.trans ((kept_ro he9 kg9).mono (ms' := zMc) (by decide))
    have j9 := q7.kept (he9 _ _ hx10) kg9 (by decide)
    refine lv_goto hx hb (eL_leap (9, .goto 11, 3) (List.mem_of_getElem? (i := 7) rfl)) (tgt := 20) rfl ?_
    refine ff_iconst hx hb (eL_leap (20, .iconst 0, 1) (List.mem_of_getElem? (i := 14) rfl)) (by decide) (by decide) (fun v3 e3 => ?_)
    exact W.zret hx hb hr rfl (fun t ht hW => ⟨_, ro9, L9, c9, z9, v2, rfl, he9, by rw [ht]; exact hh9.l0, by rw [ht]; exact kp9, by rw [ht]; exact j9, by rw [ht]; exact hz9, hz8, Or.inl ⟨by omega, by rw [show v2.toInt = r9 by omega]; exact q8⟩⟩) hh9.2.2.1 (eL_leap (21, .ireturn, 1) (List.mem_of_getElem? (i := 15) rfl))
  · obtain ⟨q4, k4, k5, hE⟩ := g1
    rw [g0] at k4 k5
    have hh1 : zh_ok D cA RTg ro sz H0 t.heap lo1 := ⟨q4.1, q4.2.1, g2, q4.2.2.2⟩
    have j1 := hJ.kept hx10 k5 (by decide)
    obtain ⟨-, z1, oc1, yo1⟩ := zh_arr hh1 ho (show RTg[42]? = some (1, 1, 1, [(1, (-9223372036854775808), 9223372036854775807)]) from rfl)
    obtain ⟨r1, or1, -, -⟩ := yo1 0 (by decide)
    rcases hE with ⟨rfl, sp1⟩ | ⟨rfl, sp1⟩
    · refine vx_catch (own := RL) (name := "java/lang/IllegalArgumentException") hown [] ⟨0, 9, 12, 13⟩ [⟨0, 9, 16, 34⟩] (vx_table (x := yL_leap) B (h2 _ (tb_3 64 rfl rfl))) (fun z hz => by cases hz) rfl (by decide) (h2 _ (tb_2 103 rfl rfl)) (va_Nw.use rfl (hKa.1.2.2.2.2.1 (eI, eI) (List.mem_of_getElem? (i := 0) rfl))) g3 g4 g5 ?_
      refine lv_astore hx hb (eL_leap (12, .astore 4, 2) (List.mem_of_getElem? (i := 8) rfl)) hl (by decide) rfl (fun ls4 hl4 => ?_)
      refine ff_iconst hx hb (eL_leap (14, .iconst 1, 1) (List.mem_of_getElem? (i := 9) rfl)) (by decide) (by decide) (fun v5 e5 => ?_)
      exact W.zret hx hb hr rfl (fun t ht hW => ⟨_, ro, L, zc, z1, r1, rfl, fun _ _ h => h, by rw [ht]; exact hh1.l0, by rw [ht]; exact k4, by rw [ht]; exact j1, by rw [ht]; exact oc1, or1, Or.inr ⟨by omega, by have g6 := sp1; rw [show (1 : Int) = _ from (by omega : (1 : Int) = v5.toInt)] at g6; exact g6⟩⟩) hh1.2.2.1 (eL_leap (15, .ireturn, 1) (List.mem_of_getElem? (i := 10) rfl))
    · refine vx_catch (own := RL) (name := "java/lang/UnsupportedOperationException") hown [⟨0, 9, 12, 13⟩] ⟨0, 9, 16, 34⟩ [] (vx_table (x := yL_leap) B (h2 _ (tb_3 64 rfl rfl))) (fun z hz => by cases List.mem_singleton.mp hz; exact Or.inr ⟨by decide, eI, h2 _ (tb_2 103 rfl rfl), hKa.1.2.2.2.2.2.2⟩) rfl (by decide) (h2 _ (tb_3 65 rfl rfl)) (va_Nw.use rfl (hKa.1.2.2.2.2.1 (eU, eU) (List.mem_of_getElem? (i := 1) rfl))) g3 g4 g5 ?_
      refine lv_astore hx hb (eL_leap (16, .astore 4, 2) (List.mem_of_getElem? (i := 11) rfl)) hl (by decide) rfl (fun ls6 hl6 => ?_)
      refine ff_iconst hx hb (eL_leap (18, .iconst 2, 1) (List.mem_of_getElem? (i := 12) rfl)) (by decide) (by decide) (fun v7 e7 => ?_)
      exact W.zret hx hb hr rfl (fun t ht hW => ⟨_, ro, L, zc, z1, r1, rfl, fun _ _ h => h, by rw [ht]; exact hh1.l0, by rw [ht]; exact k4, by rw [ht]; exact j1, by rw [ht]; exact oc1, or1, Or.inr ⟨by omega, by have g6 := sp1; rw [show (2 : Int) = _ from (by omega : (2 : Int) = v7.toInt)] at g6; exact g6⟩⟩) hh1.2.2.1 (eL_leap (19, .ireturn, 1) (List.mem_of_getElem? (i := 13) rfl))
set_option maxRecDepth 100000 in
set_option maxHeartbeats 4000000 in
theorem wZ_zone (l : Launch) (hst : l.stackTraces = false) (D : va_G) (cA : Nat → ClassId) (ro : Nat → Option Nat) (sz : Nat) (H0 : Heap) (x : Nat) (p1 : Int32) (o : Nat) (L : List Int) (zc : List zE) (hx10 : ro x = some 10) (ho : ro o = some 42) : Met l yL_zone (Cond.codeWith yL_zone cL_zone 4 (some .int) [(0, 9, 12, 13), (0, 9, 15, 34)] :: gT) { frames := 7, cells := 6, slots := 147, locals := 103 } (zs_PX D cA ro sz H0 (fun H => jCZ D cA ro H x L zc) [.ref x, .int p1, .ref o]) (zz_QL D cA ro sz H0 x o (spZZ p1.toInt L zc)) 6 147 (zy_fr sz) := by
  refine zw_ofW (cc := cL_zone) (maxL := 4) (ret := some .int) (by decide +kernel) rfl ?_
  intro p e s m args below meth c s1 B hml hv
  obtain ⟨rfl, hh, hKa, hBM, hJ⟩ := hv
  have hx := B.exec
  have hb := B.bytes
  have hr := B.returns
  have hlk := B.notSynchronized
  have hts0 := atoms_spec (ws := Cond.codeWith yL_zone cL_zone 4 (some .int) [(0, 9, 12, 13), (0, 9, 15, 34)] :: gT) B.pre
  have h2 : ∀ w ∈ gT, w.before ([.ref x, .int p1, .ref o] : List Value).toArray s = true := fun w hw => hts0 w (List.mem_cons_of_mem _ hw)
  have hown : s.vm.findClass RL = some m.cls := findClass_of_methodNamed B.named
  have hl := lv_entry [.ref x, .int p1, .ref o] (n := 4) (Nat.le_of_ble_eq_true rfl)
  rw [lg_entry_eq]
  generalize (lg_sl [.ref x, .int p1, .ref o] ++ List.replicate (4 - (lg_sl [.ref x, .int p1, .ref o]).length) Slot.unset).toArray = ls at hl ⊢
  refine lv_aload_n hx hb (eL_zone (0, .aload_n 2, 1) (List.mem_of_getElem? (i := 0) rfl)) rfl (lv_at hl 2 rfl) ?_
  refine ff_iconst hx hb (eL_zone (1, .iconst 0, 1) (List.mem_of_getElem? (i := 1) rfl)) (by decide) (by decide) (fun v1 e1 => ?_)
  refine lv_aload_n hx hb (eL_zone (2, .aload_n 0, 1) (List.mem_of_getElem? (i := 2) rfl)) rfl (lv_at hl 0 rfl) ?_
  refine lv_iload_n hx hb (eL_zone (3, .iload_n 1, 1) (List.mem_of_getElem? (i := 3) rfl)) rfl (lv_at hl 1 rfl) ?_
  refine zx_rowG (As := [.int p1]) (st := [.int v1, .ref o]) (b := x) (C := RX11) hx hb hml hown hts0 (hX11_zoneZ l hst D cA ro sz H0 x p1 L zc hx10) ⟨rfl, rfl⟩ ⟨by decide, by decide⟩ ⟨by decide, by decide⟩ (tb_3 167 rfl rfl) (tb_1 1 rfl rfl) (tb_3 164 rfl rfl) (tb_3 165 rfl rfl) (tb_3 166 rfl rfl) rfl (show yX11_zone.cls ≠ "java/lang/invoke/MethodHandle" ∧ yX11_zone.cls ≠ "java/lang/invoke/VarHandle" ∧ (parseMethodDescriptor yX11_zone.desc).map (fun d => d.parameters.length) = some 1 by decide +kernel) zs_blindX (zw_ob hh hKa.1.1.1 hx10) (fun U hU hW => ⟨rfl, by rw [hU]; exact hh, hKa.warm hW, zBM_B.2 s U hW hU hBM, by rw [hU]; exact hJ⟩) (fun q hq => by cases hq) hl.1 (Nat.le_of_ble_eq_true rfl) (eL_zone (4, .invokevirtual 42, 3) (List.mem_of_getElem? (i := 4) rfl)) (fun v s0 t lo1 g0 g1 g2 => ?_) (fun q s0 t lo1 E ce g0 g1 g3 g4 g5 g2 => ?_)
  · obtain ⟨v9, r9, ro9, L9, c9, q1, ⟨y9, q2, q3⟩, he9, q5, q6, q7, q8⟩ := g1
    cases q1
    cases q2
    rw [g0] at q6
    have hh1 : zh_ok D cA RTg ro9 sz H0 t.heap lo1 := ⟨q5.1, q5.2.1, g2, q5.2.2.2⟩
    have kp1 := q6
    refine W.eq (g2 := F0 m 7 ls [.int y9, .int v1, .ref o]) rfl ?_
    refine ff_i2l hx hb (eL_zone (7, .i2l, 1) (List.mem_of_getElem? (i := 5) rfl)) (fun v2 e2 => ?_)
    refine zw_out hx hb hh1 hKa.1.1.1 (he9 _ _ ho) (by omega) (eL_zone (8, .lastore, 1) (List.mem_of_getElem? (i := 6) rfl)) (fun H9 lo9 hh9 hq9 _ hz9 => ?_)
    obtain ⟨z9, hz9, hz8⟩ := hz9
    have kg9 : zc_kept D RTg ro9 [(42, 0)] t.heap H9 := zk_setA (by decide) (he9 _ _ ho) rfl hq9
    have kp9 := kp1.trans ((kept_ro he9 kg9).mono (ms' := zMc) (by decide))
    have j9 := q7.kept (he9 _ _ hx10) kg9 (by decide)
    refine lv_goto hx hb (eL_zone (9, .goto 9, 3) (List.mem_of_getElem? (i := 7) rfl)) (tgt := 18) rfl ?_
    refine ff_iconst hx hb (eL_zone (18, .iconst 0, 1) (List.mem_of_getElem? (i := 14) rfl)) (by decide) (by decide) (fun v3 e3 => ?_)
    exact W.zret hx hb hr rfl (fun t ht hW => ⟨_, ro9, L9, c9, z9, v2, rfl, he9, by rw [ht]; exact hh9.l0, by rw [ht]; exact kp9, by rw [ht]; exact j9, by rw [ht]; exact hz9, hz8, Or.inl ⟨by omega, by rw [show v2.toInt = r9 by omega]; exact q8⟩⟩) hh9.2.2.1 (eL_zone (19, .ireturn, 1) (List.mem_of_getElem? (i := 15) rfl))
  · obtain ⟨q4, k4, k5, hE⟩ := g1
    rw [g0] at k4 k5
    have hh1 : zh_ok D cA RTg ro sz H0 t.heap lo1 := ⟨q4.1, q4.2.1, g2, q4.2.2.2⟩
    have j1 := hJ.kept hx10 k5 (by decide)
    obtain ⟨-, z1, oc1, yo1⟩ := zh_arr hh1 ho (show RTg[42]? = some (1, 1, 1, [(1, (-9223372036854775808), 9223372036854775807)]) from rfl)
    obtain ⟨r1, or1, -, -⟩ := yo1 0 (by decide)
    rcases hE with ⟨rfl, sp1⟩ | ⟨rfl, sp1⟩
    · refine vx_catch (own := RL) (name := "java/lang/IllegalArgumentException") hown [] ⟨0, 9, 12, 13⟩ [⟨0, 9, 15, 34⟩] (vx_table (x := yL_zone) B (h2 _ (tb_3 163 rfl rfl))) (fun z hz => by cases hz) rfl (by decide) (h2 _ (tb_2 103 rfl rfl)) (va_Nw.use rfl (hKa.1.2.2.2.2.1 (eI, eI) (List.mem_of_getElem? (i := 0) rfl))) g3 g4 g5 ?_
      refine lv_astore_n hx hb (eL_zone (12, .astore_n 3, 1) (List.mem_of_getElem? (i := 8) rfl)) rfl hl (by decide) rfl (fun ls4 hl4 => ?_)
      refine ff_iconst hx hb (eL_zone (13, .iconst 1, 1) (List.mem_of_getElem? (i := 9) rfl)) (by decide) (by decide) (fun v5 e5 => ?_)
      exact W.zret hx hb hr rfl (fun t ht hW => ⟨_, ro, L, zc, z1, r1, rfl, fun _ _ h => h, by rw [ht]; exact hh1.l0, by rw [ht]; exact k4, by rw [ht]; exact j1, by rw [ht]; exact oc1, or1, Or.inr ⟨by omega, by have g6 := sp1; rw [show (1 : Int) = _ from (by omega : (1 : Int) = v5.toInt)] at g6; exact g6⟩⟩) hh1.2.2.1 (eL_zone (14, .ireturn, 1) (List.mem_of_getElem? (i := 10) rfl))
    · refine vx_catch (own := RL) (name := "java/lang/UnsupportedOperationException") hown [⟨0, 9, 12, 13⟩] ⟨0, 9, 15, 34⟩ [] (vx_table (x := yL_zone) B (h2 _ (tb_3 163 rfl rfl))) (fun z hz => by cases List.mem_singleton.mp hz; exact Or.inr ⟨by decide, eI, h2 _ (tb_2 103 rfl rfl), hKa.1.2.2.2.2.2.2⟩) rfl (by decide) (h2 _ (tb_3 65 rfl rfl)) (va_Nw.use rfl (hKa.1.2.2.2.2.1 (eU, eU) (List.mem_of_getElem? (i := 1) rfl))) g3 g4 g5 ?_
      refine lv_astore_n hx hb (eL_zone (15, .astore_n 3, 1) (List.mem_of_getElem? (i := 11) rfl)) rfl hl (by decide) rfl (fun ls6 hl6 => ?_)
      refine ff_iconst hx hb (eL_zone (16, .iconst 2, 1) (List.mem_of_getElem? (i := 12) rfl)) (by decide) (by decide) (fun v7 e7 => ?_)
      exact W.zret hx hb hr rfl (fun t ht hW => ⟨_, ro, L, zc, z1, r1, rfl, fun _ _ h => h, by rw [ht]; exact hh1.l0, by rw [ht]; exact k4, by rw [ht]; exact j1, by rw [ht]; exact oc1, or1, Or.inr ⟨by omega, by have g6 := sp1; rw [show (2 : Int) = _ from (by omega : (2 : Int) = v7.toInt)] at g6; exact g6⟩⟩) hh1.2.2.1 (eL_zone (17, .ireturn, 1) (List.mem_of_getElem? (i := 13) rfl))
set_option maxRecDepth 100000 in
set_option maxHeartbeats 4000000 in
theorem wZ_change (l : Launch) (hst : l.stackTraces = false) (D : va_G) (cA : Nat → ClassId) (ro : Nat → Option Nat) (sz : Nat) (H0 : Heap) (x : Nat) (p1 : Int32) (p2 : Int64) (p3 : Int32) (o : Nat) (L : List Int) (zc : List zE) (hx10 : ro x = some 10) (ho : ro o = some 42) : Met l yL_change (Cond.codeWith yL_change cL_change 7 (some .int) [(0, 13, 16, 13), (0, 13, 20, 34)] :: gT) { frames := 7, cells := 1, slots := 6, locals := 107 } (zs_PX D cA ro sz H0 (fun H => jCZ D cA ro H x L zc) [.ref x, .int p1, .long p2, .int p3, .ref o]) (zz_QL D cA ro sz H0 x o (spH p1.toInt p2.toInt p3.toInt L zc)) 1 6 (zy_fr sz) := by
  refine zw_ofW (cc := cL_change) (maxL := 7) (ret := some .int) (by decide +kernel) rfl ?_
  intro p e s m args below meth c s1 B hml hv
  obtain ⟨rfl, hh, hKa, hBM, hJ⟩ := hv
  have hx := B.exec
  have hb := B.bytes
  have hr := B.returns
  have hlk := B.notSynchronized
  have hts0 := atoms_spec (ws := Cond.codeWith yL_change cL_change 7 (some .int) [(0, 13, 16, 13), (0, 13, 20, 34)] :: gT) B.pre
  have h2 : ∀ w ∈ gT, w.before ([.ref x, .int p1, .long p2, .int p3, .ref o] : List Value).toArray s = true := fun w hw => hts0 w (List.mem_cons_of_mem _ hw)
  have hown : s.vm.findClass RL = some m.cls := findClass_of_methodNamed B.named
  have hl := lv_entry [.ref x, .int p1, .long p2, .int p3, .ref o] (n := 7) (Nat.le_of_ble_eq_true rfl)
  rw [lg_entry_eq]
  generalize (lg_sl [.ref x, .int p1, .long p2, .int p3, .ref o] ++ List.replicate (7 - (lg_sl [.ref x, .int p1, .long p2, .int p3, .ref o]).length) Slot.unset).toArray = ls at hl ⊢
  refine lv_aload hx hb (eL_change (0, .aload 5, 2) (List.mem_of_getElem? (i := 0) rfl)) (lv_at hl 4 rfl) ?_
  refine ff_iconst hx hb (eL_change (2, .iconst 0, 1) (List.mem_of_getElem? (i := 1) rfl)) (by decide) (by decide) (fun v1 e1 => ?_)
  refine lv_aload_n hx hb (eL_change (3, .aload_n 0, 1) (List.mem_of_getElem? (i := 2) rfl)) rfl (lv_at hl 0 rfl) ?_
  refine lv_iload_n hx hb (eL_change (4, .iload_n 1, 1) (List.mem_of_getElem? (i := 3) rfl)) rfl (lv_at hl 1 rfl) ?_
  refine lv_lload_n hx hb (eL_change (5, .lload_n 2, 1) (List.mem_of_getElem? (i := 4) rfl)) rfl (lv_at hl 2 rfl) ?_
  refine lv_iload hx hb (eL_change (6, .iload 4, 2) (List.mem_of_getElem? (i := 5) rfl)) (lv_at hl 3 rfl) ?_
  refine zx_rowG (As := [.int p1, .long p2, .int p3]) (st := [.int v1, .ref o]) (b := x) (C := RX11) hx hb hml hown hts0 (hX11_changeZ l hst D cA ro sz H0 x p1 p2 p3 L zc hx10) ⟨rfl, rfl⟩ ⟨by decide, by decide⟩ ⟨by decide, by decide⟩ (tb_3 207 rfl rfl) (tb_1 1 rfl rfl) (tb_3 204 rfl rfl) (tb_3 205 rfl rfl) (tb_3 206 rfl rfl) rfl (show yX11_change.cls ≠ "java/lang/invoke/MethodHandle" ∧ yX11_change.cls ≠ "java/lang/invoke/VarHandle" ∧ (parseMethodDescriptor yX11_change.desc).map (fun d => d.parameters.length) = some 3 by decide +kernel) zs_blindX (zw_ob hh hKa.1.1.1 hx10) (fun U hU hW => ⟨rfl, by rw [hU]; exact hh, hKa.warm hW, zBM_B.2 s U hW hU hBM, by rw [hU]; exact hJ⟩) (fun q hq => by cases hq) hl.1 (Nat.le_of_ble_eq_true rfl) (eL_change (8, .invokevirtual 46, 3) (List.mem_of_getElem? (i := 6) rfl)) (fun v s0 t lo1 g0 g1 g2 => ?_) (fun q s0 t lo1 E ce g0 g1 g3 g4 g5 g2 => ?_)
  · obtain ⟨v9, r9, ro9, L9, c9, q1, ⟨y9, q2, q3⟩, he9, q5, q6, q7, q8⟩ := g1
    cases q1
    cases q2
    rw [g0] at q6
    have hh1 : zh_ok D cA RTg ro9 sz H0 t.heap lo1 := ⟨q5.1, q5.2.1, g2, q5.2.2.2⟩
    have kp1 := q6
    refine W.eq (g2 := F0 m 11 ls [.int y9, .int v1, .ref o]) rfl ?_
    refine ff_i2l hx hb (eL_change (11, .i2l, 1) (List.mem_of_getElem? (i := 7) rfl)) (fun v2 e2 => ?_)
    refine zw_out hx hb hh1 hKa.1.1.1 (he9 _ _ ho) (by omega) (eL_change (12, .lastore, 1) (List.mem_of_getElem? (i := 8) rfl)) (fun H9 lo9 hh9 hq9 _ hz9 => ?_)
    obtain ⟨z9, hz9, hz8⟩ := hz9
    have kg9 : zc_kept D RTg ro9 [(42, 0)] t.heap H9 := zk_setA (by decide) (he9 _ _ ho) rfl hq9
    have kp9 := kp1.trans ((kept_ro he9 kg9).mono (ms' := zMc) (by decide))
    have j9 := q7.kept (he9 _ _ hx10) kg9 (by decide)
    refine lv_goto hx hb (eL_change (13, .goto 11, 3) (List.mem_of_getElem? (i := 9) rfl)) (tgt := 24) rfl ?_
    refine ff_iconst hx hb (eL_change (24, .iconst 0, 1) (List.mem_of_getElem? (i := 16) rfl)) (by decide) (by decide) (fun v3 e3 => ?_)
    exact W.zret hx hb hr rfl (fun t ht hW => ⟨_, ro9, L9, c9, z9, v2, rfl, he9, by rw [ht]; exact hh9.l0, by rw [ht]; exact kp9, by rw [ht]; exact j9, by rw [ht]; exact hz9, hz8, Or.inl ⟨by omega, by rw [show v2.toInt = r9 by omega]; exact q8⟩⟩) hh9.2.2.1 (eL_change (25, .ireturn, 1) (List.mem_of_getElem? (i := 17) rfl))
  · obtain ⟨q4, k4, k5, hE⟩ := g1
    rw [g0] at k4 k5
    have hh1 : zh_ok D cA RTg ro sz H0 t.heap lo1 := ⟨q4.1, q4.2.1, g2, q4.2.2.2⟩
    have j1 := hJ.kept hx10 k5 (by decide)
    obtain ⟨-, z1, oc1, yo1⟩ := zh_arr hh1 ho (show RTg[42]? = some (1, 1, 1, [(1, (-9223372036854775808), 9223372036854775807)]) from rfl)
    obtain ⟨r1, or1, -, -⟩ := yo1 0 (by decide)
    rcases hE with ⟨rfl, sp1⟩ | ⟨rfl, sp1⟩
    · refine vx_catch (own := RL) (name := "java/lang/IllegalArgumentException") hown [] ⟨0, 13, 16, 13⟩ [⟨0, 13, 20, 34⟩] (vx_table (x := yL_change) B (h2 _ (tb_3 203 rfl rfl))) (fun z hz => by cases hz) rfl (by decide) (h2 _ (tb_2 103 rfl rfl)) (va_Nw.use rfl (hKa.1.2.2.2.2.1 (eI, eI) (List.mem_of_getElem? (i := 0) rfl))) g3 g4 g5 ?_
      refine lv_astore hx hb (eL_change (16, .astore 6, 2) (List.mem_of_getElem? (i := 10) rfl)) hl (by decide) rfl (fun ls4 hl4 => ?_)
      refine ff_iconst hx hb (eL_change (18, .iconst 1, 1) (List.mem_of_getElem? (i := 11) rfl)) (by decide) (by decide) (fun v5 e5 => ?_)
      exact W.zret hx hb hr rfl (fun t ht hW => ⟨_, ro, L, zc, z1, r1, rfl, fun _ _ h => h, by rw [ht]; exact hh1.l0, by rw [ht]; exact k4, by rw [ht]; exact j1, by rw [ht]; exact oc1, or1, Or.inr ⟨by omega, by have g6 := sp1; rw [show (1 : Int) = _ from (by omega : (1 : Int) = v5.toInt)] at g6; exact g6⟩⟩) hh1.2.2.1 (eL_change (19, .ireturn, 1) (List.mem_of_getElem? (i := 12) rfl))
    · refine vx_catch (own := RL) (name := "java/lang/UnsupportedOperationException") hown [⟨0, 13, 16, 13⟩] ⟨0, 13, 20, 34⟩ [] (vx_table (x := yL_change) B (h2 _ (tb_3 203 rfl rfl))) (fun z hz => by cases List.mem_singleton.mp hz; exact Or.inr ⟨by decide, eI, h2 _ (tb_2 103 rfl rfl), hKa.1.2.2.2.2.2.2⟩) rfl (by decide) (h2 _ (tb_3 65 rfl rfl)) (va_Nw.use rfl (hKa.1.2.2.2.2.1 (eU, eU) (List.mem_of_getElem? (i := 1) rfl))) g3 g4 g5 ?_
      refine lv_astore hx hb (eL_change (20, .astore 6, 2) (List.mem_of_getElem? (i := 13) rfl)) hl (by decide) rfl (fun ls6 hl6 => ?_)
      refine ff_iconst hx hb (eL_change (22, .iconst 2, 1) (List.mem_of_getElem? (i := 14) rfl)) (by decide) (by decide) (fun v7 e7 => ?_)
      exact W.zret hx hb hr rfl (fun t ht hW => ⟨_, ro, L, zc, z1, r1, rfl, fun _ _ h => h, by rw [ht]; exact hh1.l0, by rw [ht]; exact k4, by rw [ht]; exact j1, by rw [ht]; exact oc1, or1, Or.inr ⟨by omega, by have g6 := sp1; rw [show (2 : Int) = _ from (by omega : (2 : Int) = v7.toInt)] at g6; exact g6⟩⟩) hh1.2.2.1 (eL_change (23, .ireturn, 1) (List.mem_of_getElem? (i := 15) rfl))
