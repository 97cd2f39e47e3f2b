set_option maxRecDepth 100000 in
set_option maxHeartbeats 4000000 in
theorem wB_between (l : Launch) (hst : l.stackTraces = false) (D : va_G) (cA : Nat → ClassId) (ro : Nat → Option Nat) (sz : Nat) (H0 : Heap) (x : Nat) (p1 : Int32) (p2 : Int64) (p3 : Int64) (p4 : Int32) (o : Nat) (L : List Int) (zc : zY) (hx10 : ro x = some 10) (ho : ro o = some 42) (hzp : zP zc.1) (hzt : ∀ e ∈ zc.1, ∀ c ∈ e.2, tOK c.1 L) : Met l yL_between (Cond.codeWith yL_between cL_between 9 (some .int) [(0, 14, 17, 13)] :: gT) { frames := 7, cells := 1, slots := 6, locals := 209 } (zs_PY D cA ro sz H0 (fun H => jCY D cA ro H x L zc) [.ref x, .int p1, .long p2, .long p3, .int p4, .ref o]) (yy_QL D cA ro sz H0 x o (spBY p1.toInt p2.toInt p3.toInt p4.toInt L zc)) 1 6 (zy_fr sz) := by
  refine zw_ofW (cc := cL_between) (maxL := 9) (ret := some .int) (by decide +kernel) rfl ?_
  intro p e s m args below meth c s1 B hml hv
  obtain ⟨rfl, hh, hKa, hBQ, hJ⟩ := hv
  have hx := B.exec
  have hb := B.bytes
  have hr := B.returns
  have hlk := B.notSynchronized
  have hts0 := atoms_spec (ws := Cond.codeWith yL_between cL_between 9 (some .int) [(0, 14, 17, 13)] :: gT) B.pre
  have h2 : ∀ w ∈ gT, w.before ([.ref x, .int p1, .long p2, .long p3, .int p4, .ref o] : List Value).toArray s = true := fun w hw => hts0 w (List.mem_cons_of_mem _ hw)
  have hown : s.vm.findClass RL = some m.cls := findClass_of_methodNamed B.named
  have hl := lv_entry [.ref x, .int p1, .long p2, .long p3, .int p4, .ref o] (n := 9) (Nat.le_of_ble_eq_true rfl)
  rw [lg_entry_eq]
  generalize (lg_sl [.ref x, .int p1, .long p2, .long p3, .int p4, .ref o] ++ List.replicate (9 - (lg_sl [.ref x, .int p1, .long p2, .long p3, .int p4, .ref o]).length) Slot.unset).toArray = ls at hl ⊢
  refine lv_aload hx hb (eL_between (0, .aload 7, 2) (List.mem_of_getElem? (i := 0) rfl)) (lv_at hl 5 rfl) ?_
  refine ff_iconst hx hb (eL_between (2, .iconst 0, 1) (List.mem_of_getElem? (i := 1) rfl)) (by decide) (by decide) (fun v1 e1 => ?_)
  refine lv_aload_n hx hb (eL_between (3, .aload_n 0, 1) (List.mem_of_getElem? (i := 2) rfl)) rfl (lv_at hl 0 rfl) ?_
  refine lv_iload_n hx hb (eL_between (4, .iload_n 1, 1) (List.mem_of_getElem? (i := 3) rfl)) rfl (lv_at hl 1 rfl) ?_
  refine lv_lload_n hx hb (eL_between (5, .lload_n 2, 1) (List.mem_of_getElem? (i := 4) rfl)) rfl (lv_at hl 2 rfl) ?_
  refine lv_lload hx hb (eL_between (6, .lload 4, 2) (List.mem_of_getElem? (i := 5) rfl)) (lv_at hl 3 rfl) ?_
  refine lv_iload hx hb (eL_between (8, .iload 6, 2) (List.mem_of_getElem? (i := 6) rfl)) (lv_at hl 4 rfl) ?_
  refine zx_rowG (As := [.int p1, .long p2, .long p3, .int p4]) (st := [.int v1, .ref o]) (b := x) (C := RX11) hx hb hml hown hts0 (hX11_betweenE l hst D cA ro sz H0 x p1 p2 p3 p4 L zc.1 zc.2 hx10 hzp hzt) ⟨rfl, rfl⟩ ⟨by decide, by decide⟩ ⟨by decide, by decide⟩ (tb_6 110 rfl rfl) (tb_1 1 rfl rfl) (tb_6 107 rfl rfl) (tb_6 108 rfl rfl) (tb_6 109 rfl rfl) rfl (show yX11_between.cls ≠ "java/lang/invoke/MethodHandle" ∧ yX11_between.cls ≠ "java/lang/invoke/VarHandle" ∧ (parseMethodDescriptor yX11_between.desc).map (fun d => d.parameters.length) = some 4 by decide +kernel) zs_blindY (zw_ob hh hKa.1.1.1 hx10) (fun U hU hW => ⟨rfl, by rw [hU]; exact hh, hKa.warm hW, hBQ.alike hW.alike, by rw [hU]; exact hJ⟩) (fun q hq => by cases hq) hl.1 (Nat.le_of_ble_eq_true rfl) (eL_between (10, .invokevirtual 94, 3) (List.mem_of_getElem? (i := 7) rfl)) (fun v s0 t lo1 g0 g1 g2 => ?_) (fun q s0 t lo1 E ce g0 g1 g3 g4 g5 g2 => ?_)
  · obtain ⟨v9, r9, ro9, L9, c9, q1, ⟨y9, q2, q3⟩, he9, q5, q6, q7, q8⟩ := g1
    cases q1
    cases q2
    rw [g0] at q6
    have hh1 : zh_ok D cA RTg ro9 sz H0 t.heap lo1 := ⟨q5.1, q5.2.1, g2, q5.2.2.2⟩
    have kp1 := q6
    refine W.eq (g2 := F0 m 13 ls [.long y9, .int v1, .ref o]) rfl ?_
    refine zw_out hx hb hh1 hKa.1.1.1 (he9 _ _ ho) (by omega) (eL_between (13, .lastore, 1) (List.mem_of_getElem? (i := 8) rfl)) (fun H9 lo9 hh9 hq9 _ hz9 => ?_)
    obtain ⟨z9, hz9, hz8⟩ := hz9
    have kg9 : zc_kept D RTg ro9 [(42, 0)] t.heap H9 := zk_setA (by decide) (he9 _ _ ho) rfl hq9
    have kp9 := kp1.trans ((kept_ro he9 kg9).mono (ms' := yMc) (by decide))
    have j9 := q7.kept (he9 _ _ hx10) kg9 (by decide)
    refine lv_goto hx hb (eL_between (14, .goto 7, 3) (List.mem_of_getElem? (i := 9) rfl)) (tgt := 21) rfl ?_
    refine ff_iconst hx hb (eL_between (21, .iconst 0, 1) (List.mem_of_getElem? (i := 13) rfl)) (by decide) (by decide) (fun v2 e2 => ?_)
    exact W.zret hx hb hr rfl (fun t ht hW => ⟨_, ro9, L9, c9, z9, y9, rfl, he9, by rw [ht]; exact hh9.l0, by rw [ht]; exact kp9, by rw [ht]; exact j9, by rw [ht]; exact hz9, hz8, Or.inl ⟨by omega, by rw [show y9.toInt = r9 by omega]; exact q8⟩⟩) hh9.2.2.1 (eL_between (22, .ireturn, 1) (List.mem_of_getElem? (i := 14) rfl))
  · obtain ⟨q4, k4, k5, hE⟩ := g1
    rw [g0] at k4
    have hh1 : zh_ok D cA RTg ro sz H0 t.heap lo1 := ⟨q4.1, q4.2.1, g2, q4.2.2.2⟩
    have j1 := k5
    obtain ⟨-, z1, oc1, yo1⟩ := zh_arr hh1 ho (show RTg[42]? = some (1, 1, 1, [(1, (-9223372036854775808), 9223372036854775807)]) from rfl)
    obtain ⟨r1, or1, -, -⟩ := yo1 0 (by decide)
    rcases hE with ⟨rfl, sp1⟩ | ⟨rfl, sp1⟩
    · refine vx_catch (own := RL) (name := "java/lang/IllegalArgumentException") hown [] ⟨0, 14, 17, 13⟩ [] (vx_table (x := yL_between) B (h2 _ (tb_6 106 rfl rfl))) (fun z hz => by cases hz) rfl (by decide) (h2 _ (tb_2 103 rfl rfl)) (va_Nw.use rfl (hKa.1.2.2.2.2.1 (eI, eI) (List.mem_of_getElem? (i := 0) rfl))) g3 g4 g5 ?_
      refine lv_astore hx hb (eL_between (17, .astore 8, 2) (List.mem_of_getElem? (i := 10) rfl)) hl (by decide) rfl (fun ls3 hl3 => ?_)
      refine ff_iconst hx hb (eL_between (19, .iconst 1, 1) (List.mem_of_getElem? (i := 11) rfl)) (by decide) (by decide) (fun v4 e4 => ?_)
      exact W.zret hx hb hr rfl (fun t ht hW => ⟨_, ro, L, zc, z1, r1, rfl, fun _ _ h => h, by rw [ht]; exact hh1.l0, by rw [ht]; exact k4, by rw [ht]; exact j1, by rw [ht]; exact oc1, or1, Or.inr ⟨by omega, by have g6 := sp1; rw [show (1 : Int) = _ from (by omega : (1 : Int) = v4.toInt)] at g6; exact g6⟩⟩) hh1.2.2.1 (eL_between (20, .ireturn, 1) (List.mem_of_getElem? (i := 12) rfl))
    · exfalso
      obtain ⟨r8, sp1⟩ := sp1
      exact spBY_no2 sp1
