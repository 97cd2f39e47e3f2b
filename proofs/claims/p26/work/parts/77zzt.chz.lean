set_option maxRecDepth 100000 in
set_option maxHeartbeats 4000000 in
theorem hX10_changeBehind (l : Launch) (D : va_G) (cA : Nat → ClassId) (ro : Nat → Option Nat) (sz : Nat) (H0 : Heap) (zq : Nat) (t0 : Int64) (zA zB : Nat) (ze : zE) (lp : Nat) (L : List Int) (ru rF rT : Nat) (rr : rU) (hq9 : ro zq = some 9) (hjL : L.length ≤ 40) (ht1 : -32000000000000 ≤ t0.toInt) (ht2 : t0.toInt ≤ 32000000000000) (hoB : ∀ c ∈ ze.2, oOK c.2 ∧ -31700000000000 ≤ c.1 ∧ c.1 ≤ 31700000000000) : Met l yX10_changeBehind (gW yX10_changeBehind cX10_changeBehind 8 (some .long)) { frames := 3, cells := 0, slots := 0, locals := 80 } (zs_PB D cA ro sz H0 (fun H => jZR D cA ro H zq zA zB ze lp L ru rF rT rr) [.ref zq, .long t0]) (fun _ st oc t => ∃ r : Int64, oc = .returned (some (.long r)) ∧ r.toInt = zbF L ze rr t0.toInt ∧ zh_ok D cA RTg ro sz H0 t.heap [] ∧ zc_kept D RTg ro kC st.heap t.heap ∧ jZR D cA ro t.heap zq zA zB ze lp L ru rF rT rr ∧ ∀ p9 : Nat, p9 ∉ [ru] → t.heap[p9]? = st.heap[p9]?) 0 0 (zy_fr sz) := by
  refine zy_ofW (cc := cX10_changeBehind) (maxL := 8) (ret := (some .long)) (by decide +kernel) rfl ?_
  intro p e s m args below meth c s1 B hml hv
  obtain ⟨rfl, hh, ⟨hKn, hBQ⟩, hJ⟩ := hv
  have hx := B.exec
  have hb := B.bytes
  have hr := B.returns
  have hlk := B.notSynchronized
  have hts0 := atoms_spec (ws := gW yX10_changeBehind cX10_changeBehind 8 (some .long)) B.pre
  have h2 : ∀ w ∈ gT, w.before ([.ref zq, .long t0] : List Value).toArray s = true := fun w hw => hts0 w (List.mem_cons_of_mem _ hw)
  have hown : s.vm.findClass RX10 = some m.cls := findClass_of_methodNamed B.named
  have hl := lv_entry [.ref zq, .long t0] (n := 8) (Nat.le_of_ble_eq_true rfl)
  rw [lg_entry_eq]
  generalize (lg_sl [.ref zq, .long t0] ++ List.replicate (8 - (lg_sl [.ref zq, .long t0]).length) Slot.unset).toArray = ls at hl ⊢
  have b_t0 := zn_i64 t0
  have hD := zD_all h2 hKn.1
  have hcl9 := fun (idx k : Nat) (t : zt_T) (h : (idx, 9, k) ∈ gfX10) (hk : fsX10[k]? = some t) => zf_clause (ro := ro) (ms := kC) h2 hown hKn.1 gfX10_ok (by decide +kernel) idx 9 k 9 0 fsX10 t h rfl hk
  have hcl5 := fun (idx k : Nat) (t : zt_T) (h : (idx, 5, k) ∈ gfX10) (hk : fsX6[k]? = some t) => zf_clause (ro := ro) (ms := kC) h2 hown hKn.1 gfX10_ok (by decide +kernel) idx 5 k 5 0 fsX6 t h rfl hk
  have kp0 : zc_kept D RTg ro kC s.heap s.heap := zc_kept.refl
  obtain ⟨hzo, fzl, rl4, hlp, fzu, hro⟩ := id hJ
  obtain ⟨-, rA, rB, f2, f3, ⟨k0, f0, hk0⟩, n, y, w, f4, hn, cA1, cB1, hc⟩ := id hzo
  obtain ⟨n9, g9, n1, n2⟩ := zh_fT (k := 4) (t := (0, 0, 60)) hh hq9 (show RTg[9]? = some (0, 9, 0, fsX10) from rfl) rfl
  cases f4.symm.trans g9
  dsimp only at n1 n2
  clear g9
  obtain ⟨hru, r6F, r6T, ⟨hF3, hF4, nn, a1, b1, u0, u1, u2, hnn, ha1, hb1⟩, hcc, hw⟩ := id hro
  have hwN := hw.1
  have hwC := hw.2.1
  have fr0 : ∀ p9 : Nat, p9 ∉ [ru] → s.heap[p9]? = s.heap[p9]? := fun _ _ => rfl
  obtain ⟨-, xA, dA, hA⟩ := zh_arr hh rA (show RTg[14]? = some (1, 1, 60, [(1, (-9223372036854775808), 9223372036854775807)]) from rfl)
  have hyA : ∀ i, i < 60 → zt_ok ro (y i) (1, (-9223372036854775808), 9223372036854775807) := zs_arr (cA1.symm.trans dA) hA
  obtain ⟨-, xB, dB, hB⟩ := zh_arr hh rB (show RTg[15]? = some (1, 0, 60, [(0, (-2147483648), 2147483647)]) from rfl)
  have hyB : ∀ i, i < 60 → zt_ok ro (w i) (0, (-2147483648), 2147483647) := zs_arr (cB1.symm.trans dB) hB
  refine lv_aload_n hx hb (eX10_changeBehind (0, .aload_n 0, 1) (List.mem_of_getElem? (i := 0) rfl)) rfl (lv_at hl 0 rfl) ?_
  refine tz_get (r := 9) (k := 0) (t := (0, (-2147483648), 2147483647)) hx hb hh hq9 rfl rfl (hcl9 30 0 (0, (-2147483648), 2147483647) (by decide) rfl).1 f0 (eX10_changeBehind (1, .getfield 30, 3) (List.mem_of_getElem? (i := 1) rfl)) ?_
  refine lv_istore_n hx hb (eX10_changeBehind (4, .istore_n 3, 1) (List.mem_of_getElem? (i := 2) rfl)) rfl hl (by decide) rfl (fun ls1 hl1 => ?_)
  refine ff_iconst hx hb (eX10_changeBehind (5, .iconst 0, 1) (List.mem_of_getElem? (i := 3) rfl)) (by decide) (by decide) (fun v2 e2 => ?_)
  refine lv_istore hx hb (eX10_changeBehind (6, .istore 4, 2) (List.mem_of_getElem? (i := 4) rfl)) hl1 (by decide) rfl (fun ls3 hl3 => ?_)
  have loop : ∀ (n9 i : Nat) (iv bv : Int32) (ls : Array Slot) (H : Heap) (lo0 : List Loc), i + n9 = ze.2.length → iv.toInt = (i : Int) → cgF L rr t0.toInt bv.toInt (ze.2.drop i) = cgF L rr t0.toInt ze.1 ze.2 → zh_ok D cA RTg ro sz H0 H lo0 → zc_kept D RTg ro kC s.heap H → jZR D cA ro H zq zA zB ze lp L ru rF rT rr → (∀ p9 : Nat, p9 ∉ [ru] → H[p9]? = s.heap[p9]?) → lv_has ls 8 [(4, .int iv), (3, .int bv), (0, .ref zq), (1, .long t0)] → W p l e (headSpec (gW yX10_changeBehind cX10_changeBehind 8 (some .long)) { frames := 3, cells := 0, slots := 0, locals := 80 }).room s m ([.ref zq, .long t0] : List Value).toArray below meth c H lo0 0 0 (MQ below (fun _ st oc t => ∃ r : Int64, oc = .returned (some (.long r)) ∧ r.toInt = zbF L ze rr t0.toInt ∧ zh_ok D cA RTg ro sz H0 t.heap [] ∧ zc_kept D RTg ro kC st.heap t.heap ∧ jZR D cA ro t.heap zq zA zB ze lp L ru rF rT rr ∧ ∀ p9 : Nat, p9 ∉ [ru] → t.heap[p9]? = st.heap[p9]?) ([.ref zq, .long t0] : List Value).toArray s 0 0 (zy_fr sz)) (F0 m 8 ls []) := by
    intro n9
    induction n9 with
    | zero =>
      intro i iv bv ls H lo0 hi hiv htot hh0 kpl jzl frl hl
      obtain ⟨⟨-, -, -, fl2, fl3, -, nl, yl, wl, fl4, hnl, cAl, cBl, hcl⟩, fl1, -, -, fl5, hrol⟩ := id jzl
      obtain ⟨-, -, -, ⟨-, -, nnl, -, -, ul0, -, -, hnnl, -⟩, -, -⟩ := id hrol
      rw [List.drop_eq_nil_of_le (show ze.2.length ≤ i by omega)] at htot
      have htot : cgF L rr t0.toInt ze.1 ze.2 = none := htot.symm
      refine lv_iload hx hb (eX10_changeBehind (8, .iload 4, 2) (List.mem_of_getElem? (i := 5) rfl)) (lv_at hl 0 rfl) ?_
      refine lv_aload_n hx hb (eX10_changeBehind (10, .aload_n 0, 1) (List.mem_of_getElem? (i := 6) rfl)) rfl (lv_at hl 2 rfl) ?_
      refine tz_get (r := 9) (k := 4) (t := (0, 0, 60)) hx hb hh0 hq9 rfl rfl (hcl9 19 4 (0, 0, 60) (by decide) rfl).1 fl4 (eX10_changeBehind (11, .getfield 19, 3) (List.mem_of_getElem? (i := 7) rfl)) ?_
      refine ff_icmp_ge hx hb (eX10_changeBehind (14, .if_icmp .ge 104, 3) (List.mem_of_getElem? (i := 8) rfl)) (tgt := 118) rfl (fun c4 => ?_) (fun c4 => (by exfalso; omega))
      have hnm : nnl.toInt = rr.1 := hnnl
      refine lv_aload_n hx hb (eX10_changeBehind (118, .aload_n 0, 1) (List.mem_of_getElem? (i := 60) rfl)) rfl (lv_at hl 2 rfl) ?_
      refine tz_get (r := 9) (k := 5) (t := (14, 0, 0)) hx hb hh0 hq9 rfl rfl (hcl9 26 5 (14, 0, 0) (by decide) rfl).1 fl5 (eX10_changeBehind (119, .getfield 26, 3) (List.mem_of_getElem? (i := 61) rfl)) ?_
      refine tz_get (r := 5) (k := 0) (t := (0, (-2147483648), 2147483647)) hx hb hh0 hru rfl rfl (hcl5 37 0 (0, (-2147483648), 2147483647) (by decide) rfl).1 ul0 (eX10_changeBehind (122, .getfield 37, 3) (List.mem_of_getElem? (i := 62) rfl)) ?_
      refine ff_iconst hx hb (eX10_changeBehind (125, .iconst 1, 1) (List.mem_of_getElem? (i := 63) rfl)) (by decide) (by decide) (fun v5 e5 => ?_)
      refine ff_icmp_ge hx hb (eX10_changeBehind (126, .if_icmp .ge 7, 3) (List.mem_of_getElem? (i := 64) rfl)) (tgt := 133) rfl (fun c6 => ?_) (fun c6 => ?_)
      · skip
        refine lv_aload_n hx hb (eX10_changeBehind (133, .aload_n 0, 1) (List.mem_of_getElem? (i := 67) rfl)) rfl (lv_at hl 2 rfl) ?_
        refine tz_get (r := 9) (k := 4) (t := (0, 0, 60)) hx hb hh0 hq9 rfl rfl (hcl9 19 4 (0, 0, 60) (by decide) rfl).1 fl4 (eX10_changeBehind (134, .getfield 19, 3) (List.mem_of_getElem? (i := 68) rfl)) ?_
        refine ff_if_le hx hb (eX10_changeBehind (137, .ifCond .le 30, 3) (List.mem_of_getElem? (i := 69) rfl)) (tgt := 167) rfl (fun c7 => ?_) (fun c7 => ?_)
        · skip
          refine lv_lload_n hx hb (eX10_changeBehind (167, .lload_n 1, 1) (List.mem_of_getElem? (i := 84) rfl)) rfl (lv_at hl 3 rfl) ?_
          refine lv_lstore hx hb (eX10_changeBehind (168, .lstore 4, 2) (List.mem_of_getElem? (i := 85) rfl)) hl (by decide) rfl (fun ls8 hl8 => ?_)
          have hst : t0.toInt = stF9 ze.2 t0.toInt := by rw [stF9_none (by omega)]
          refine lv_aload_n hx hb (eX10_changeBehind (170, .aload_n 0, 1) (List.mem_of_getElem? (i := 86) rfl)) rfl (lv_at hl8 2 rfl) ?_
          refine tz_get (r := 9) (k := 5) (t := (14, 0, 0)) hx hb hh0 hq9 rfl rfl (hcl9 26 5 (14, 0, 0) (by decide) rfl).1 fl5 (eX10_changeBehind (171, .getfield 26, 3) (List.mem_of_getElem? (i := 87) rfl)) ?_
          refine lv_aload_n hx hb (eX10_changeBehind (174, .aload_n 0, 1) (List.mem_of_getElem? (i := 88) rfl)) rfl (lv_at hl8 2 rfl) ?_
          refine tz_get (r := 9) (k := 1) (t := (12, 0, 0)) hx hb hh0 hq9 rfl rfl (hcl9 33 1 (12, 0, 0) (by decide) rfl).1 fl1 (eX10_changeBehind (175, .getfield 33, 3) (List.mem_of_getElem? (i := 89) rfl)) ?_
          refine lv_lload hx hb (eX10_changeBehind (178, .lload 4, 2) (List.mem_of_getElem? (i := 90) rfl)) (lv_at hl8 0 rfl) ?_
          refine tz_rowV (As := [.long t0]) (st := [.ref ru]) (b := lp) (C := RX5) (Ts := gT) hx hb hml hown h2 (fun _ h => h) (hX5_minuteAt l D cA ro sz H0 lp t0 L rl4 (by omega) (by omega)) ⟨rfl, rfl⟩ ⟨by decide, by decide⟩ ⟨by decide, by decide⟩ (tb_3 151 rfl rfl) (tb_1 2 rfl rfl) (tb_4 118 rfl rfl) (tb_3 149 rfl rfl) (tb_3 150 rfl rfl) (show yX5_minuteAt.cls ≠ "java/lang/invoke/MethodHandle" ∧ yX5_minuteAt.cls ≠ "java/lang/invoke/VarHandle" ∧ (parseMethodDescriptor yX5_minuteAt.desc).map (fun d => d.parameters.length) = some 1 by decide +kernel) zs_blind (zs_ob hh0 rl4 (show RTg[4]? = some (0, 4, 0, fsX5) from rfl) (zCX5 hKn.1)) (fun U hU hW => ⟨rfl, by rw [hU]; exact hh0.l0, zKb s U hW.alike hKn, by rw [hU]; exact jzl.2.2.2.1⟩) hh0.2.2.1 hl8.1 (Nat.le_of_ble_eq_true rfl) (eX10_changeBehind (180, .invokevirtual 44, 3) (List.mem_of_getElem? (i := 91) rfl)) (fun r9 s9 t9 lo9 g9 f9 l9 => ?_)
          obtain ⟨z9, v9, q9, e9⟩ := f9
          cases q9
          rw [z9, g9]
          have hh9 : zh_ok D cA RTg ro sz H0 H lo9 := ⟨hh0.1, hh0.2.1, l9, hh0.2.2.2⟩
          have hmm9 := mtI_eq hjL e9
          have hmb9 := mtI_bd hjL (t := t0.toInt) (by omega) (by omega)
          refine W.eq (g2 := F0 m 183 ls8 [.long v9, .ref ru]) rfl ?_
          refine tz_rowV (As := [.long v9]) (st := []) (b := ru) (C := RX6) (Ts := gT) hx hb hml hown h2 (fun _ h => h) (hX6_changeBehind l D cA ro sz H0 ru v9 rF rT rr hru (by omega) (by omega)) ⟨rfl, rfl⟩ ⟨by decide, by decide⟩ ⟨by decide, by decide⟩ (tb_4 186 rfl rfl) (tb_1 3 rfl rfl) (tb_4 183 rfl rfl) (tb_4 184 rfl rfl) (tb_4 185 rfl rfl) (show yX6_changeBehind.cls ≠ "java/lang/invoke/MethodHandle" ∧ yX6_changeBehind.cls ≠ "java/lang/invoke/VarHandle" ∧ (parseMethodDescriptor yX6_changeBehind.desc).map (fun d => d.parameters.length) = some 1 by decide +kernel) zs_blindB (zs_ob hh9 hru (show RTg[5]? = some (0, 5, 0, fsX6) from rfl) (zCX6 hKn.1)) (fun U hU hW => ⟨rfl, by rw [hU]; exact hh9.l0, ⟨zKb s U hW.alike hKn, hBQ.alike hW.alike⟩, by rw [hU]; exact jzl.2.2.2.2.2⟩) hh9.2.2.1 hl8.1 (Nat.le_of_ble_eq_true rfl) (eX10_changeBehind (183, .invokevirtual 87, 3) (List.mem_of_getElem? (i := 92) rfl)) (fun r10 s10 t10 lo10 g10 f10 l10 => ?_)
          obtain ⟨v10, q10, e10, z10, c10, j10, fx10⟩ := f10
          cases q10
          rw [g10] at c10 fx10
          have fr10 : ∀ p9 : Nat, p9 ∉ [ru] → t10.heap[p9]? = s.heap[p9]? := fun p9 h9 => (fx10 p9 (fun q => h9 (by rw [List.mem_singleton.mp q]; exact List.mem_cons_self))).trans (frl p9 h9)
          have hh10 : zh_ok D cA RTg ro sz H0 t10.heap lo10 := ⟨z10.1, z10.2.1, l10, z10.2.2.2⟩
          have kp10 := kpl.trans (c10.mono (ms' := kC) (by decide))
          have jz10 := jZR.upd c10 (by decide) j10 jzl
          have mf10_zq_1 := (c10.1 zq 9 1 9 0 fsX10 hq9 rfl (by decide) (by decide)).trans fl1
          have mf10_zq_2 := (c10.1 zq 9 2 9 0 fsX10 hq9 rfl (by decide) (by decide)).trans fl2
          have mf10_zq_3 := (c10.1 zq 9 3 9 0 fsX10 hq9 rfl (by decide) (by decide)).trans fl3
          have mf10_zq_4 := (c10.1 zq 9 4 9 0 fsX10 hq9 rfl (by decide) (by decide)).trans fl4
          have mf10_zq_5 := (c10.1 zq 9 5 9 0 fsX10 hq9 rfl (by decide) (by decide)).trans fl5
          have mf10_ru_0 := (c10.1 ru 5 0 5 0 fsX6 hru rfl (by decide) (by decide)).trans ul0
          have mc10_zA := (c10.2 zA 14 0 1 60 _ rA rfl (by decide)).trans cAl
          have mc10_zB := (c10.2 zB 15 0 0 60 _ rB rfl (by decide)).trans cBl
          refine W.eq (g2 := F0 m 186 ls8 [.long v10]) rfl ?_
          refine lv_lstore hx hb (eX10_changeBehind (186, .lstore 6, 2) (List.mem_of_getElem? (i := 93) rfl)) hl8 (by decide) rfl (fun ls11 hl11 => ?_)
          have hz9 := zbF_none htot (show ¬ rr.1 ≤ 0 by omega)
          rw [← hst, ← hmm9, ← e10] at hz9
          refine lv_lload hx hb (eX10_changeBehind (188, .lload 6, 2) (List.mem_of_getElem? (i := 94) rfl)) (lv_at hl11 0 rfl) ?_
          refine ff_ldc2 (n := (-9223372036854775808)) hx hb hown h2 (clX10_ok 79 (-9223372036854775808) (List.mem_of_getElem? (i := 0) rfl)) (eX10_changeBehind (190, .ldc2_w 79, 3) (List.mem_of_getElem? (i := 95) rfl)) (fun v12 e12 => ?_)
          refine ff_lcmp hx hb (eX10_changeBehind (193, .lcmp, 1) (List.mem_of_getElem? (i := 96) rfl)) (fun v13 e13 => ?_)
          refine ff_if_eq hx hb (eX10_changeBehind (194, .ifCond .eq 11, 3) (List.mem_of_getElem? (i := 97) rfl)) (tgt := 205) rfl (fun c14 => ?_) (fun c14 => ?_)
          · skip
            refine ff_ldc2 (n := (-9223372036854775808)) hx hb hown h2 (clX10_ok 79 (-9223372036854775808) (List.mem_of_getElem? (i := 0) rfl)) (eX10_changeBehind (205, .ldc2_w 79, 3) (List.mem_of_getElem? (i := 101) rfl)) (fun v15 e15 => ?_)
            refine lv_goto hx hb (eX10_changeBehind (208, .goto 13, 3) (List.mem_of_getElem? (i := 102) rfl)) (tgt := 221) rfl ?_
            exact W.lret hx hb hr (fun t ht hW => ⟨_, rfl, by rw [hz9]; unfold znF; rw [if_pos (Or.inl (by unfold NONEI; omega))]; unfold NONEI; omega, by rw [ht]; exact hh10.l0, by rw [ht]; exact kp10, by rw [ht]; exact jz10, by rw [ht]; exact fr10⟩) hh10.2.2.1 (eX10_changeBehind (221, .lreturn, 1) (List.mem_of_getElem? (i := 108) rfl))
          · skip
            refine lv_lload hx hb (eX10_changeBehind (197, .lload 6, 2) (List.mem_of_getElem? (i := 98) rfl)) (lv_at hl11 0 rfl) ?_
            refine zu_S (vs := [.long v10]) (rest := []) hx hb hml hown hts0 zu_BT (hX2_holdsMinute l v10) ⟨rfl, rfl⟩ ⟨by decide, by decide⟩ ⟨by decide, by decide⟩ (tb_3 108 rfl rfl) (tb_1 13 rfl rfl) (tb_4 161 rfl rfl) (tb_3 107 rfl rfl) (show yX2_holdsMinute.cls ≠ "java/lang/invoke/MethodHandle" ∧ yX2_holdsMinute.cls ≠ "java/lang/invoke/VarHandle" ∧ (parseMethodDescriptor yX2_holdsMinute.desc).map (fun d => d.parameters.length) = some 1 by decide +kernel) rfl (fun _ _ _ => trivial) hl11.1 (Nat.le_of_ble_eq_true rfl) (eX10_changeBehind (199, .invokestatic 62, 3) (List.mem_of_getElem? (i := 99) rfl)) (fun w16 f16 => ?_)
            obtain ⟨v16, rfl, e16⟩ := f16
            refine ff_if_ne hx hb (eX10_changeBehind (202, .ifCond .ne 9, 3) (List.mem_of_getElem? (i := 100) rfl)) (tgt := 211) rfl (fun c17 => ?_) (fun c17 => ?_)
            · skip
              have hmk : mOK v10.toInt := by rcases e16 with h | h; exact h.2; exfalso; omega
              refine lv_aload_n hx hb (eX10_changeBehind (211, .aload_n 0, 1) (List.mem_of_getElem? (i := 103) rfl)) rfl (lv_at hl11 3 rfl) ?_
              refine tz_get (r := 9) (k := 1) (t := (12, 0, 0)) hx hb hh10 hq9 rfl rfl (hcl9 33 1 (12, 0, 0) (by decide) rfl).1 mf10_zq_1 (eX10_changeBehind (212, .getfield 33, 3) (List.mem_of_getElem? (i := 104) rfl)) ?_
              refine lv_lload hx hb (eX10_changeBehind (215, .lload 6, 2) (List.mem_of_getElem? (i := 105) rfl)) (lv_at hl11 0 rfl) ?_
              refine ff_iconst hx hb (eX10_changeBehind (217, .iconst 0, 1) (List.mem_of_getElem? (i := 106) rfl)) (by decide) (by decide) (fun v18 e18 => ?_)
              refine tz_rowV (As := [.long v10, .int v18]) (st := []) (b := lp) (C := RX5) (Ts := gT) hx hb hml hown h2 (fun _ h => h) (hX5_instantOf l D cA ro sz H0 lp v10 v18 L rl4 (by unfold mOK at hmk; omega) (by unfold mOK at hmk; omega) (by omega) (by omega)) ⟨rfl, rfl⟩ ⟨by decide, by decide⟩ ⟨by decide, by decide⟩ (tb_3 123 rfl rfl) (tb_1 2 rfl rfl) (tb_4 163 rfl rfl) (tb_3 121 rfl rfl) (tb_3 122 rfl rfl) (show yX5_instantOf.cls ≠ "java/lang/invoke/MethodHandle" ∧ yX5_instantOf.cls ≠ "java/lang/invoke/VarHandle" ∧ (parseMethodDescriptor yX5_instantOf.desc).map (fun d => d.parameters.length) = some 2 by decide +kernel) zs_blind (zs_ob hh10 rl4 (show RTg[4]? = some (0, 4, 0, fsX5) from rfl) (zCX5 hKn.1)) (fun U hU hW => ⟨rfl, by rw [hU]; exact hh10.l0, zKb s U hW.alike hKn, by rw [hU]; exact jz10.2.2.2.1⟩) hh10.2.2.1 hl11.1 (Nat.le_of_ble_eq_true rfl) (eX10_changeBehind (218, .invokevirtual 70, 3) (List.mem_of_getElem? (i := 107) rfl)) (fun r19 s19 t19 lo19 g19 f19 l19 => ?_)
              obtain ⟨z19, v19, q19, e19⟩ := f19
              cases q19
              rw [z19, g19]
              have hh19 : zh_ok D cA RTg ro sz H0 t10.heap lo19 := ⟨hh10.1, hh10.2.1, l19, hh10.2.2.2⟩
              refine W.eq (g2 := F0 m 221 ls11 [.long v19]) rfl ?_
              exact W.lret hx hb hr (fun t ht hW => ⟨_, rfl, by rw [hz9]; unfold znF; rw [if_neg (fun g => g.elim (fun q => by unfold NONEI at q; omega) (fun q => q hmk))]; omega, by rw [ht]; exact hh19.l0, by rw [ht]; exact kp10, by rw [ht]; exact jz10, by rw [ht]; exact fr10⟩) hh19.2.2.1 (eX10_changeBehind (221, .lreturn, 1) (List.mem_of_getElem? (i := 108) rfl))
            · skip
              refine ff_ldc2 (n := (-9223372036854775808)) hx hb hown h2 (clX10_ok 79 (-9223372036854775808) (List.mem_of_getElem? (i := 0) rfl)) (eX10_changeBehind (205, .ldc2_w 79, 3) (List.mem_of_getElem? (i := 101) rfl)) (fun v20 e20 => ?_)
              refine lv_goto hx hb (eX10_changeBehind (208, .goto 13, 3) (List.mem_of_getElem? (i := 102) rfl)) (tgt := 221) rfl ?_
              exact W.lret hx hb hr (fun t ht hW => ⟨_, rfl, by rw [hz9]; unfold znF; rw [if_pos (Or.inr (fun q => by rcases e16 with h | h; exfalso; omega; exact h.2 q))]; unfold NONEI; omega, by rw [ht]; exact hh10.l0, by rw [ht]; exact kp10, by rw [ht]; exact jz10, by rw [ht]; exact fr10⟩) hh10.2.2.1 (eX10_changeBehind (221, .lreturn, 1) (List.mem_of_getElem? (i := 108) rfl))
        · skip
          refine lv_aload_n hx hb (eX10_changeBehind (140, .aload_n 0, 1) (List.mem_of_getElem? (i := 70) rfl)) rfl (lv_at hl 2 rfl) ?_
          refine tz_get (r := 9) (k := 4) (t := (0, 0, 60)) hx hb hh0 hq9 rfl rfl (hcl9 19 4 (0, 0, 60) (by decide) rfl).1 fl4 (eX10_changeBehind (141, .getfield 19, 3) (List.mem_of_getElem? (i := 71) rfl)) ?_
          refine ff_bipush hx hb (eX10_changeBehind (144, .bipush 60, 2) (List.mem_of_getElem? (i := 72) rfl)) (by decide) (by decide) (fun v21 e21 => ?_)
          refine ff_icmp_gt hx hb (eX10_changeBehind (146, .if_icmp .gt 21, 3) (List.mem_of_getElem? (i := 73) rfl)) (tgt := 167) rfl (fun c22 => (by exfalso; omega)) (fun c22 => ?_)
          refine lv_lload_n hx hb (eX10_changeBehind (149, .lload_n 1, 1) (List.mem_of_getElem? (i := 74) rfl)) rfl (lv_at hl 3 rfl) ?_
          refine lv_aload_n hx hb (eX10_changeBehind (150, .aload_n 0, 1) (List.mem_of_getElem? (i := 75) rfl)) rfl (lv_at hl 2 rfl) ?_
          refine tz_get (r := 9) (k := 2) (t := (32, 0, 0)) hx hb hh0 hq9 rfl rfl (hcl9 9 2 (32, 0, 0) (by decide) rfl).1 fl2 (eX10_changeBehind (151, .getfield 9, 3) (List.mem_of_getElem? (i := 76) rfl)) ?_
          refine lv_aload_n hx hb (eX10_changeBehind (154, .aload_n 0, 1) (List.mem_of_getElem? (i := 77) rfl)) rfl (lv_at hl 2 rfl) ?_
          refine tz_get (r := 9) (k := 4) (t := (0, 0, 60)) hx hb hh0 hq9 rfl rfl (hcl9 19 4 (0, 0, 60) (by decide) rfl).1 fl4 (eX10_changeBehind (155, .getfield 19, 3) (List.mem_of_getElem? (i := 78) rfl)) ?_
          refine ff_iconst hx hb (eX10_changeBehind (158, .iconst 1, 1) (List.mem_of_getElem? (i := 79) rfl)) (by decide) (by decide) (fun v23 e23 => ?_)
          refine ff_isub hx hb (eX10_changeBehind (159, .isub, 1) (List.mem_of_getElem? (i := 80) rfl)) (by omega) (by omega) (fun v24 e24 => ?_)
          refine tz_lald hx hb (zAr hKn.1 1 (by decide)) cAl (by omega) (by omega) (eX10_changeBehind (160, .laload, 1) (List.mem_of_getElem? (i := 81) rfl)) ?_
          obtain ⟨tl, ol, hyl, -, hCl⟩ := hcl (ze.2.length - 1) (by omega)
          rw [show v24.toNatClampNeg = ze.2.length - 1 by show v24.toInt.toNat = _; omega, hyl]
          have htl := hoB _ (List.mem_of_getElem? hCl)
          dsimp only at htl
          refine zu_S (vs := [.long t0, .long tl]) (rest := []) hx hb hml hown hts0 zu_BT (hJ9_maxL l t0 tl) ⟨rfl, rfl⟩ ⟨by decide, by decide⟩ ⟨by decide, by decide⟩ (tb_4 182 rfl rfl) (tb_1 18 rfl rfl) (tb_4 180 rfl rfl) (tb_4 181 rfl rfl) (show yJ9_max_f86c9.cls ≠ "java/lang/invoke/MethodHandle" ∧ yJ9_max_f86c9.cls ≠ "java/lang/invoke/VarHandle" ∧ (parseMethodDescriptor yJ9_max_f86c9.desc).map (fun d => d.parameters.length) = some 2 by decide +kernel) rfl (fun _ _ _ => trivial) hl.1 (Nat.le_of_ble_eq_true rfl) (eX10_changeBehind (161, .invokestatic 81, 3) (List.mem_of_getElem? (i := 82) rfl)) (fun w26 f26 => ?_)
          obtain ⟨v26, rfl, e26⟩ := f26
          refine lv_goto hx hb (eX10_changeBehind (164, .goto 4, 3) (List.mem_of_getElem? (i := 83) rfl)) (tgt := 168) rfl ?_
          refine lv_lstore hx hb (eX10_changeBehind (168, .lstore 4, 2) (List.mem_of_getElem? (i := 85) rfl)) hl (by decide) rfl (fun ls27 hl27 => ?_)
          have hst : v26.toInt = stF9 ze.2 t0.toInt := by rw [stF9_some hCl]; dsimp only; split <;> omega
          refine lv_aload_n hx hb (eX10_changeBehind (170, .aload_n 0, 1) (List.mem_of_getElem? (i := 86) rfl)) rfl (lv_at hl27 2 rfl) ?_
          refine tz_get (r := 9) (k := 5) (t := (14, 0, 0)) hx hb hh0 hq9 rfl rfl (hcl9 26 5 (14, 0, 0) (by decide) rfl).1 fl5 (eX10_changeBehind (171, .getfield 26, 3) (List.mem_of_getElem? (i := 87) rfl)) ?_
          refine lv_aload_n hx hb (eX10_changeBehind (174, .aload_n 0, 1) (List.mem_of_getElem? (i := 88) rfl)) rfl (lv_at hl27 2 rfl) ?_
          refine tz_get (r := 9) (k := 1) (t := (12, 0, 0)) hx hb hh0 hq9 rfl rfl (hcl9 33 1 (12, 0, 0) (by decide) rfl).1 fl1 (eX10_changeBehind (175, .getfield 33, 3) (List.mem_of_getElem? (i := 89) rfl)) ?_
          refine lv_lload hx hb (eX10_changeBehind (178, .lload 4, 2) (List.mem_of_getElem? (i := 90) rfl)) (lv_at hl27 0 rfl) ?_
          refine tz_rowV (As := [.long v26]) (st := [.ref ru]) (b := lp) (C := RX5) (Ts := gT) hx hb hml hown h2 (fun _ h => h) (hX5_minuteAt l D cA ro sz H0 lp v26 L rl4 (by omega) (by omega)) ⟨rfl, rfl⟩ ⟨by decide, by decide⟩ ⟨by decide, by decide⟩ (tb_3 151 rfl rfl) (tb_1 2 rfl rfl) (tb_4 118 rfl rfl) (tb_3 149 rfl rfl) (tb_3 150 rfl rfl) (show yX5_minuteAt.cls ≠ "java/lang/invoke/MethodHandle" ∧ yX5_minuteAt.cls ≠ "java/lang/invoke/VarHandle" ∧ (parseMethodDescriptor yX5_minuteAt.desc).map (fun d => d.parameters.length) = some 1 by decide +kernel) zs_blind (zs_ob hh0 rl4 (show RTg[4]? = some (0, 4, 0, fsX5) from rfl) (zCX5 hKn.1)) (fun U hU hW => ⟨rfl, by rw [hU]; exact hh0.l0, zKb s U hW.alike hKn, by rw [hU]; exact jzl.2.2.2.1⟩) hh0.2.2.1 hl27.1 (Nat.le_of_ble_eq_true rfl) (eX10_changeBehind (180, .invokevirtual 44, 3) (List.mem_of_getElem? (i := 91) rfl)) (fun r28 s28 t28 lo28 g28 f28 l28 => ?_)
          obtain ⟨z28, v28, q28, e28⟩ := f28
          cases q28
          rw [z28, g28]
          have hh28 : zh_ok D cA RTg ro sz H0 H lo28 := ⟨hh0.1, hh0.2.1, l28, hh0.2.2.2⟩
          have hmm28 := mtI_eq hjL e28
          have hmb28 := mtI_bd hjL (t := v26.toInt) (by omega) (by omega)
          refine W.eq (g2 := F0 m 183 ls27 [.long v28, .ref ru]) rfl ?_
          refine tz_rowV (As := [.long v28]) (st := []) (b := ru) (C := RX6) (Ts := gT) hx hb hml hown h2 (fun _ h => h) (hX6_changeBehind l D cA ro sz H0 ru v28 rF rT rr hru (by omega) (by omega)) ⟨rfl, rfl⟩ ⟨by decide, by decide⟩ ⟨by decide, by decide⟩ (tb_4 186 rfl rfl) (tb_1 3 rfl rfl) (tb_4 183 rfl rfl) (tb_4 184 rfl rfl) (tb_4 185 rfl rfl) (show yX6_changeBehind.cls ≠ "java/lang/invoke/MethodHandle" ∧ yX6_changeBehind.cls ≠ "java/lang/invoke/VarHandle" ∧ (parseMethodDescriptor yX6_changeBehind.desc).map (fun d => d.parameters.length) = some 1 by decide +kernel) zs_blindB (zs_ob hh28 hru (show RTg[5]? = some (0, 5, 0, fsX6) from rfl) (zCX6 hKn.1)) (fun U hU hW => ⟨rfl, by rw [hU]; exact hh28.l0, ⟨zKb s U hW.alike hKn, hBQ.alike hW.alike⟩, by rw [hU]; exact jzl.2.2.2.2.2⟩) hh28.2.2.1 hl27.1 (Nat.le_of_ble_eq_true rfl) (eX10_changeBehind (183, .invokevirtual 87, 3) (List.mem_of_getElem? (i := 92) rfl)) (fun r29 s29 t29 lo29 g29 f29 l29 => ?_)
          obtain ⟨v29, q29, e29, z29, c29, j29, fx29⟩ := f29
          cases q29
          rw [g29] at c29 fx29
          have fr29 : ∀ p9 : Nat, p9 ∉ [ru] → t29.heap[p9]? = s.heap[p9]? := fun p9 h9 => (fx29 p9 (fun q => h9 (by rw [List.mem_singleton.mp q]; exact List.mem_cons_self))).trans (frl p9 h9)
          have hh29 : zh_ok D cA RTg ro sz H0 t29.heap lo29 := ⟨z29.1, z29.2.1, l29, z29.2.2.2⟩
          have kp29 := kpl.trans (c29.mono (ms' := kC) (by decide))
          have jz29 := jZR.upd c29 (by decide) j29 jzl
          have mf29_zq_1 := (c29.1 zq 9 1 9 0 fsX10 hq9 rfl (by decide) (by decide)).trans fl1
          have mf29_zq_2 := (c29.1 zq 9 2 9 0 fsX10 hq9 rfl (by decide) (by decide)).trans fl2
          have mf29_zq_3 := (c29.1 zq 9 3 9 0 fsX10 hq9 rfl (by decide) (by decide)).trans fl3
          have mf29_zq_4 := (c29.1 zq 9 4 9 0 fsX10 hq9 rfl (by decide) (by decide)).trans fl4
          have mf29_zq_5 := (c29.1 zq 9 5 9 0 fsX10 hq9 rfl (by decide) (by decide)).trans fl5
          have mf29_ru_0 := (c29.1 ru 5 0 5 0 fsX6 hru rfl (by decide) (by decide)).trans ul0
          have mc29_zA := (c29.2 zA 14 0 1 60 _ rA rfl (by decide)).trans cAl
          have mc29_zB := (c29.2 zB 15 0 0 60 _ rB rfl (by decide)).trans cBl
          refine W.eq (g2 := F0 m 186 ls27 [.long v29]) rfl ?_
          refine lv_lstore hx hb (eX10_changeBehind (186, .lstore 6, 2) (List.mem_of_getElem? (i := 93) rfl)) hl27 (by decide) rfl (fun ls30 hl30 => ?_)
          have hz9 := zbF_none htot (show ¬ rr.1 ≤ 0 by omega)
          rw [← hst, ← hmm28, ← e29] at hz9
          refine lv_lload hx hb (eX10_changeBehind (188, .lload 6, 2) (List.mem_of_getElem? (i := 94) rfl)) (lv_at hl30 0 rfl) ?_
          refine ff_ldc2 (n := (-9223372036854775808)) hx hb hown h2 (clX10_ok 79 (-9223372036854775808) (List.mem_of_getElem? (i := 0) rfl)) (eX10_changeBehind (190, .ldc2_w 79, 3) (List.mem_of_getElem? (i := 95) rfl)) (fun v31 e31 => ?_)
          refine ff_lcmp hx hb (eX10_changeBehind (193, .lcmp, 1) (List.mem_of_getElem? (i := 96) rfl)) (fun v32 e32 => ?_)
          refine ff_if_eq hx hb (eX10_changeBehind (194, .ifCond .eq 11, 3) (List.mem_of_getElem? (i := 97) rfl)) (tgt := 205) rfl (fun c33 => ?_) (fun c33 => ?_)
          · skip
            refine ff_ldc2 (n := (-9223372036854775808)) hx hb hown h2 (clX10_ok 79 (-9223372036854775808) (List.mem_of_getElem? (i := 0) rfl)) (eX10_changeBehind (205, .ldc2_w 79, 3) (List.mem_of_getElem? (i := 101) rfl)) (fun v34 e34 => ?_)
            refine lv_goto hx hb (eX10_changeBehind (208, .goto 13, 3) (List.mem_of_getElem? (i := 102) rfl)) (tgt := 221) rfl ?_
            exact W.lret hx hb hr (fun t ht hW => ⟨_, rfl, by rw [hz9]; unfold znF; rw [if_pos (Or.inl (by unfold NONEI; omega))]; unfold NONEI; omega, by rw [ht]; exact hh29.l0, by rw [ht]; exact kp29, by rw [ht]; exact jz29, by rw [ht]; exact fr29⟩) hh29.2.2.1 (eX10_changeBehind (221, .lreturn, 1) (List.mem_of_getElem? (i := 108) rfl))
          · skip
            refine lv_lload hx hb (eX10_changeBehind (197, .lload 6, 2) (List.mem_of_getElem? (i := 98) rfl)) (lv_at hl30 0 rfl) ?_
            refine zu_S (vs := [.long v29]) (rest := []) hx hb hml hown hts0 zu_BT (hX2_holdsMinute l v29) ⟨rfl, rfl⟩ ⟨by decide, by decide⟩ ⟨by decide, by decide⟩ (tb_3 108 rfl rfl) (tb_1 13 rfl rfl) (tb_4 161 rfl rfl) (tb_3 107 rfl rfl) (show yX2_holdsMinute.cls ≠ "java/lang/invoke/MethodHandle" ∧ yX2_holdsMinute.cls ≠ "java/lang/invoke/VarHandle" ∧ (parseMethodDescriptor yX2_holdsMinute.desc).map (fun d => d.parameters.length) = some 1 by decide +kernel) rfl (fun _ _ _ => trivial) hl30.1 (Nat.le_of_ble_eq_true rfl) (eX10_changeBehind (199, .invokestatic 62, 3) (List.mem_of_getElem? (i := 99) rfl)) (fun w35 f35 => ?_)
            obtain ⟨v35, rfl, e35⟩ := f35
            refine ff_if_ne hx hb (eX10_changeBehind (202, .ifCond .ne 9, 3) (List.mem_of_getElem? (i := 100) rfl)) (tgt := 211) rfl (fun c36 => ?_) (fun c36 => ?_)
            · skip
              have hmk : mOK v29.toInt := by rcases e35 with h | h; exact h.2; exfalso; omega
              refine lv_aload_n hx hb (eX10_changeBehind (211, .aload_n 0, 1) (List.mem_of_getElem? (i := 103) rfl)) rfl (lv_at hl30 3 rfl) ?_
              refine tz_get (r := 9) (k := 1) (t := (12, 0, 0)) hx hb hh29 hq9 rfl rfl (hcl9 33 1 (12, 0, 0) (by decide) rfl).1 mf29_zq_1 (eX10_changeBehind (212, .getfield 33, 3) (List.mem_of_getElem? (i := 104) rfl)) ?_
              refine lv_lload hx hb (eX10_changeBehind (215, .lload 6, 2) (List.mem_of_getElem? (i := 105) rfl)) (lv_at hl30 0 rfl) ?_
              refine ff_iconst hx hb (eX10_changeBehind (217, .iconst 0, 1) (List.mem_of_getElem? (i := 106) rfl)) (by decide) (by decide) (fun v37 e37 => ?_)
              refine tz_rowV (As := [.long v29, .int v37]) (st := []) (b := lp) (C := RX5) (Ts := gT) hx hb hml hown h2 (fun _ h => h) (hX5_instantOf l D cA ro sz H0 lp v29 v37 L rl4 (by unfold mOK at hmk; omega) (by unfold mOK at hmk; omega) (by omega) (by omega)) ⟨rfl, rfl⟩ ⟨by decide, by decide⟩ ⟨by decide, by decide⟩ (tb_3 123 rfl rfl) (tb_1 2 rfl rfl) (tb_4 163 rfl rfl) (tb_3 121 rfl rfl) (tb_3 122 rfl rfl) (show yX5_instantOf.cls ≠ "java/lang/invoke/MethodHandle" ∧ yX5_instantOf.cls ≠ "java/lang/invoke/VarHandle" ∧ (parseMethodDescriptor yX5_instantOf.desc).map (fun d => d.parameters.length) = some 2 by decide +kernel) zs_blind (zs_ob hh29 rl4 (show RTg[4]? = some (0, 4, 0, fsX5) from rfl) (zCX5 hKn.1)) (fun U hU hW => ⟨rfl, by rw [hU]; exact hh29.l0, zKb s U hW.alike hKn, by rw [hU]; exact jz29.2.2.2.1⟩) hh29.2.2.1 hl30.1 (Nat.le_of_ble_eq_true rfl) (eX10_changeBehind (218, .invokevirtual 70, 3) (List.mem_of_getElem? (i := 107) rfl)) (fun r38 s38 t38 lo38 g38 f38 l38 => ?_)
              obtain ⟨z38, v38, q38, e38⟩ := f38
              cases q38
              rw [z38, g38]
              have hh38 : zh_ok D cA RTg ro sz H0 t29.heap lo38 := ⟨hh29.1, hh29.2.1, l38, hh29.2.2.2⟩
              refine W.eq (g2 := F0 m 221 ls30 [.long v38]) rfl ?_
              exact W.lret hx hb hr (fun t ht hW => ⟨_, rfl, by rw [hz9]; unfold znF; rw [if_neg (fun g => g.elim (fun q => by unfold NONEI at q; omega) (fun q => q hmk))]; omega, by rw [ht]; exact hh38.l0, by rw [ht]; exact kp29, by rw [ht]; exact jz29, by rw [ht]; exact fr29⟩) hh38.2.2.1 (eX10_changeBehind (221, .lreturn, 1) (List.mem_of_getElem? (i := 108) rfl))
            · skip
              refine ff_ldc2 (n := (-9223372036854775808)) hx hb hown h2 (clX10_ok 79 (-9223372036854775808) (List.mem_of_getElem? (i := 0) rfl)) (eX10_changeBehind (205, .ldc2_w 79, 3) (List.mem_of_getElem? (i := 101) rfl)) (fun v39 e39 => ?_)
              refine lv_goto hx hb (eX10_changeBehind (208, .goto 13, 3) (List.mem_of_getElem? (i := 102) rfl)) (tgt := 221) rfl ?_
              exact W.lret hx hb hr (fun t ht hW => ⟨_, rfl, by rw [hz9]; unfold znF; rw [if_pos (Or.inr (fun q => by rcases e35 with h | h; exfalso; omega; exact h.2 q))]; unfold NONEI; omega, by rw [ht]; exact hh29.l0, by rw [ht]; exact kp29, by rw [ht]; exact jz29, by rw [ht]; exact fr29⟩) hh29.2.2.1 (eX10_changeBehind (221, .lreturn, 1) (List.mem_of_getElem? (i := 108) rfl))
      · skip
        refine ff_ldc2 (n := (-9223372036854775808)) hx hb hown h2 (clX10_ok 79 (-9223372036854775808) (List.mem_of_getElem? (i := 0) rfl)) (eX10_changeBehind (129, .ldc2_w 79, 3) (List.mem_of_getElem? (i := 65) rfl)) (fun v40 e40 => ?_)
        exact W.lret hx hb hr (fun t ht hW => ⟨_, rfl, by rw [zbF_none0 htot (by omega)]; unfold NONEI; omega, by rw [ht]; exact hh0.l0, by rw [ht]; exact kpl, by rw [ht]; exact jzl, by rw [ht]; exact frl⟩) hh0.2.2.1 (eX10_changeBehind (132, .lreturn, 1) (List.mem_of_getElem? (i := 66) rfl))
    | succ n9 ih =>
      intro i iv bv ls H lo0 hi hiv htot hh0 kpl jzl frl hl
      obtain ⟨⟨-, -, -, fl2, fl3, -, nl, yl, wl, fl4, hnl, cAl, cBl, hcl⟩, fl1, -, -, fl5, hrol⟩ := id jzl
      obtain ⟨-, -, -, ⟨-, -, nnl, -, -, ul0, -, -, hnnl, -⟩, -, -⟩ := id hrol
      obtain ⟨tv, wv, hy1, hw1, hC1⟩ := hcl i (by omega)
      have htv := hoB _ (List.mem_of_getElem? hC1)
      dsimp only at htv
      rw [List.drop_eq_getElem_cons (show i < ze.2.length by omega), (List.getElem?_eq_some_iff.mp hC1).2] at htot
      have htot : (if t0.toInt < tv.toInt ∧ bvF L rr (tv.toInt, wv.toInt) (ze.2.drop (i + 1)).length ≠ bv.toInt then some tv.toInt else cgF L rr t0.toInt (bvF L rr (tv.toInt, wv.toInt) (ze.2.drop (i + 1)).length) (ze.2.drop (i + 1))) = cgF L rr t0.toInt ze.1 ze.2 := htot
      have hdl : (ze.2.drop (i + 1)).length = ze.2.length - (i + 1) := List.length_drop
      refine lv_iload hx hb (eX10_changeBehind (8, .iload 4, 2) (List.mem_of_getElem? (i := 5) rfl)) (lv_at hl 0 rfl) ?_
      refine lv_aload_n hx hb (eX10_changeBehind (10, .aload_n 0, 1) (List.mem_of_getElem? (i := 6) rfl)) rfl (lv_at hl 2 rfl) ?_
      refine tz_get (r := 9) (k := 4) (t := (0, 0, 60)) hx hb hh0 hq9 rfl rfl (hcl9 19 4 (0, 0, 60) (by decide) rfl).1 fl4 (eX10_changeBehind (11, .getfield 19, 3) (List.mem_of_getElem? (i := 7) rfl)) ?_
      refine ff_icmp_ge hx hb (eX10_changeBehind (14, .if_icmp .ge 104, 3) (List.mem_of_getElem? (i := 8) rfl)) (tgt := 118) rfl (fun c41 => (by exfalso; omega)) (fun c41 => ?_)
      refine lv_aload_n hx hb (eX10_changeBehind (17, .aload_n 0, 1) (List.mem_of_getElem? (i := 9) rfl)) rfl (lv_at hl 2 rfl) ?_
      refine tz_get (r := 9) (k := 5) (t := (14, 0, 0)) hx hb hh0 hq9 rfl rfl (hcl9 26 5 (14, 0, 0) (by decide) rfl).1 fl5 (eX10_changeBehind (18, .getfield 26, 3) (List.mem_of_getElem? (i := 10) rfl)) ?_
      refine tz_get (r := 5) (k := 0) (t := (0, (-2147483648), 2147483647)) hx hb hh0 hru rfl rfl (hcl5 37 0 (0, (-2147483648), 2147483647) (by decide) rfl).1 ul0 (eX10_changeBehind (21, .getfield 37, 3) (List.mem_of_getElem? (i := 11) rfl)) ?_
      refine ff_if_le hx hb (eX10_changeBehind (24, .ifCond .le 18, 3) (List.mem_of_getElem? (i := 12) rfl)) (tgt := 42) rfl (fun c42 => ?_) (fun c42 => ?_)
      · skip
        refine ff_iconst hx hb (eX10_changeBehind (42, .iconst 0, 1) (List.mem_of_getElem? (i := 21) rfl)) (by decide) (by decide) (fun v43 e43 => ?_)
        refine lv_istore hx hb (eX10_changeBehind (43, .istore 5, 2) (List.mem_of_getElem? (i := 22) rfl)) hl (by decide) rfl (fun ls44 hl44 => ?_)
        refine lv_iload hx hb (eX10_changeBehind (45, .iload 5, 2) (List.mem_of_getElem? (i := 23) rfl)) (lv_at hl44 0 rfl) ?_
        refine ff_if_eq hx hb (eX10_changeBehind (47, .ifCond .eq 27, 3) (List.mem_of_getElem? (i := 24) rfl)) (tgt := 74) rfl (fun c45 => ?_) (fun c45 => (by exfalso; omega))
        refine lv_aload_n hx hb (eX10_changeBehind (74, .aload_n 0, 1) (List.mem_of_getElem? (i := 36) rfl)) rfl (lv_at hl44 3 rfl) ?_
        refine tz_get (r := 9) (k := 3) (t := (34, 0, 0)) hx hb hh0 hq9 rfl rfl (hcl9 15 3 (34, 0, 0) (by decide) rfl).1 fl3 (eX10_changeBehind (75, .getfield 15, 3) (List.mem_of_getElem? (i := 37) rfl)) ?_
        refine lv_iload hx hb (eX10_changeBehind (78, .iload 4, 2) (List.mem_of_getElem? (i := 38) rfl)) (lv_at hl44 1 rfl) ?_
        refine tz_iald hx hb (zAr hKn.1 0 (by decide)) cBl (by omega) (by omega) (eX10_changeBehind (80, .iaload, 1) (List.mem_of_getElem? (i := 39) rfl)) ?_
        rw [show iv.toNatClampNeg = i by show iv.toInt.toNat = i; omega, hw1]
        refine lv_istore hx hb (eX10_changeBehind (81, .istore 6, 2) (List.mem_of_getElem? (i := 40) rfl)) hl44 (by decide) rfl (fun ls46 hl46 => ?_)
        have hbv : bvF L rr (tv.toInt, wv.toInt) (ze.2.drop (i + 1)).length = wv.toInt := by unfold bvF; rw [if_neg (fun g => by have g1 := g.1; have g2 := g.2; omega)]
        refine lv_aload_n hx hb (eX10_changeBehind (83, .aload_n 0, 1) (List.mem_of_getElem? (i := 41) rfl)) rfl (lv_at hl46 4 rfl) ?_
        refine tz_get (r := 9) (k := 2) (t := (32, 0, 0)) hx hb hh0 hq9 rfl rfl (hcl9 9 2 (32, 0, 0) (by decide) rfl).1 fl2 (eX10_changeBehind (84, .getfield 9, 3) (List.mem_of_getElem? (i := 42) rfl)) ?_
        refine lv_iload hx hb (eX10_changeBehind (87, .iload 4, 2) (List.mem_of_getElem? (i := 43) rfl)) (lv_at hl46 2 rfl) ?_
        refine tz_lald hx hb (zAr hKn.1 1 (by decide)) cAl (by omega) (by omega) (eX10_changeBehind (89, .laload, 1) (List.mem_of_getElem? (i := 44) rfl)) ?_
        rw [show iv.toNatClampNeg = i by show iv.toInt.toNat = i; omega, hy1]
        refine lv_lload_n hx hb (eX10_changeBehind (90, .lload_n 1, 1) (List.mem_of_getElem? (i := 45) rfl)) rfl (lv_at hl46 5 rfl) ?_
        refine ff_lcmp hx hb (eX10_changeBehind (91, .lcmp, 1) (List.mem_of_getElem? (i := 46) rfl)) (fun v48 e48 => ?_)
        refine ff_if_le hx hb (eX10_changeBehind (92, .ifCond .le 17, 3) (List.mem_of_getElem? (i := 47) rfl)) (tgt := 109) rfl (fun c49 => ?_) (fun c49 => ?_)
        · skip
          refine lv_iload hx hb (eX10_changeBehind (109, .iload 6, 2) (List.mem_of_getElem? (i := 56) rfl)) (lv_at hl46 0 rfl) ?_
          refine lv_istore_n hx hb (eX10_changeBehind (111, .istore_n 3, 1) (List.mem_of_getElem? (i := 57) rfl)) rfl hl46 (by decide) rfl (fun ls50 hl50 => ?_)
          refine ff_iinc (k := 3) hx hb (eX10_changeBehind (112, .iinc 4 1, 3) (List.mem_of_getElem? (i := 58) rfl)) hl50 rfl (by decide) (by decide) (by decide) (by omega) (by omega) (fun v51 e51 ls51 hl51 => ?_)
          refine lv_goto hx hb (eX10_changeBehind (115, .goto (-107), 3) (List.mem_of_getElem? (i := 59) rfl)) (tgt := 8) rfl ?_
          exact ih (i + 1) v51 wv ls51 _ _ (by omega) (by omega) (by rw [hbv] at htot; rw [if_neg (by omega)] at htot; exact htot) hh0 kpl jzl frl (lv_sub hl51 [0, 1, 4, 5] rfl)
        · skip
          refine lv_iload hx hb (eX10_changeBehind (95, .iload 6, 2) (List.mem_of_getElem? (i := 48) rfl)) (lv_at hl46 0 rfl) ?_
          refine lv_iload_n hx hb (eX10_changeBehind (97, .iload_n 3, 1) (List.mem_of_getElem? (i := 49) rfl)) rfl (lv_at hl46 3 rfl) ?_
          refine ff_icmp_eq hx hb (eX10_changeBehind (98, .if_icmp .eq 11, 3) (List.mem_of_getElem? (i := 50) rfl)) (tgt := 109) rfl (fun c52 => ?_) (fun c52 => ?_)
          · skip
            refine lv_iload hx hb (eX10_changeBehind (109, .iload 6, 2) (List.mem_of_getElem? (i := 56) rfl)) (lv_at hl46 0 rfl) ?_
            refine lv_istore_n hx hb (eX10_changeBehind (111, .istore_n 3, 1) (List.mem_of_getElem? (i := 57) rfl)) rfl hl46 (by decide) rfl (fun ls53 hl53 => ?_)
            refine ff_iinc (k := 3) hx hb (eX10_changeBehind (112, .iinc 4 1, 3) (List.mem_of_getElem? (i := 58) rfl)) hl53 rfl (by decide) (by decide) (by decide) (by omega) (by omega) (fun v54 e54 ls54 hl54 => ?_)
            refine lv_goto hx hb (eX10_changeBehind (115, .goto (-107), 3) (List.mem_of_getElem? (i := 59) rfl)) (tgt := 8) rfl ?_
            exact ih (i + 1) v54 wv ls54 _ _ (by omega) (by omega) (by rw [hbv] at htot; rw [if_neg (by omega)] at htot; exact htot) hh0 kpl jzl frl (lv_sub hl54 [0, 1, 4, 5] rfl)
          · skip
            refine lv_aload_n hx hb (eX10_changeBehind (101, .aload_n 0, 1) (List.mem_of_getElem? (i := 51) rfl)) rfl (lv_at hl46 4 rfl) ?_
            refine tz_get (r := 9) (k := 2) (t := (32, 0, 0)) hx hb hh0 hq9 rfl rfl (hcl9 9 2 (32, 0, 0) (by decide) rfl).1 fl2 (eX10_changeBehind (102, .getfield 9, 3) (List.mem_of_getElem? (i := 52) rfl)) ?_
            refine lv_iload hx hb (eX10_changeBehind (105, .iload 4, 2) (List.mem_of_getElem? (i := 53) rfl)) (lv_at hl46 2 rfl) ?_
            refine tz_lald hx hb (zAr hKn.1 1 (by decide)) cAl (by omega) (by omega) (eX10_changeBehind (107, .laload, 1) (List.mem_of_getElem? (i := 54) rfl)) ?_
            rw [show iv.toNatClampNeg = i by show iv.toInt.toNat = i; omega, hy1]
            rw [hbv] at htot
            rw [if_pos ⟨by omega, by omega⟩] at htot
            exact W.lret hx hb hr (fun t ht hW => ⟨_, rfl, (zbF_some htot.symm).symm, by rw [ht]; exact hh0.l0, by rw [ht]; exact kpl, by rw [ht]; exact jzl, by rw [ht]; exact frl⟩) hh0.2.2.1 (eX10_changeBehind (108, .lreturn, 1) (List.mem_of_getElem? (i := 55) rfl))
      · skip
        refine lv_iload hx hb (eX10_changeBehind (27, .iload 4, 2) (List.mem_of_getElem? (i := 13) rfl)) (lv_at hl 0 rfl) ?_
        refine lv_aload_n hx hb (eX10_changeBehind (29, .aload_n 0, 1) (List.mem_of_getElem? (i := 14) rfl)) rfl (lv_at hl 2 rfl) ?_
        refine tz_get (r := 9) (k := 4) (t := (0, 0, 60)) hx hb hh0 hq9 rfl rfl (hcl9 19 4 (0, 0, 60) (by decide) rfl).1 fl4 (eX10_changeBehind (30, .getfield 19, 3) (List.mem_of_getElem? (i := 15) rfl)) ?_
        refine ff_iconst hx hb (eX10_changeBehind (33, .iconst 1, 1) (List.mem_of_getElem? (i := 16) rfl)) (by decide) (by decide) (fun v56 e56 => ?_)
        refine ff_isub hx hb (eX10_changeBehind (34, .isub, 1) (List.mem_of_getElem? (i := 17) rfl)) (by omega) (by omega) (fun v57 e57 => ?_)
        refine ff_icmp_ne hx hb (eX10_changeBehind (35, .if_icmp .ne 7, 3) (List.mem_of_getElem? (i := 18) rfl)) (tgt := 42) rfl (fun c58 => ?_) (fun c58 => ?_)
        · skip
          refine ff_iconst hx hb (eX10_changeBehind (42, .iconst 0, 1) (List.mem_of_getElem? (i := 21) rfl)) (by decide) (by decide) (fun v59 e59 => ?_)
          refine lv_istore hx hb (eX10_changeBehind (43, .istore 5, 2) (List.mem_of_getElem? (i := 22) rfl)) hl (by decide) rfl (fun ls60 hl60 => ?_)
          refine lv_iload hx hb (eX10_changeBehind (45, .iload 5, 2) (List.mem_of_getElem? (i := 23) rfl)) (lv_at hl60 0 rfl) ?_
          refine ff_if_eq hx hb (eX10_changeBehind (47, .ifCond .eq 27, 3) (List.mem_of_getElem? (i := 24) rfl)) (tgt := 74) rfl (fun c61 => ?_) (fun c61 => (by exfalso; omega))
          refine lv_aload_n hx hb (eX10_changeBehind (74, .aload_n 0, 1) (List.mem_of_getElem? (i := 36) rfl)) rfl (lv_at hl60 3 rfl) ?_
          refine tz_get (r := 9) (k := 3) (t := (34, 0, 0)) hx hb hh0 hq9 rfl rfl (hcl9 15 3 (34, 0, 0) (by decide) rfl).1 fl3 (eX10_changeBehind (75, .getfield 15, 3) (List.mem_of_getElem? (i := 37) rfl)) ?_
          refine lv_iload hx hb (eX10_changeBehind (78, .iload 4, 2) (List.mem_of_getElem? (i := 38) rfl)) (lv_at hl60 1 rfl) ?_
          refine tz_iald hx hb (zAr hKn.1 0 (by decide)) cBl (by omega) (by omega) (eX10_changeBehind (80, .iaload, 1) (List.mem_of_getElem? (i := 39) rfl)) ?_
          rw [show iv.toNatClampNeg = i by show iv.toInt.toNat = i; omega, hw1]
          refine lv_istore hx hb (eX10_changeBehind (81, .istore 6, 2) (List.mem_of_getElem? (i := 40) rfl)) hl60 (by decide) rfl (fun ls62 hl62 => ?_)
          have hbv : bvF L rr (tv.toInt, wv.toInt) (ze.2.drop (i + 1)).length = wv.toInt := by unfold bvF; rw [if_neg (fun g => by have g1 := g.1; have g2 := g.2; omega)]
          refine lv_aload_n hx hb (eX10_changeBehind (83, .aload_n 0, 1) (List.mem_of_getElem? (i := 41) rfl)) rfl (lv_at hl62 4 rfl) ?_
          refine tz_get (r := 9) (k := 2) (t := (32, 0, 0)) hx hb hh0 hq9 rfl rfl (hcl9 9 2 (32, 0, 0) (by decide) rfl).1 fl2 (eX10_changeBehind (84, .getfield 9, 3) (List.mem_of_getElem? (i := 42) rfl)) ?_
          refine lv_iload hx hb (eX10_changeBehind (87, .iload 4, 2) (List.mem_of_getElem? (i := 43) rfl)) (lv_at hl62 2 rfl) ?_
          refine tz_lald hx hb (zAr hKn.1 1 (by decide)) cAl (by omega) (by omega) (eX10_changeBehind (89, .laload, 1) (List.mem_of_getElem? (i := 44) rfl)) ?_
          rw [show iv.toNatClampNeg = i by show iv.toInt.toNat = i; omega, hy1]
          refine lv_lload_n hx hb (eX10_changeBehind (90, .lload_n 1, 1) (List.mem_of_getElem? (i := 45) rfl)) rfl (lv_at hl62 5 rfl) ?_
          refine ff_lcmp hx hb (eX10_changeBehind (91, .lcmp, 1) (List.mem_of_getElem? (i := 46) rfl)) (fun v64 e64 => ?_)
          refine ff_if_le hx hb (eX10_changeBehind (92, .ifCond .le 17, 3) (List.mem_of_getElem? (i := 47) rfl)) (tgt := 109) rfl (fun c65 => ?_) (fun c65 => ?_)
          · skip
            refine lv_iload hx hb (eX10_changeBehind (109, .iload 6, 2) (List.mem_of_getElem? (i := 56) rfl)) (lv_at hl62 0 rfl) ?_
            refine lv_istore_n hx hb (eX10_changeBehind (111, .istore_n 3, 1) (List.mem_of_getElem? (i := 57) rfl)) rfl hl62 (by decide) rfl (fun ls66 hl66 => ?_)
            refine ff_iinc (k := 3) hx hb (eX10_changeBehind (112, .iinc 4 1, 3) (List.mem_of_getElem? (i := 58) rfl)) hl66 rfl (by decide) (by decide) (by decide) (by omega) (by omega) (fun v67 e67 ls67 hl67 => ?_)
            refine lv_goto hx hb (eX10_changeBehind (115, .goto (-107), 3) (List.mem_of_getElem? (i := 59) rfl)) (tgt := 8) rfl ?_
            exact ih (i + 1) v67 wv ls67 _ _ (by omega) (by omega) (by rw [hbv] at htot; rw [if_neg (by omega)] at htot; exact htot) hh0 kpl jzl frl (lv_sub hl67 [0, 1, 4, 5] rfl)
          · skip
            refine lv_iload hx hb (eX10_changeBehind (95, .iload 6, 2) (List.mem_of_getElem? (i := 48) rfl)) (lv_at hl62 0 rfl) ?_
            refine lv_iload_n hx hb (eX10_changeBehind (97, .iload_n 3, 1) (List.mem_of_getElem? (i := 49) rfl)) rfl (lv_at hl62 3 rfl) ?_
            refine ff_icmp_eq hx hb (eX10_changeBehind (98, .if_icmp .eq 11, 3) (List.mem_of_getElem? (i := 50) rfl)) (tgt := 109) rfl (fun c68 => ?_) (fun c68 => ?_)
            · skip
              refine lv_iload hx hb (eX10_changeBehind (109, .iload 6, 2) (List.mem_of_getElem? (i := 56) rfl)) (lv_at hl62 0 rfl) ?_
              refine lv_istore_n hx hb (eX10_changeBehind (111, .istore_n 3, 1) (List.mem_of_getElem? (i := 57) rfl)) rfl hl62 (by decide) rfl (fun ls69 hl69 => ?_)
              refine ff_iinc (k := 3) hx hb (eX10_changeBehind (112, .iinc 4 1, 3) (List.mem_of_getElem? (i := 58) rfl)) hl69 rfl (by decide) (by decide) (by decide) (by omega) (by omega) (fun v70 e70 ls70 hl70 => ?_)
              refine lv_goto hx hb (eX10_changeBehind (115, .goto (-107), 3) (List.mem_of_getElem? (i := 59) rfl)) (tgt := 8) rfl ?_
              exact ih (i + 1) v70 wv ls70 _ _ (by omega) (by omega) (by rw [hbv] at htot; rw [if_neg (by omega)] at htot; exact htot) hh0 kpl jzl frl (lv_sub hl70 [0, 1, 4, 5] rfl)
            · skip
              refine lv_aload_n hx hb (eX10_changeBehind (101, .aload_n 0, 1) (List.mem_of_getElem? (i := 51) rfl)) rfl (lv_at hl62 4 rfl) ?_
              refine tz_get (r := 9) (k := 2) (t := (32, 0, 0)) hx hb hh0 hq9 rfl rfl (hcl9 9 2 (32, 0, 0) (by decide) rfl).1 fl2 (eX10_changeBehind (102, .getfield 9, 3) (List.mem_of_getElem? (i := 52) rfl)) ?_
              refine lv_iload hx hb (eX10_changeBehind (105, .iload 4, 2) (List.mem_of_getElem? (i := 53) rfl)) (lv_at hl62 2 rfl) ?_
              refine tz_lald hx hb (zAr hKn.1 1 (by decide)) cAl (by omega) (by omega) (eX10_changeBehind (107, .laload, 1) (List.mem_of_getElem? (i := 54) rfl)) ?_
              rw [show iv.toNatClampNeg = i by show iv.toInt.toNat = i; omega, hy1]
              rw [hbv] at htot
              rw [if_pos ⟨by omega, by omega⟩] at htot
              exact W.lret hx hb hr (fun t ht hW => ⟨_, rfl, (zbF_some htot.symm).symm, by rw [ht]; exact hh0.l0, by rw [ht]; exact kpl, by rw [ht]; exact jzl, by rw [ht]; exact frl⟩) hh0.2.2.1 (eX10_changeBehind (108, .lreturn, 1) (List.mem_of_getElem? (i := 55) rfl))
        · skip
          refine ff_iconst hx hb (eX10_changeBehind (38, .iconst 1, 1) (List.mem_of_getElem? (i := 19) rfl)) (by decide) (by decide) (fun v72 e72 => ?_)
          refine lv_goto hx hb (eX10_changeBehind (39, .goto 4, 3) (List.mem_of_getElem? (i := 20) rfl)) (tgt := 43) rfl ?_
          refine lv_istore hx hb (eX10_changeBehind (43, .istore 5, 2) (List.mem_of_getElem? (i := 22) rfl)) hl (by decide) rfl (fun ls73 hl73 => ?_)
          refine lv_iload hx hb (eX10_changeBehind (45, .iload 5, 2) (List.mem_of_getElem? (i := 23) rfl)) (lv_at hl73 0 rfl) ?_
          refine ff_if_eq hx hb (eX10_changeBehind (47, .ifCond .eq 27, 3) (List.mem_of_getElem? (i := 24) rfl)) (tgt := 74) rfl (fun c74 => (by exfalso; omega)) (fun c74 => ?_)
          refine lv_aload_n hx hb (eX10_changeBehind (50, .aload_n 0, 1) (List.mem_of_getElem? (i := 25) rfl)) rfl (lv_at hl73 3 rfl) ?_
          refine tz_get (r := 9) (k := 5) (t := (14, 0, 0)) hx hb hh0 hq9 rfl rfl (hcl9 26 5 (14, 0, 0) (by decide) rfl).1 fl5 (eX10_changeBehind (51, .getfield 26, 3) (List.mem_of_getElem? (i := 26) rfl)) ?_
          refine lv_aload_n hx hb (eX10_changeBehind (54, .aload_n 0, 1) (List.mem_of_getElem? (i := 27) rfl)) rfl (lv_at hl73 3 rfl) ?_
          refine tz_get (r := 9) (k := 1) (t := (12, 0, 0)) hx hb hh0 hq9 rfl rfl (hcl9 33 1 (12, 0, 0) (by decide) rfl).1 fl1 (eX10_changeBehind (55, .getfield 33, 3) (List.mem_of_getElem? (i := 28) rfl)) ?_
          refine lv_aload_n hx hb (eX10_changeBehind (58, .aload_n 0, 1) (List.mem_of_getElem? (i := 29) rfl)) rfl (lv_at hl73 3 rfl) ?_
          refine tz_get (r := 9) (k := 2) (t := (32, 0, 0)) hx hb hh0 hq9 rfl rfl (hcl9 9 2 (32, 0, 0) (by decide) rfl).1 fl2 (eX10_changeBehind (59, .getfield 9, 3) (List.mem_of_getElem? (i := 30) rfl)) ?_
          refine lv_iload hx hb (eX10_changeBehind (62, .iload 4, 2) (List.mem_of_getElem? (i := 31) rfl)) (lv_at hl73 1 rfl) ?_
          refine tz_lald hx hb (zAr hKn.1 1 (by decide)) cAl (by omega) (by omega) (eX10_changeBehind (64, .laload, 1) (List.mem_of_getElem? (i := 32) rfl)) ?_
          rw [show iv.toNatClampNeg = i by show iv.toInt.toNat = i; omega, hy1]
          refine tz_rowV (As := [.long tv]) (st := [.ref ru]) (b := lp) (C := RX5) (Ts := gT) hx hb hml hown h2 (fun _ h => h) (hX5_minuteAt l D cA ro sz H0 lp tv L rl4 (by omega) (by omega)) ⟨rfl, rfl⟩ ⟨by decide, by decide⟩ ⟨by decide, by decide⟩ (tb_3 151 rfl rfl) (tb_1 2 rfl rfl) (tb_4 118 rfl rfl) (tb_3 149 rfl rfl) (tb_3 150 rfl rfl) (show yX5_minuteAt.cls ≠ "java/lang/invoke/MethodHandle" ∧ yX5_minuteAt.cls ≠ "java/lang/invoke/VarHandle" ∧ (parseMethodDescriptor yX5_minuteAt.desc).map (fun d => d.parameters.length) = some 1 by decide +kernel) zs_blind (zs_ob hh0 rl4 (show RTg[4]? = some (0, 4, 0, fsX5) from rfl) (zCX5 hKn.1)) (fun U hU hW => ⟨rfl, by rw [hU]; exact hh0.l0, zKb s U hW.alike hKn, by rw [hU]; exact jzl.2.2.2.1⟩) hh0.2.2.1 hl73.1 (Nat.le_of_ble_eq_true rfl) (eX10_changeBehind (65, .invokevirtual 44, 3) (List.mem_of_getElem? (i := 33) rfl)) (fun r76 s76 t76 lo76 g76 f76 l76 => ?_)
          obtain ⟨z76, v76, q76, e76⟩ := f76
          cases q76
          rw [z76, g76]
          have hh76 : zh_ok D cA RTg ro sz H0 H lo76 := ⟨hh0.1, hh0.2.1, l76, hh0.2.2.2⟩
          have hmm76 := mtI_eq hjL e76
          have hmb76 := mtI_bd hjL (t := tv.toInt) (by omega) (by omega)
          refine W.eq (g2 := F0 m 68 ls73 [.long v76, .ref ru]) rfl ?_
          refine tz_rowV (As := [.long v76]) (st := []) (b := ru) (C := RX6) (Ts := gT) hx hb hml hown h2 (fun _ h => h) (hX6_offsetAt l D cA ro sz H0 ru v76 rF rT rr hru (by omega) (by omega) (by omega)) ⟨rfl, rfl⟩ ⟨by decide, by decide⟩ ⟨by decide, by decide⟩ (tb_4 122 rfl rfl) (tb_1 3 rfl rfl) (tb_4 119 rfl rfl) (tb_4 120 rfl rfl) (tb_4 121 rfl rfl) (show yX6_offsetAt.cls ≠ "java/lang/invoke/MethodHandle" ∧ yX6_offsetAt.cls ≠ "java/lang/invoke/VarHandle" ∧ (parseMethodDescriptor yX6_offsetAt.desc).map (fun d => d.parameters.length) = some 1 by decide +kernel) zs_blindB (zs_ob hh76 hru (show RTg[5]? = some (0, 5, 0, fsX6) from rfl) (zCX6 hKn.1)) (fun U hU hW => ⟨rfl, by rw [hU]; exact hh76.l0, ⟨zKb s U hW.alike hKn, hBQ.alike hW.alike⟩, by rw [hU]; exact jzl.2.2.2.2.2⟩) hh76.2.2.1 hl73.1 (Nat.le_of_ble_eq_true rfl) (eX10_changeBehind (68, .invokevirtual 50, 3) (List.mem_of_getElem? (i := 34) rfl)) (fun r77 s77 t77 lo77 g77 f77 l77 => ?_)
          obtain ⟨v77, q77, e77, z77, c77, j77, fx77⟩ := f77
          cases q77
          rw [g77] at c77 fx77
          have fr77 : ∀ p9 : Nat, p9 ∉ [ru] → t77.heap[p9]? = s.heap[p9]? := fun p9 h9 => (fx77 p9 (fun q => h9 (by rw [List.mem_singleton.mp q]; exact List.mem_cons_self))).trans (frl p9 h9)
          have hh77 : zh_ok D cA RTg ro sz H0 t77.heap lo77 := ⟨z77.1, z77.2.1, l77, z77.2.2.2⟩
          have kp77 := kpl.trans (c77.mono (ms' := kC) (by decide))
          have jz77 := jZR.upd c77 (by decide) j77 jzl
          have mf77_zq_1 := (c77.1 zq 9 1 9 0 fsX10 hq9 rfl (by decide) (by decide)).trans fl1
          have mf77_zq_2 := (c77.1 zq 9 2 9 0 fsX10 hq9 rfl (by decide) (by decide)).trans fl2
          have mf77_zq_3 := (c77.1 zq 9 3 9 0 fsX10 hq9 rfl (by decide) (by decide)).trans fl3
          have mf77_zq_4 := (c77.1 zq 9 4 9 0 fsX10 hq9 rfl (by decide) (by decide)).trans fl4
          have mf77_zq_5 := (c77.1 zq 9 5 9 0 fsX10 hq9 rfl (by decide) (by decide)).trans fl5
          have mf77_ru_0 := (c77.1 ru 5 0 5 0 fsX6 hru rfl (by decide) (by decide)).trans ul0
          have mc77_zA := (c77.2 zA 14 0 1 60 _ rA rfl (by decide)).trans cAl
          have mc77_zB := (c77.2 zB 15 0 0 60 _ rB rfl (by decide)).trans cBl
          refine W.eq (g2 := F0 m 71 ls73 [.int v77]) rfl ?_
          refine lv_goto hx hb (eX10_changeBehind (71, .goto 10, 3) (List.mem_of_getElem? (i := 35) rfl)) (tgt := 81) rfl ?_
          refine lv_istore hx hb (eX10_changeBehind (81, .istore 6, 2) (List.mem_of_getElem? (i := 40) rfl)) hl73 (by decide) rfl (fun ls78 hl78 => ?_)
          have hbv : bvF L rr (tv.toInt, wv.toInt) (ze.2.drop (i + 1)).length = v77.toInt := by unfold bvF; rw [if_pos ⟨by omega, by omega⟩]; show roF rr (mtI L tv.toInt) = _; rw [← hmm76]; omega
          refine lv_aload_n hx hb (eX10_changeBehind (83, .aload_n 0, 1) (List.mem_of_getElem? (i := 41) rfl)) rfl (lv_at hl78 4 rfl) ?_
          refine tz_get (r := 9) (k := 2) (t := (32, 0, 0)) hx hb hh77 hq9 rfl rfl (hcl9 9 2 (32, 0, 0) (by decide) rfl).1 mf77_zq_2 (eX10_changeBehind (84, .getfield 9, 3) (List.mem_of_getElem? (i := 42) rfl)) ?_
          refine lv_iload hx hb (eX10_changeBehind (87, .iload 4, 2) (List.mem_of_getElem? (i := 43) rfl)) (lv_at hl78 2 rfl) ?_
          refine tz_lald hx hb (zAr hKn.1 1 (by decide)) mc77_zA (by omega) (by omega) (eX10_changeBehind (89, .laload, 1) (List.mem_of_getElem? (i := 44) rfl)) ?_
          rw [show iv.toNatClampNeg = i by show iv.toInt.toNat = i; omega, hy1]
          refine lv_lload_n hx hb (eX10_changeBehind (90, .lload_n 1, 1) (List.mem_of_getElem? (i := 45) rfl)) rfl (lv_at hl78 5 rfl) ?_
          refine ff_lcmp hx hb (eX10_changeBehind (91, .lcmp, 1) (List.mem_of_getElem? (i := 46) rfl)) (fun v80 e80 => ?_)
          refine ff_if_le hx hb (eX10_changeBehind (92, .ifCond .le 17, 3) (List.mem_of_getElem? (i := 47) rfl)) (tgt := 109) rfl (fun c81 => ?_) (fun c81 => ?_)
          · skip
            refine lv_iload hx hb (eX10_changeBehind (109, .iload 6, 2) (List.mem_of_getElem? (i := 56) rfl)) (lv_at hl78 0 rfl) ?_
            refine lv_istore_n hx hb (eX10_changeBehind (111, .istore_n 3, 1) (List.mem_of_getElem? (i := 57) rfl)) rfl hl78 (by decide) rfl (fun ls82 hl82 => ?_)
            refine ff_iinc (k := 3) hx hb (eX10_changeBehind (112, .iinc 4 1, 3) (List.mem_of_getElem? (i := 58) rfl)) hl82 rfl (by decide) (by decide) (by decide) (by omega) (by omega) (fun v83 e83 ls83 hl83 => ?_)
            refine lv_goto hx hb (eX10_changeBehind (115, .goto (-107), 3) (List.mem_of_getElem? (i := 59) rfl)) (tgt := 8) rfl ?_
            exact ih (i + 1) v83 v77 ls83 _ _ (by omega) (by omega) (by rw [hbv] at htot; rw [if_neg (by omega)] at htot; exact htot) hh77 kp77 jz77 fr77 (lv_sub hl83 [0, 1, 4, 5] rfl)
          · skip
            refine lv_iload hx hb (eX10_changeBehind (95, .iload 6, 2) (List.mem_of_getElem? (i := 48) rfl)) (lv_at hl78 0 rfl) ?_
            refine lv_iload_n hx hb (eX10_changeBehind (97, .iload_n 3, 1) (List.mem_of_getElem? (i := 49) rfl)) rfl (lv_at hl78 3 rfl) ?_
            refine ff_icmp_eq hx hb (eX10_changeBehind (98, .if_icmp .eq 11, 3) (List.mem_of_getElem? (i := 50) rfl)) (tgt := 109) rfl (fun c84 => ?_) (fun c84 => ?_)
            · skip
              refine lv_iload hx hb (eX10_changeBehind (109, .iload 6, 2) (List.mem_of_getElem? (i := 56) rfl)) (lv_at hl78 0 rfl) ?_
              refine lv_istore_n hx hb (eX10_changeBehind (111, .istore_n 3, 1) (List.mem_of_getElem? (i := 57) rfl)) rfl hl78 (by decide) rfl (fun ls85 hl85 => ?_)
              refine ff_iinc (k := 3) hx hb (eX10_changeBehind (112, .iinc 4 1, 3) (List.mem_of_getElem? (i := 58) rfl)) hl85 rfl (by decide) (by decide) (by decide) (by omega) (by omega) (fun v86 e86 ls86 hl86 => ?_)
              refine lv_goto hx hb (eX10_changeBehind (115, .goto (-107), 3) (List.mem_of_getElem? (i := 59) rfl)) (tgt := 8) rfl ?_
              exact ih (i + 1) v86 v77 ls86 _ _ (by omega) (by omega) (by rw [hbv] at htot; rw [if_neg (by omega)] at htot; exact htot) hh77 kp77 jz77 fr77 (lv_sub hl86 [0, 1, 4, 5] rfl)
            · skip
              refine lv_aload_n hx hb (eX10_changeBehind (101, .aload_n 0, 1) (List.mem_of_getElem? (i := 51) rfl)) rfl (lv_at hl78 4 rfl) ?_
              refine tz_get (r := 9) (k := 2) (t := (32, 0, 0)) hx hb hh77 hq9 rfl rfl (hcl9 9 2 (32, 0, 0) (by decide) rfl).1 mf77_zq_2 (eX10_changeBehind (102, .getfield 9, 3) (List.mem_of_getElem? (i := 52) rfl)) ?_
              refine lv_iload hx hb (eX10_changeBehind (105, .iload 4, 2) (List.mem_of_getElem? (i := 53) rfl)) (lv_at hl78 2 rfl) ?_
              refine tz_lald hx hb (zAr hKn.1 1 (by decide)) mc77_zA (by omega) (by omega) (eX10_changeBehind (107, .laload, 1) (List.mem_of_getElem? (i := 54) rfl)) ?_
              rw [show iv.toNatClampNeg = i by show iv.toInt.toNat = i; omega, hy1]
              rw [hbv] at htot
              rw [if_pos ⟨by omega, by omega⟩] at htot
              exact W.lret hx hb hr (fun t ht hW => ⟨_, rfl, (zbF_some htot.symm).symm, by rw [ht]; exact hh77.l0, by rw [ht]; exact kp77, by rw [ht]; exact jz77, by rw [ht]; exact fr77⟩) hh77.2.2.1 (eX10_changeBehind (108, .lreturn, 1) (List.mem_of_getElem? (i := 55) rfl))
  exact loop ze.2.length 0 v2 k0 ls3 _ _ (by omega) (by omega) (by rw [List.drop_zero, show k0.toInt = ze.1 by omega]) hh kp0 hJ fr0 (lv_sub hl3 [0, 1, 2, 3] rfl)
set_option maxRecDepth 100000 in
set_option maxHeartbeats 4000000 in
theorem hX11_nextY (l : Launch) (hst : l.stackTraces = false) (D : va_G) (cA : Nat → ClassId) (ro : Nat → Option Nat) (sz : Nat) (H0 : Heap) (x : Nat) (zi : Int32) (t0 : Int64) (L : List Int) (Z : List zE) (R : List rU) (hx10 : ro x = some 10) (hzp : zP Z) : vx_Met l yX11_next (gW yX11_next cX11_next 7 (some .long)) { frames := 6, cells := 1, slots := 6, locals := 107 } (zs_PY D cA ro sz H0 (fun H => jCY D cA ro H x L (Z, R)) [.ref x, .int zi, .long t0]) (yy_Q D cA ro sz H0 x vL (spNY zi.toInt t0.toInt L (Z, R))) (yy_X D cA ro sz H0 x L (Z, R) (spNY zi.toInt t0.toInt L (Z, R))) 1 6 (zy_fr sz) := by
  refine vx_ofW (cc := cX11_next) (maxL := 7) (ret := (some .long)) (by decide +kernel) rfl ?_
  intro p e s m args below meth c s1 B hml hex hv
  obtain ⟨rfl, hh, hKa, hBQ, hJ⟩ := hv
  have hx := B.exec
  have hb := B.bytes
  have hr := B.returns
  have hlk := B.notSynchronized
  have hts0 := atoms_spec (ws := gW yX11_next cX11_next 7 (some .long)) B.pre
  have h2 : ∀ w ∈ gT, w.before ([.ref x, .int zi, .long t0] : List Value).toArray s = true := fun w hw => hts0 w (List.mem_cons_of_mem _ hw)
  have hown : s.vm.findClass RX11 = some m.cls := findClass_of_methodNamed B.named
  have hl := lv_entry [.ref x, .int zi, .long t0] (n := 7) (Nat.le_of_ble_eq_true rfl)
  rw [lg_entry_eq]
  generalize (lg_sl [.ref x, .int zi, .long t0] ++ List.replicate (7 - (lg_sl [.ref x, .int zi, .long t0]).length) Slot.unset).toArray = ls at hl ⊢
  have b_zi := zn_i32 zi
  have b_t0 := zn_i64 t0
  have hJC := hJ
  have hJZ : jCZ D cA ro s.heap x L Z := hJC.1
  have hRR : jRR D cA ro s.heap x R := hJC.2
  have hRl : R.length = Z.length := hRR.len hJZ
  obtain ⟨⟨lp, fx0, rlp, hlp⟩, ⟨az, z, nz, qf, Af, Bf, hza, hnz, hzi⟩, hjl, hzw⟩ := id hJZ
  obtain ⟨fz, rz, cz, fn⟩ := id hza
  obtain ⟨n9, g9, n1, n2⟩ := zh_fT (k := 2) (t := (0, 0, 8)) hh hx10 (show RTg[10]? = some (0, 10, 0, fsX11) from rfl) rfl
  cases fn.symm.trans g9
  dsimp only at n1 n2
  clear g9
  have hjL := hjl.2.1
  have hD := zD_all h2 hKa.1.1.1
  have hcl10 := fun (idx k : Nat) (t : zt_T) (h : (idx, 10, k) ∈ gfX11) (hk : fsX11[k]? = some t) => zf_clause (ro := ro) (ms := []) h2 hown hKa.1.1.1 gfX11_ok (by decide +kernel) idx 10 k 10 0 fsX11 t h rfl hk
  have kp0 : zc_kept D RTg ro yMc s.heap s.heap := zc_kept.refl
  refine lv_aload_n hx hb (eX11_next (0, .aload_n 0, 1) (List.mem_of_getElem? (i := 0) rfl)) rfl (lv_at hl 0 rfl) ?_
  refine lv_iload_n hx hb (eX11_next (1, .iload_n 1, 1) (List.mem_of_getElem? (i := 1) rfl)) rfl (lv_at hl 1 rfl) ?_
  refine tz_rowV (As := [.int zi]) (st := []) (b := x) (C := RX11) (Ts := gT) hx hb hml hown h2 (fun _ h => h) (hX11_zoneAt l D cA ro sz H0 x zi az z nz hx10) ⟨rfl, rfl⟩ ⟨by decide, by decide⟩ ⟨by decide, by decide⟩ (tb_3 211 rfl rfl) (tb_1 1 rfl rfl) (tb_3 208 rfl rfl) (tb_3 210 rfl rfl) (tb_0 1 rfl rfl) (show yX11_zoneAt.cls ≠ "java/lang/invoke/MethodHandle" ∧ yX11_zoneAt.cls ≠ "java/lang/invoke/VarHandle" ∧ (parseMethodDescriptor yX11_zoneAt.desc).map (fun d => d.parameters.length) = some 1 by decide +kernel) zs_blind (zs_ob hh hx10 (show RTg[10]? = some (0, 10, 0, fsX11) from rfl) (zCX11 hKa.1.1.1)) (fun U hU hW => ⟨rfl, by rw [hU]; exact hh.l0, zKb s U hW.alike hKa.1.1, by rw [hU]; exact hza⟩) hh.2.2.1 hl.1 (Nat.le_of_ble_eq_true rfl) (eX11_next (2, .invokevirtual 196, 3) (List.mem_of_getElem? (i := 2) rfl)) (fun r1 s1 t1 lo1 g1 f1 l1 => ?_)
  obtain ⟨z1, f1⟩ := f1
  rw [z1, g1]
  have hh1 : zh_ok D cA RTg ro sz H0 s.heap lo1 := ⟨hh.1, hh.2.1, l1, hh.2.2.2⟩
  rcases f1 with ⟨q1, bz⟩ | ⟨q1, bz⟩
  · cases q1
    refine W.eq (g2 := F0 m 5 ls [.null]) rfl ?_
    refine lv_astoreN hx hb (eX11_next (5, .astore 4, 2) (List.mem_of_getElem? (i := 3) rfl)) hl (by decide) rfl (fun ls2 hl2 => ?_)
    refine lv_aloadN hx hb (eX11_next (7, .aload 4, 2) (List.mem_of_getElem? (i := 4) rfl)) (lv_at hl2 0 rfl) ?_
    refine lv_ifnullN hx hb (eX11_next (9, .ifnull 14, 3) (List.mem_of_getElem? (i := 5) rfl)) (tgt := 23) rfl ?_
    exact zx_leafG (ik := 83) (is := 224) (ic := 87) (cls := "java/lang/IllegalArgumentException") (text := "no such zone or instant") hx hb hst hown h2 hKa.1 hh hh1 (by rw [hl2.1, hml]) hex hlk ⟨by decide, by decide, by decide, by decide⟩ (tb_2 121 rfl rfl) (tb_1 17 rfl rfl) (by decide) (gAt_in gAt_1) (by decide +kernel) (by decide) (by decide) (fun t h7 h8 => ⟨hh1.grow h7 h8, kp0.trans (kept_grow hh1 h8), hJC.kept hx10 (kept_grow (ms := []) hh1 h8) (by decide), Or.inl ⟨rfl, 0, rfl, rfl, Or.inl ⟨rfl, fun g => by have g1 := g.1; have g2 : zi.toInt < (Z.length : Int) := g.2.1; omega⟩⟩⟩) (eX11_next (23, .new 83, 3) (List.mem_of_getElem? (i := 11) rfl)) (eX11_next (26, .dup, 1) (List.mem_of_getElem? (i := 12) rfl)) (eX11_next (27, .ldc 224, 2) (List.mem_of_getElem? (i := 13) rfl)) (eX11_next (29, .invokespecial 87, 3) (List.mem_of_getElem? (i := 14) rfl)) (eX11_next (32, .athrow, 1) (List.mem_of_getElem? (i := 15) rfl))
  · have hlt : zi.toInt.toNat < Z.length := by omega
    obtain ⟨ze, hze⟩ : ∃ e9, Z[zi.toInt.toNat]? = some e9 := ⟨_, List.getElem?_eq_getElem hlt⟩
    obtain ⟨rr, hrr⟩ : ∃ e9, R[zi.toInt.toNat]? = some e9 := ⟨_, List.getElem?_eq_getElem (by omega)⟩
    have hle := hzw.2 ze (List.mem_of_getElem? hze)
    obtain ⟨hz1, ho1⟩ := hzi.1 _ ze hze
    rw [hz1] at q1
    generalize hzq : qf zi.toInt.toNat = zq at q1 ho1 hz1
    generalize hzA : Af zi.toInt.toNat = zA at ho1
    generalize hzB : Bf zi.toInt.toNat = zB at ho1
    cases q1
    have rzq := ho1.1
    obtain ⟨ru, rF, rT, lp9, dr, df, dt, fx9, fzl, fzu, hro, hdr, hne, hclose⟩ := hRR.at hx10 hza hrr hz1
    cases fx0.symm.trans fx9
    have hzr : jZR D cA ro s.heap zq zA zB ze lp L ru rF rT rr := ⟨ho1, fzl, rlp, hlp, fzu, hro⟩
    have hru := hro.1
    refine W.eq (g2 := F0 m 5 ls [.ref zq]) rfl ?_
    refine lv_astore hx hb (eX11_next (5, .astore 4, 2) (List.mem_of_getElem? (i := 3) rfl)) hl (by decide) rfl (fun ls3 hl3 => ?_)
    refine lv_aload hx hb (eX11_next (7, .aload 4, 2) (List.mem_of_getElem? (i := 4) rfl)) (lv_at hl3 0 rfl) ?_
    refine lv_ifnull hx hb (eX11_next (9, .ifnull 14, 3) (List.mem_of_getElem? (i := 5) rfl)) ?_
    refine lv_aload_n hx hb (eX11_next (12, .aload_n 0, 1) (List.mem_of_getElem? (i := 6) rfl)) rfl (lv_at hl3 1 rfl) ?_
    refine tz_get (r := 10) (k := 0) (t := (12, 0, 0)) hx hb hh1 hx10 rfl rfl (hcl10 14 0 (12, 0, 0) (by decide) rfl).1 fx0 (eX11_next (13, .getfield 14, 3) (List.mem_of_getElem? (i := 7) rfl)) ?_
    refine lv_lload_n hx hb (eX11_next (16, .lload_n 2, 1) (List.mem_of_getElem? (i := 8) rfl)) rfl (lv_at hl3 3 rfl) ?_
    refine tz_rowV (As := [.long t0]) (st := []) (b := lp) (C := RX5) (Ts := gT) hx hb hml hown h2 (fun _ h => h) (hX5_holds l D cA ro sz H0 lp t0 L rlp) ⟨rfl, rfl⟩ ⟨by decide, by decide⟩ ⟨by decide, by decide⟩ (tb_3 139 rfl rfl) (tb_1 2 rfl rfl) (tb_3 136 rfl rfl) (tb_3 137 rfl rfl) (tb_3 138 rfl rfl) (show yX5_holds.cls ≠ "java/lang/invoke/MethodHandle" ∧ yX5_holds.cls ≠ "java/lang/invoke/VarHandle" ∧ (parseMethodDescriptor yX5_holds.desc).map (fun d => d.parameters.length) = some 1 by decide +kernel) zs_blind (zs_ob hh1 rlp (show RTg[4]? = some (0, 4, 0, fsX5) from rfl) (zCX5 hKa.1.1.1)) (fun U hU hW => ⟨rfl, by rw [hU]; exact hh1.l0, zKb s U hW.alike hKa.1.1, by rw [hU]; exact hlp⟩) hh1.2.2.1 hl3.1 (Nat.le_of_ble_eq_true rfl) (eX11_next (17, .invokevirtual 176, 3) (List.mem_of_getElem? (i := 9) rfl)) (fun r4 s4 t4 lo4 g4 f4 l4 => ?_)
    obtain ⟨z4, v4, q4, e4⟩ := f4
    cases q4
    rw [z4, g4]
    have hh4 : zh_ok D cA RTg ro sz H0 s.heap lo4 := ⟨hh1.1, hh1.2.1, l4, hh1.2.2.2⟩
    refine W.eq (g2 := F0 m 20 ls3 [.int v4]) rfl ?_
    refine ff_if_ne hx hb (eX11_next (20, .ifCond .ne 13, 3) (List.mem_of_getElem? (i := 10) rfl)) (tgt := 33) rfl (fun c5 => ?_) (fun c5 => ?_)
    · skip
      have htk : tOK t0.toInt L := by rcases e4 with h | h; exact h.2; exfalso; omega
      have hl1 := lsI_b hjL (-365961662)
      have hl2 := lsI_b hjL 364522972
      have htk2 := htk
      unfold tOK at htk2
      obtain ⟨-, hoB9, -⟩ := hzp ze (List.mem_of_getElem? hze)
      refine lv_aload hx hb (eX11_next (33, .aload 4, 2) (List.mem_of_getElem? (i := 16) rfl)) (lv_at hl3 0 rfl) ?_
      refine lv_lload_n hx hb (eX11_next (35, .lload_n 2, 1) (List.mem_of_getElem? (i := 17) rfl)) rfl (lv_at hl3 3 rfl) ?_
      refine tz_rowV (As := [.long t0]) (st := []) (b := zq) (C := RX10) (Ts := gT) hx hb hml hown h2 (fun _ h => h) (hX10_changeBehind l D cA ro sz H0 zq t0 zA zB ze lp L ru rF rT rr rzq hjL (by omega) (by omega) hoB9) ⟨rfl, rfl⟩ ⟨by decide, by decide⟩ ⟨by decide, by decide⟩ (tb_4 178 rfl rfl) (tb_1 20 rfl rfl) (tb_4 175 rfl rfl) (tb_4 176 rfl rfl) (tb_4 177 rfl rfl) (show yX10_changeBehind.cls ≠ "java/lang/invoke/MethodHandle" ∧ yX10_changeBehind.cls ≠ "java/lang/invoke/VarHandle" ∧ (parseMethodDescriptor yX10_changeBehind.desc).map (fun d => d.parameters.length) = some 1 by decide +kernel) zs_blindB (zs_ob hh4 rzq (show RTg[9]? = some (0, 9, 0, fsX10) from rfl) (zCX10 hKa.1.1.1)) (fun U hU hW => ⟨rfl, by rw [hU]; exact hh4.l0, ⟨zKb s U hW.alike hKa.1.1, hBQ.alike hW.alike⟩, by rw [hU]; exact hzr⟩) hh4.2.2.1 hl3.1 (Nat.le_of_ble_eq_true rfl) (eX11_next (36, .invokevirtual 235, 3) (List.mem_of_getElem? (i := 18) rfl)) (fun r6 s6 t6 lo6 g6 f6 l6 => ?_)
      obtain ⟨v6, q6, e6, z6, c6, j6, fx6⟩ := f6
      cases q6
      rw [g6] at c6 fx6
      have hh6 : zh_ok D cA RTg ro sz H0 t6.heap lo6 := ⟨z6.1, z6.2.1, l6, z6.2.2.2⟩
      have kp6 := kp0.trans (c6.mono (ms' := yMc) (by decide))
      have sf6 : sfR ro [ru, rF, rT, dr, df, dt] s.heap t6.heap := fun p9 k9 hp hk hn => fx6 p9 (by obtain ⟨n1, -⟩ := l_n6 hn; exact l_n1 n1)
      have jrr6 := hclose t6.heap rr sf6 j6.2.2.2.2.2 (zh_fq (fx6 dr (l_n1 hne.1.symm)) hdr.2.2.1) (zh_fq (fx6 dr (l_n1 hne.1.symm)) hdr.2.2.2.1)
      rw [l_set hrr] at jrr6
      have jcy6 : jCY D cA ro t6.heap x L (Z, R) := ⟨hJZ.kept hx10 c6 (by decide), jrr6⟩
      have hzb := zbF_bd (e := ze) (r := rr) (t := t0.toInt) hjL hoB9
      rw [← e6] at hzb
      unfold NONEI at hzb
      refine W.eq (g2 := F0 m 39 ls3 [.long v6]) rfl ?_
      refine lv_lstore hx hb (eX11_next (39, .lstore 5, 2) (List.mem_of_getElem? (i := 19) rfl)) hl3 (by decide) rfl (fun ls7 hl7 => ?_)
      refine lv_lload hx hb (eX11_next (41, .lload 5, 2) (List.mem_of_getElem? (i := 20) rfl)) (lv_at hl7 0 rfl) ?_
      refine ff_ldc2 (n := (-9223372036854775808)) hx hb hown h2 (clX11_ok 62 (-9223372036854775808) (List.mem_of_getElem? (i := 0) rfl)) (eX11_next (43, .ldc2_w 62, 3) (List.mem_of_getElem? (i := 21) rfl)) (fun v8 e8 => ?_)
      refine ff_lcmp hx hb (eX11_next (46, .lcmp, 1) (List.mem_of_getElem? (i := 22) rfl)) (fun v9 e9 => ?_)
      refine ff_if_eq hx hb (eX11_next (47, .ifCond .eq 14, 3) (List.mem_of_getElem? (i := 23) rfl)) (tgt := 61) rfl (fun c10 => ?_) (fun c10 => ?_)
      · skip
        refine ff_ldc2 (n := (-9223372036854775808)) hx hb hown h2 (clX11_ok 62 (-9223372036854775808) (List.mem_of_getElem? (i := 0) rfl)) (eX11_next (61, .ldc2_w 62, 3) (List.mem_of_getElem? (i := 30) rfl)) (fun v11 e11 => ?_)
        refine lv_goto hx hb (eX11_next (64, .goto 5, 3) (List.mem_of_getElem? (i := 31) rfl)) (tgt := 69) rfl ?_
        exact vx_ret (W.widen (k := 1) (n := 6) (Nat.zero_le _) (Nat.zero_le _) (W.lret hx hb hr (fun t ht hW => ⟨_, _, ro, L, (Z, R), rfl, ⟨_, rfl, rfl⟩, fun _ _ h => h, by rw [ht]; exact hh6.l0, by rw [ht]; exact kp6, by rw [ht]; exact jcy6, rfl, rfl, Or.inr ⟨rfl, ⟨by omega, by show _ < (Z.length : Int); omega, htk⟩, ze, rr, hze, hrr, by unfold nxF; rw [← e6]; first | (rw [if_neg (by unfold NONEI; omega)]) | (rw [if_pos (by unfold NONEI; omega)]; unfold NONEI; omega)⟩⟩) hh6.2.2.1 (eX11_next (69, .lreturn, 1) (List.mem_of_getElem? (i := 33) rfl))))
      · skip
        refine lv_lload hx hb (eX11_next (50, .lload 5, 2) (List.mem_of_getElem? (i := 24) rfl)) (lv_at hl7 0 rfl) ?_
        refine lv_lload_n hx hb (eX11_next (52, .lload_n 2, 1) (List.mem_of_getElem? (i := 25) rfl)) rfl (lv_at hl7 4 rfl) ?_
        refine ff_lsub hx hb (eX11_next (53, .lsub, 1) (List.mem_of_getElem? (i := 26) rfl)) (by omega) (by omega) (fun v12 e12 => ?_)
        refine ff_ldc2 (n := 172800000) hx hb hown h2 (clX11_ok 238 172800000 (List.mem_of_getElem? (i := 1) rfl)) (eX11_next (54, .ldc2_w 238, 3) (List.mem_of_getElem? (i := 27) rfl)) (fun v13 e13 => ?_)
        refine ff_lcmp hx hb (eX11_next (57, .lcmp, 1) (List.mem_of_getElem? (i := 28) rfl)) (fun v14 e14 => ?_)
        refine ff_if_lt hx hb (eX11_next (58, .ifCond .lt 9, 3) (List.mem_of_getElem? (i := 29) rfl)) (tgt := 67) rfl (fun c15 => ?_) (fun c15 => ?_)
        · skip
          refine lv_lload hx hb (eX11_next (67, .lload 5, 2) (List.mem_of_getElem? (i := 32) rfl)) (lv_at hl7 0 rfl) ?_
          exact vx_ret (W.widen (k := 1) (n := 6) (Nat.zero_le _) (Nat.zero_le _) (W.lret hx hb hr (fun t ht hW => ⟨_, _, ro, L, (Z, R), rfl, ⟨_, rfl, rfl⟩, fun _ _ h => h, by rw [ht]; exact hh6.l0, by rw [ht]; exact kp6, by rw [ht]; exact jcy6, rfl, rfl, Or.inr ⟨rfl, ⟨by omega, by show _ < (Z.length : Int); omega, htk⟩, ze, rr, hze, hrr, by unfold nxF; rw [← e6]; first | (rw [if_neg (by unfold NONEI; omega)]) | (rw [if_pos (by unfold NONEI; omega)]; unfold NONEI; omega)⟩⟩) hh6.2.2.1 (eX11_next (69, .lreturn, 1) (List.mem_of_getElem? (i := 33) rfl))))
        · skip
          refine ff_ldc2 (n := (-9223372036854775808)) hx hb hown h2 (clX11_ok 62 (-9223372036854775808) (List.mem_of_getElem? (i := 0) rfl)) (eX11_next (61, .ldc2_w 62, 3) (List.mem_of_getElem? (i := 30) rfl)) (fun v16 e16 => ?_)
          refine lv_goto hx hb (eX11_next (64, .goto 5, 3) (List.mem_of_getElem? (i := 31) rfl)) (tgt := 69) rfl ?_
          exact vx_ret (W.widen (k := 1) (n := 6) (Nat.zero_le _) (Nat.zero_le _) (W.lret hx hb hr (fun t ht hW => ⟨_, _, ro, L, (Z, R), rfl, ⟨_, rfl, rfl⟩, fun _ _ h => h, by rw [ht]; exact hh6.l0, by rw [ht]; exact kp6, by rw [ht]; exact jcy6, rfl, rfl, Or.inr ⟨rfl, ⟨by omega, by show _ < (Z.length : Int); omega, htk⟩, ze, rr, hze, hrr, by unfold nxF; rw [← e6]; first | (rw [if_neg (by unfold NONEI; omega)]) | (rw [if_pos (by unfold NONEI; omega)]; unfold NONEI; omega)⟩⟩) hh6.2.2.1 (eX11_next (69, .lreturn, 1) (List.mem_of_getElem? (i := 33) rfl))))
    · skip
      exact zx_leafG (ik := 83) (is := 224) (ic := 87) (cls := "java/lang/IllegalArgumentException") (text := "no such zone or instant") hx hb hst hown h2 hKa.1 hh hh4 (by rw [hl3.1, hml]) hex hlk ⟨by decide, by decide, by decide, by decide⟩ (tb_2 121 rfl rfl) (tb_1 17 rfl rfl) (by decide) (gAt_in gAt_1) (by decide +kernel) (by decide) (by decide) (fun t h7 h8 => ⟨hh4.grow h7 h8, kp0.trans (kept_grow hh4 h8), hJC.kept hx10 (kept_grow (ms := []) hh4 h8) (by decide), Or.inl ⟨rfl, 0, rfl, rfl, Or.inl ⟨rfl, fun g => by rcases e4 with h | h; exfalso; omega; exact h.2 g.2.2⟩⟩⟩) (eX11_next (23, .new 83, 3) (List.mem_of_getElem? (i := 11) rfl)) (eX11_next (26, .dup, 1) (List.mem_of_getElem? (i := 12) rfl)) (eX11_next (27, .ldc 224, 2) (List.mem_of_getElem? (i := 13) rfl)) (eX11_next (29, .invokespecial 87, 3) (List.mem_of_getElem? (i := 14) rfl)) (eX11_next (32, .athrow, 1) (List.mem_of_getElem? (i := 15) rfl))
