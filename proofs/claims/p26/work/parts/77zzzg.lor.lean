set_option maxRecDepth 100000 in
set_option maxHeartbeats 4000000 in
theorem hX12_local (l : Launch) (D : va_G) (cA : Nat → ClassId) (ro : Nat → Option Nat) (sz : Nat) (H0 : Heap) (a : Nat) (zi : Int32) (m0 : Int64) (s0 : Int32) (q0 : Int32) (L : List Int) (Z : List zE) (R : List rU) (ha : ro a = some 11)  : Met l yX12_local (gW yX12_local cX12_local 7 (some .long)) { frames := 6, cells := 0, slots := 0, locals := 174 } (zs_P D cA ro sz H0 (fun H => jRY D cA ro H a L (Z, R)) [.ref a, .int zi, .long m0, .int s0, .int q0]) (yy_QR D cA ro sz H0 a vL (spKY zi.toInt m0.toInt s0.toInt q0.toInt L (Z, R))) 0 0 (zy_fr sz) := by
  refine zy_ofW (cc := cX12_local) (maxL := 7) (ret := (some .long)) (by decide +kernel) rfl ?_
  intro p e s m args below meth c s1 B hml hv
  obtain ⟨rfl, hh, hKn, hJ⟩ := hv
  have hx := B.exec
  have hb := B.bytes
  have hr := B.returns
  have hlk := B.notSynchronized
  have hts0 := atoms_spec (ws := gW yX12_local cX12_local 7 (some .long)) B.pre
  have h2 : ∀ w ∈ gT, w.before ([.ref a, .int zi, .long m0, .int s0, .int q0] : List Value).toArray s = true := fun w hw => hts0 w (List.mem_cons_of_mem _ hw)
  have hown : s.vm.findClass RX12 = some m.cls := findClass_of_methodNamed B.named
  have hl := lv_entry [.ref a, .int zi, .long m0, .int s0, .int q0] (n := 7) (Nat.le_of_ble_eq_true rfl)
  rw [lg_entry_eq]
  generalize (lg_sl [.ref a, .int zi, .long m0, .int s0, .int q0] ++ List.replicate (7 - (lg_sl [.ref a, .int zi, .long m0, .int s0, .int q0]).length) Slot.unset).toArray = ls at hl ⊢
  have b_zi := zn_i32 zi
  have b_m0 := zn_i64 m0
  have b_s0 := zn_i32 s0
  have b_q0 := zn_i32 q0
  have hD := zD_all h2 hKn.1
  have hcl11 := fun (idx k : Nat) (t : zt_T) (h : (idx, 11, k) ∈ gfX12) (hk : fsX12[k]? = some t) => zf_clause (ro := ro) (ms := yMr) h2 hown hKn.1 gfX12_ok (by decide +kernel) idx 11 k 11 0 fsX12 t h rfl hk
  have kp0 : zc_kept D RTg ro yMr s.heap s.heap := zc_kept.refl
  obtain ⟨hJz, hJq, hRl, hsr⟩ := id hJ
  have hJz : jRZ D cA ro s.heap a L Z := hJz
  have hJq : jRQ D cA ro s.heap a R := hJq
  have hRl : R.length = Z.length := hRl
  have hsr : ∀ e ∈ Z, srt e.2 := hsr
  obtain ⟨⟨la, n, z, fq2, r0, fq1, hn, hc, hz⟩, ⟨a4, a5, a6, a7, zq4, zq5, zq6, zq7, nz, ⟨fq4, rq4, cq4⟩, ⟨fq5, rq5, cq5⟩, ⟨fq6, rq6, cq6⟩, ⟨fq7, rq7, cq7⟩, fq3, hnz, hp⟩, hjl, hzw⟩ := id hJz
  have hjr := hJz.1
  have hjL := hjl.2.1
  have hzw1 := hzw.1
  obtain ⟨n9, g9, n1, n2⟩ := zh_fT (k := 1) (t := (0, 0, 40)) hh ha (show RTg[11]? = some (0, 11, 0, fsX12) from rfl) rfl
  cases fq1.symm.trans g9
  dsimp only at n1 n2
  clear g9
  obtain ⟨n9, g9, nz1, nz2⟩ := zh_fT (k := 3) (t := (0, 0, 8)) hh ha (show RTg[11]? = some (0, 11, 0, fsX12) from rfl) rfl
  cases fq3.symm.trans g9
  dsimp only at nz1 nz2
  clear g9
  obtain ⟨-, xla, dla, hla⟩ := zh_arr hh r0 (show RTg[21]? = some (1, 1, 40, [(1, (-9223372036854775808), 9223372036854775807)]) from rfl)
  have hyla : ∀ i, i < 40 → zt_ok ro (z i) (1, (-9223372036854775808), 9223372036854775807) := zs_arr (hc.symm.trans dla) hla
  obtain ⟨-, xa4, da4, ha4⟩ := zh_arr hh rq4 (show RTg[22]? = some (1, 0, 8, [(0, (-1439), 1439)]) from rfl)
  have hya4 : ∀ i, i < 8 → zt_ok ro (zq4 i) (0, (-1439), 1439) := zs_arr (cq4.symm.trans da4) ha4
  obtain ⟨-, xa5, da5, ha5⟩ := zh_arr hh rq5 (show RTg[23]? = some (1, 0, 8, [(0, 0, 60)]) from rfl)
  have hya5 : ∀ i, i < 8 → zt_ok ro (zq5 i) (0, 0, 60) := zs_arr (cq5.symm.trans da5) ha5
  obtain ⟨-, xa6, da6, ha6⟩ := zh_arr hh rq6 (show RTg[24]? = some (1, 1, 480, [(1, (-100000000000000), 100000000000000)]) from rfl)
  have hya6 : ∀ i, i < 480 → zt_ok ro (zq6 i) (1, (-100000000000000), 100000000000000) := zs_arr (cq6.symm.trans da6) ha6
  obtain ⟨-, xa7, da7, ha7⟩ := zh_arr hh rq7 (show RTg[25]? = some (1, 0, 480, [(0, (-1439), 1439)]) from rfl)
  have hya7 : ∀ i, i < 480 → zt_ok ro (zq7 i) (0, (-1439), 1439) := zs_arr (cq7.symm.trans da7) ha7
  obtain ⟨b8, b9, bA, bB, z8, z9, zA, zB, ⟨fq8, rq8, cq8⟩, ⟨fq9, rq9, cq9⟩, ⟨fqA, rqA, cqA⟩, ⟨fqB, rqB, cqB⟩, hrp, hrw⟩ := id hJq
  obtain ⟨-, xb8, db8, hb8⟩ := zh_arr hh rq8 (show RTg[26]? = some (1, 0, 8, [(0, 0, 2)]) from rfl)
  have hyb8 : ∀ i, i < 8 → zt_ok ro (z8 i) (0, 0, 2) := zs_arr (cq8.symm.trans db8) hb8
  obtain ⟨-, xb9, db9, hb9⟩ := zh_arr hh rq9 (show RTg[27]? = some (1, 0, 8, [(0, (-1000000), 1000000)]) from rfl)
  have hyb9 : ∀ i, i < 8 → zt_ok ro (z9 i) (0, (-1000000), 1000000) := zs_arr (cq9.symm.trans db9) hb9
  obtain ⟨-, xbA, dbA, hbA⟩ := zh_arr hh rqA (show RTg[28]? = some (1, 0, 8, [(0, (-1000000), 1000000)]) from rfl)
  have hybA : ∀ i, i < 8 → zt_ok ro (zA i) (0, (-1000000), 1000000) := zs_arr (cqA.symm.trans dbA) hbA
  obtain ⟨-, xbB, dbB, hbB⟩ := zh_arr hh rqB (show RTg[29]? = some (1, 0, 80, [(0, (-1000000), 1000000)]) from rfl)
  have hybB : ∀ i, i < 80 → zt_ok ro (zB i) (0, (-1000000), 1000000) := zs_arr (cqB.symm.trans dbB) hbB
  refine lv_aload_n hx hb (eX12_local (0, .aload_n 0, 1) (List.mem_of_getElem? (i := 0) rfl)) rfl (lv_at hl 0 rfl) ?_
  refine lv_aload_n hx hb (eX12_local (1, .aload_n 0, 1) (List.mem_of_getElem? (i := 1) rfl)) rfl (lv_at hl 0 rfl) ?_
  refine lv_iload_n hx hb (eX12_local (2, .iload_n 1, 1) (List.mem_of_getElem? (i := 2) rfl)) rfl (lv_at hl 1 rfl) ?_
  refine tz_rowV (As := [.int zi]) (st := [.ref a]) (b := a) (C := RX12) (Ts := gT) hx hb hml hown h2 (fun _ h => h) (hX12_isZone l D cA ro sz H0 a zi nz ha) ⟨rfl, rfl⟩ ⟨by decide, by decide⟩ ⟨by decide, by decide⟩ (tb_7 162 rfl rfl) (tb_1 12 rfl rfl) (tb_7 159 rfl rfl) (tb_7 161 rfl rfl) (tb_0 15 rfl rfl) (show yX12_isZone.cls ≠ "java/lang/invoke/MethodHandle" ∧ yX12_isZone.cls ≠ "java/lang/invoke/VarHandle" ∧ (parseMethodDescriptor yX12_isZone.desc).map (fun d => d.parameters.length) = some 1 by decide +kernel) zs_blind (zs_ob hh ha (show RTg[11]? = some (0, 11, 0, fsX12) from rfl) (zCX12 hKn.1)) (fun U hU hW => ⟨rfl, by rw [hU]; exact hh.l0, zKb s U hW.alike hKn, by rw [hU]; exact fq3⟩) hh.2.2.1 hl.1 (Nat.le_of_ble_eq_true rfl) (eX12_local (3, .invokevirtual 221, 3) (List.mem_of_getElem? (i := 3) rfl)) (fun r1 s1 t1 lo1 g1 f1 l1 => ?_)
  obtain ⟨z1, v1, q1, e1⟩ := f1
  cases q1
  rw [z1, g1]
  have hh1 : zh_ok D cA RTg ro sz H0 s.heap lo1 := ⟨hh.1, hh.2.1, l1, hh.2.2.2⟩
  refine W.eq (g2 := F0 m 6 ls [.int v1, .ref a]) rfl ?_
  refine ff_if_eq hx hb (eX12_local (6, .ifCond .eq 30, 3) (List.mem_of_getElem? (i := 4) rfl)) (tgt := 36) rfl (fun c2 => ?_) (fun c2 => ?_)
  · skip
    refine ff_iconst hx hb (eX12_local (36, .iconst 1, 1) (List.mem_of_getElem? (i := 18) rfl)) (by decide) (by decide) (fun v3 e3 => ?_)
    refine lv_goto hx hb (eX12_local (37, .goto 4, 3) (List.mem_of_getElem? (i := 19) rfl)) (tgt := 41) rfl ?_
    refine tz_put (r := 11) (k := 0) (t := (0, 0, 2)) hx hb hD hh1 ha rfl rfl ((hcl11 85 0 (0, 0, 2) (by decide) rfl).2 (by decide)) (tz_i (by omega) (by omega)) (eX12_local (41, .putfield 85, 3) (List.mem_of_getElem? (i := 21) rfl)) (fun H4 lo4 hh4 hf4 hk4 _ hq4 => ?_)
    have mf4_a_2 := (hk4.1 a 11 2 11 0 fsX12 ha rfl (by decide) (by decide)).trans fq2
    have mf4_a_1 := (hk4.1 a 11 1 11 0 fsX12 ha rfl (by decide) (by decide)).trans fq1
    have mf4_a_3 := (hk4.1 a 11 3 11 0 fsX12 ha rfl (by decide) (by decide)).trans fq3
    have mf4_a_4 := (hk4.1 a 11 4 11 0 fsX12 ha rfl (by decide) (by decide)).trans fq4
    have mf4_a_5 := (hk4.1 a 11 5 11 0 fsX12 ha rfl (by decide) (by decide)).trans fq5
    have mf4_a_6 := (hk4.1 a 11 6 11 0 fsX12 ha rfl (by decide) (by decide)).trans fq6
    have mf4_a_7 := (hk4.1 a 11 7 11 0 fsX12 ha rfl (by decide) (by decide)).trans fq7
    have mf4_a_8 := (hk4.1 a 11 8 11 0 fsX12 ha rfl (by decide) (by decide)).trans fq8
    have mf4_a_9 := (hk4.1 a 11 9 11 0 fsX12 ha rfl (by decide) (by decide)).trans fq9
    have mf4_a_10 := (hk4.1 a 11 10 11 0 fsX12 ha rfl (by decide) (by decide)).trans fqA
    have mf4_a_11 := (hk4.1 a 11 11 11 0 fsX12 ha rfl (by decide) (by decide)).trans fqB
    have mc4_la := (hk4.2 la 21 0 1 40 _ r0 rfl (by decide)).trans hc
    have mc4_a4 := (hk4.2 a4 22 0 0 8 _ rq4 rfl (by decide)).trans cq4
    have mc4_a5 := (hk4.2 a5 23 0 0 8 _ rq5 rfl (by decide)).trans cq5
    have mc4_a6 := (hk4.2 a6 24 0 1 480 _ rq6 rfl (by decide)).trans cq6
    have mc4_a7 := (hk4.2 a7 25 0 0 480 _ rq7 rfl (by decide)).trans cq7
    have mc4_b8 := (hk4.2 b8 26 0 0 8 _ rq8 rfl (by decide)).trans cq8
    have mc4_b9 := (hk4.2 b9 27 0 0 8 _ rq9 rfl (by decide)).trans cq9
    have mc4_bA := (hk4.2 bA 28 0 0 8 _ rqA rfl (by decide)).trans cqA
    have mc4_bB := (hk4.2 bB 29 0 0 80 _ rqB rfl (by decide)).trans cqB
    have kp4 := kp0.trans (hk4.mono (ms' := yMr) (fun x hx => by cases List.mem_singleton.mp hx; decide))
    have jm4 := (hJ).kept ha hk4 (by decide)
    refine lv_aload_n hx hb (eX12_local (44, .aload_n 0, 1) (List.mem_of_getElem? (i := 22) rfl)) rfl (lv_at hl 0 rfl) ?_
    refine tz_get (r := 11) (k := 0) (t := (0, 0, 2)) hx hb hh4 ha rfl rfl (hcl11 85 0 (0, 0, 2) (by decide) rfl).1 hf4 (eX12_local (45, .getfield 85, 3) (List.mem_of_getElem? (i := 23) rfl)) ?_
    refine ff_if_le hx hb (eX12_local (48, .ifCond .le 5, 3) (List.mem_of_getElem? (i := 24) rfl)) (tgt := 53) rfl (fun c5 => (by exfalso; omega)) (fun c5 => ?_)
    refine ff_lconst hx hb (eX12_local (51, .lconst 0, 1) (List.mem_of_getElem? (i := 25) rfl)) rfl (fun v6 e6 => ?_)
    exact W.lret hx hb hr (fun t ht hW => ⟨_, _, _, L, (Z, R), rfl, ⟨_, rfl, rfl⟩, by rw [ht]; exact hh4.l0, by rw [ht]; exact kp4, by rw [ht]; exact hf4, by rw [ht]; exact jm4, rfl, rfl, Or.inl ⟨by omega, fun g => by have g1 := g.1; have g2 : zi.toInt < (Z.length : Int) := g.2.1; have g3 := g.2.2.1; have g4 := g.2.2.2.1; have g5 := g.2.2.2.2.1; have g6 := g.2.2.2.2.2; omega⟩⟩) hh4.2.2.1 (eX12_local (52, .lreturn, 1) (List.mem_of_getElem? (i := 26) rfl))
  · skip
    refine lv_iload hx hb (eX12_local (9, .iload 4, 2) (List.mem_of_getElem? (i := 5) rfl)) (lv_at hl 3 rfl) ?_
    refine ff_i2l hx hb (eX12_local (11, .i2l, 1) (List.mem_of_getElem? (i := 6) rfl)) (fun v7 e7 => ?_)
    refine ff_lconst hx hb (eX12_local (12, .lconst 0, 1) (List.mem_of_getElem? (i := 7) rfl)) rfl (fun v8 e8 => ?_)
    refine ff_ldc2 (n := 60) hx hb hown h2 (clX12_ok 178 60 (List.mem_of_getElem? (i := 20) rfl)) (eX12_local (13, .ldc2_w 178, 3) (List.mem_of_getElem? (i := 8) rfl)) (fun v9 e9 => ?_)
    refine zu_S (vs := [.long v7, .long v8, .long v9]) (rest := [.ref a]) hx hb hml hown hts0 zu_BT (hX12_isIn l v7 v8 v9) ⟨rfl, rfl⟩ ⟨by decide, by decide⟩ ⟨by decide, by decide⟩ (tb_7 47 rfl rfl) (tb_1 12 rfl rfl) (tb_7 45 rfl rfl) (tb_7 46 rfl rfl) (show yX12_isIn.cls ≠ "java/lang/invoke/MethodHandle" ∧ yX12_isIn.cls ≠ "java/lang/invoke/VarHandle" ∧ (parseMethodDescriptor yX12_isIn.desc).map (fun d => d.parameters.length) = some 3 by decide +kernel) rfl (fun _ _ _ => trivial) hl.1 (Nat.le_of_ble_eq_true rfl) (eX12_local (16, .invokestatic 130, 3) (List.mem_of_getElem? (i := 9) rfl)) (fun w10 f10 => ?_)
    obtain ⟨v10, rfl, e10⟩ := f10
    refine ff_if_eq hx hb (eX12_local (19, .ifCond .eq 17, 3) (List.mem_of_getElem? (i := 10) rfl)) (tgt := 36) rfl (fun c11 => ?_) (fun c11 => ?_)
    · skip
      refine ff_iconst hx hb (eX12_local (36, .iconst 1, 1) (List.mem_of_getElem? (i := 18) rfl)) (by decide) (by decide) (fun v12 e12 => ?_)
      refine lv_goto hx hb (eX12_local (37, .goto 4, 3) (List.mem_of_getElem? (i := 19) rfl)) (tgt := 41) rfl ?_
      refine tz_put (r := 11) (k := 0) (t := (0, 0, 2)) hx hb hD hh1 ha rfl rfl ((hcl11 85 0 (0, 0, 2) (by decide) rfl).2 (by decide)) (tz_i (by omega) (by omega)) (eX12_local (41, .putfield 85, 3) (List.mem_of_getElem? (i := 21) rfl)) (fun H13 lo13 hh13 hf13 hk13 _ hq13 => ?_)
      have mf13_a_2 := (hk13.1 a 11 2 11 0 fsX12 ha rfl (by decide) (by decide)).trans fq2
      have mf13_a_1 := (hk13.1 a 11 1 11 0 fsX12 ha rfl (by decide) (by decide)).trans fq1
      have mf13_a_3 := (hk13.1 a 11 3 11 0 fsX12 ha rfl (by decide) (by decide)).trans fq3
      have mf13_a_4 := (hk13.1 a 11 4 11 0 fsX12 ha rfl (by decide) (by decide)).trans fq4
      have mf13_a_5 := (hk13.1 a 11 5 11 0 fsX12 ha rfl (by decide) (by decide)).trans fq5
      have mf13_a_6 := (hk13.1 a 11 6 11 0 fsX12 ha rfl (by decide) (by decide)).trans fq6
      have mf13_a_7 := (hk13.1 a 11 7 11 0 fsX12 ha rfl (by decide) (by decide)).trans fq7
      have mf13_a_8 := (hk13.1 a 11 8 11 0 fsX12 ha rfl (by decide) (by decide)).trans fq8
      have mf13_a_9 := (hk13.1 a 11 9 11 0 fsX12 ha rfl (by decide) (by decide)).trans fq9
      have mf13_a_10 := (hk13.1 a 11 10 11 0 fsX12 ha rfl (by decide) (by decide)).trans fqA
      have mf13_a_11 := (hk13.1 a 11 11 11 0 fsX12 ha rfl (by decide) (by decide)).trans fqB
      have mc13_la := (hk13.2 la 21 0 1 40 _ r0 rfl (by decide)).trans hc
      have mc13_a4 := (hk13.2 a4 22 0 0 8 _ rq4 rfl (by decide)).trans cq4
      have mc13_a5 := (hk13.2 a5 23 0 0 8 _ rq5 rfl (by decide)).trans cq5
      have mc13_a6 := (hk13.2 a6 24 0 1 480 _ rq6 rfl (by decide)).trans cq6
      have mc13_a7 := (hk13.2 a7 25 0 0 480 _ rq7 rfl (by decide)).trans cq7
      have mc13_b8 := (hk13.2 b8 26 0 0 8 _ rq8 rfl (by decide)).trans cq8
      have mc13_b9 := (hk13.2 b9 27 0 0 8 _ rq9 rfl (by decide)).trans cq9
      have mc13_bA := (hk13.2 bA 28 0 0 8 _ rqA rfl (by decide)).trans cqA
      have mc13_bB := (hk13.2 bB 29 0 0 80 _ rqB rfl (by decide)).trans cqB
      have kp13 := kp0.trans (hk13.mono (ms' := yMr) (fun x hx => by cases List.mem_singleton.mp hx; decide))
      have jm13 := (hJ).kept ha hk13 (by decide)
      refine lv_aload_n hx hb (eX12_local (44, .aload_n 0, 1) (List.mem_of_getElem? (i := 22) rfl)) rfl (lv_at hl 0 rfl) ?_
      refine tz_get (r := 11) (k := 0) (t := (0, 0, 2)) hx hb hh13 ha rfl rfl (hcl11 85 0 (0, 0, 2) (by decide) rfl).1 hf13 (eX12_local (45, .getfield 85, 3) (List.mem_of_getElem? (i := 23) rfl)) ?_
      refine ff_if_le hx hb (eX12_local (48, .ifCond .le 5, 3) (List.mem_of_getElem? (i := 24) rfl)) (tgt := 53) rfl (fun c14 => (by exfalso; omega)) (fun c14 => ?_)
      refine ff_lconst hx hb (eX12_local (51, .lconst 0, 1) (List.mem_of_getElem? (i := 25) rfl)) rfl (fun v15 e15 => ?_)
      exact W.lret hx hb hr (fun t ht hW => ⟨_, _, _, L, (Z, R), rfl, ⟨_, rfl, rfl⟩, by rw [ht]; exact hh13.l0, by rw [ht]; exact kp13, by rw [ht]; exact hf13, by rw [ht]; exact jm13, rfl, rfl, Or.inl ⟨by omega, fun g => by have g1 := g.1; have g2 : zi.toInt < (Z.length : Int) := g.2.1; have g3 := g.2.2.1; have g4 := g.2.2.2.1; have g5 := g.2.2.2.2.1; have g6 := g.2.2.2.2.2; omega⟩⟩) hh13.2.2.1 (eX12_local (52, .lreturn, 1) (List.mem_of_getElem? (i := 26) rfl))
    · skip
      refine lv_iload hx hb (eX12_local (22, .iload 5, 2) (List.mem_of_getElem? (i := 11) rfl)) (lv_at hl 4 rfl) ?_
      refine ff_iconst hx hb (eX12_local (24, .iconst (-1), 1) (List.mem_of_getElem? (i := 12) rfl)) (by decide) (by decide) (fun v16 e16 => ?_)
      refine ff_icmp_lt hx hb (eX12_local (25, .if_icmp .lt 11, 3) (List.mem_of_getElem? (i := 13) rfl)) (tgt := 36) rfl (fun c17 => ?_) (fun c17 => ?_)
      · skip
        refine ff_iconst hx hb (eX12_local (36, .iconst 1, 1) (List.mem_of_getElem? (i := 18) rfl)) (by decide) (by decide) (fun v18 e18 => ?_)
        refine lv_goto hx hb (eX12_local (37, .goto 4, 3) (List.mem_of_getElem? (i := 19) rfl)) (tgt := 41) rfl ?_
        refine tz_put (r := 11) (k := 0) (t := (0, 0, 2)) hx hb hD hh1 ha rfl rfl ((hcl11 85 0 (0, 0, 2) (by decide) rfl).2 (by decide)) (tz_i (by omega) (by omega)) (eX12_local (41, .putfield 85, 3) (List.mem_of_getElem? (i := 21) rfl)) (fun H19 lo19 hh19 hf19 hk19 _ hq19 => ?_)
        have mf19_a_2 := (hk19.1 a 11 2 11 0 fsX12 ha rfl (by decide) (by decide)).trans fq2
        have mf19_a_1 := (hk19.1 a 11 1 11 0 fsX12 ha rfl (by decide) (by decide)).trans fq1
        have mf19_a_3 := (hk19.1 a 11 3 11 0 fsX12 ha rfl (by decide) (by decide)).trans fq3
        have mf19_a_4 := (hk19.1 a 11 4 11 0 fsX12 ha rfl (by decide) (by decide)).trans fq4
        have mf19_a_5 := (hk19.1 a 11 5 11 0 fsX12 ha rfl (by decide) (by decide)).trans fq5
        have mf19_a_6 := (hk19.1 a 11 6 11 0 fsX12 ha rfl (by decide) (by decide)).trans fq6
        have mf19_a_7 := (hk19.1 a 11 7 11 0 fsX12 ha rfl (by decide) (by decide)).trans fq7
        have mf19_a_8 := (hk19.1 a 11 8 11 0 fsX12 ha rfl (by decide) (by decide)).trans fq8
        have mf19_a_9 := (hk19.1 a 11 9 11 0 fsX12 ha rfl (by decide) (by decide)).trans fq9
        have mf19_a_10 := (hk19.1 a 11 10 11 0 fsX12 ha rfl (by decide) (by decide)).trans fqA
        have mf19_a_11 := (hk19.1 a 11 11 11 0 fsX12 ha rfl (by decide) (by decide)).trans fqB
        have mc19_la := (hk19.2 la 21 0 1 40 _ r0 rfl (by decide)).trans hc
        have mc19_a4 := (hk19.2 a4 22 0 0 8 _ rq4 rfl (by decide)).trans cq4
        have mc19_a5 := (hk19.2 a5 23 0 0 8 _ rq5 rfl (by decide)).trans cq5
        have mc19_a6 := (hk19.2 a6 24 0 1 480 _ rq6 rfl (by decide)).trans cq6
        have mc19_a7 := (hk19.2 a7 25 0 0 480 _ rq7 rfl (by decide)).trans cq7
        have mc19_b8 := (hk19.2 b8 26 0 0 8 _ rq8 rfl (by decide)).trans cq8
        have mc19_b9 := (hk19.2 b9 27 0 0 8 _ rq9 rfl (by decide)).trans cq9
        have mc19_bA := (hk19.2 bA 28 0 0 8 _ rqA rfl (by decide)).trans cqA
        have mc19_bB := (hk19.2 bB 29 0 0 80 _ rqB rfl (by decide)).trans cqB
        have kp19 := kp0.trans (hk19.mono (ms' := yMr) (fun x hx => by cases List.mem_singleton.mp hx; decide))
        have jm19 := (hJ).kept ha hk19 (by decide)
        refine lv_aload_n hx hb (eX12_local (44, .aload_n 0, 1) (List.mem_of_getElem? (i := 22) rfl)) rfl (lv_at hl 0 rfl) ?_
        refine tz_get (r := 11) (k := 0) (t := (0, 0, 2)) hx hb hh19 ha rfl rfl (hcl11 85 0 (0, 0, 2) (by decide) rfl).1 hf19 (eX12_local (45, .getfield 85, 3) (List.mem_of_getElem? (i := 23) rfl)) ?_
        refine ff_if_le hx hb (eX12_local (48, .ifCond .le 5, 3) (List.mem_of_getElem? (i := 24) rfl)) (tgt := 53) rfl (fun c20 => (by exfalso; omega)) (fun c20 => ?_)
        refine ff_lconst hx hb (eX12_local (51, .lconst 0, 1) (List.mem_of_getElem? (i := 25) rfl)) rfl (fun v21 e21 => ?_)
        exact W.lret hx hb hr (fun t ht hW => ⟨_, _, _, L, (Z, R), rfl, ⟨_, rfl, rfl⟩, by rw [ht]; exact hh19.l0, by rw [ht]; exact kp19, by rw [ht]; exact hf19, by rw [ht]; exact jm19, rfl, rfl, Or.inl ⟨by omega, fun g => by have g1 := g.1; have g2 : zi.toInt < (Z.length : Int) := g.2.1; have g3 := g.2.2.1; have g4 := g.2.2.2.1; have g5 := g.2.2.2.2.1; have g6 := g.2.2.2.2.2; omega⟩⟩) hh19.2.2.1 (eX12_local (52, .lreturn, 1) (List.mem_of_getElem? (i := 26) rfl))
      · skip
        refine lv_aload_n hx hb (eX12_local (28, .aload_n 0, 1) (List.mem_of_getElem? (i := 14) rfl)) rfl (lv_at hl 0 rfl) ?_
        refine lv_lload_n hx hb (eX12_local (29, .lload_n 2, 1) (List.mem_of_getElem? (i := 15) rfl)) rfl (lv_at hl 2 rfl) ?_
        refine tz_rowV (As := [.long m0]) (st := [.ref a]) (b := a) (C := RX12) (Ts := gT) hx hb hml hown h2 (fun _ h => h) (hX12_isMinute l D cA ro sz H0 a m0 L ha) ⟨rfl, rfl⟩ ⟨by decide, by decide⟩ ⟨by decide, by decide⟩ (tb_7 117 rfl rfl) (tb_1 12 rfl rfl) (tb_7 114 rfl rfl) (tb_7 116 rfl rfl) (tb_0 9 rfl rfl) (show yX12_isMinute.cls ≠ "java/lang/invoke/MethodHandle" ∧ yX12_isMinute.cls ≠ "java/lang/invoke/VarHandle" ∧ (parseMethodDescriptor yX12_isMinute.desc).map (fun d => d.parameters.length) = some 1 by decide +kernel) zs_blind (zs_ob hh1 ha (show RTg[11]? = some (0, 11, 0, fsX12) from rfl) (zCX12 hKn.1)) (fun U hU hW => ⟨rfl, by rw [hU]; exact hh1.l0, zKb s U hW.alike hKn, by rw [hU]; exact hjr⟩) hh1.2.2.1 hl.1 (Nat.le_of_ble_eq_true rfl) (eX12_local (30, .invokevirtual 201, 3) (List.mem_of_getElem? (i := 16) rfl)) (fun r22 s22 t22 lo22 g22 f22 l22 => ?_)
        obtain ⟨z22, v22, q22, e22⟩ := f22
        cases q22
        rw [z22, g22]
        have hh22 : zh_ok D cA RTg ro sz H0 s.heap lo22 := ⟨hh1.1, hh1.2.1, l22, hh1.2.2.2⟩
        refine W.eq (g2 := F0 m 33 ls [.int v22, .ref a]) rfl ?_
        refine ff_if_ne hx hb (eX12_local (33, .ifCond .ne 7, 3) (List.mem_of_getElem? (i := 17) rfl)) (tgt := 40) rfl (fun c23 => ?_) (fun c23 => ?_)
        · skip
          refine ff_iconst hx hb (eX12_local (40, .iconst 0, 1) (List.mem_of_getElem? (i := 20) rfl)) (by decide) (by decide) (fun v24 e24 => ?_)
          refine tz_put (r := 11) (k := 0) (t := (0, 0, 2)) hx hb hD hh22 ha rfl rfl ((hcl11 85 0 (0, 0, 2) (by decide) rfl).2 (by decide)) (tz_i (by omega) (by omega)) (eX12_local (41, .putfield 85, 3) (List.mem_of_getElem? (i := 21) rfl)) (fun H25 lo25 hh25 hf25 hk25 _ hq25 => ?_)
          have mf25_a_2 := (hk25.1 a 11 2 11 0 fsX12 ha rfl (by decide) (by decide)).trans fq2
          have mf25_a_1 := (hk25.1 a 11 1 11 0 fsX12 ha rfl (by decide) (by decide)).trans fq1
          have mf25_a_3 := (hk25.1 a 11 3 11 0 fsX12 ha rfl (by decide) (by decide)).trans fq3
          have mf25_a_4 := (hk25.1 a 11 4 11 0 fsX12 ha rfl (by decide) (by decide)).trans fq4
          have mf25_a_5 := (hk25.1 a 11 5 11 0 fsX12 ha rfl (by decide) (by decide)).trans fq5
          have mf25_a_6 := (hk25.1 a 11 6 11 0 fsX12 ha rfl (by decide) (by decide)).trans fq6
          have mf25_a_7 := (hk25.1 a 11 7 11 0 fsX12 ha rfl (by decide) (by decide)).trans fq7
          have mf25_a_8 := (hk25.1 a 11 8 11 0 fsX12 ha rfl (by decide) (by decide)).trans fq8
          have mf25_a_9 := (hk25.1 a 11 9 11 0 fsX12 ha rfl (by decide) (by decide)).trans fq9
          have mf25_a_10 := (hk25.1 a 11 10 11 0 fsX12 ha rfl (by decide) (by decide)).trans fqA
          have mf25_a_11 := (hk25.1 a 11 11 11 0 fsX12 ha rfl (by decide) (by decide)).trans fqB
          have mc25_la := (hk25.2 la 21 0 1 40 _ r0 rfl (by decide)).trans hc
          have mc25_a4 := (hk25.2 a4 22 0 0 8 _ rq4 rfl (by decide)).trans cq4
          have mc25_a5 := (hk25.2 a5 23 0 0 8 _ rq5 rfl (by decide)).trans cq5
          have mc25_a6 := (hk25.2 a6 24 0 1 480 _ rq6 rfl (by decide)).trans cq6
          have mc25_a7 := (hk25.2 a7 25 0 0 480 _ rq7 rfl (by decide)).trans cq7
          have mc25_b8 := (hk25.2 b8 26 0 0 8 _ rq8 rfl (by decide)).trans cq8
          have mc25_b9 := (hk25.2 b9 27 0 0 8 _ rq9 rfl (by decide)).trans cq9
          have mc25_bA := (hk25.2 bA 28 0 0 8 _ rqA rfl (by decide)).trans cqA
          have mc25_bB := (hk25.2 bB 29 0 0 80 _ rqB rfl (by decide)).trans cqB
          have kp25 := kp0.trans (hk25.mono (ms' := yMr) (fun x hx => by cases List.mem_singleton.mp hx; decide))
          have jm25 := (hJ).kept ha hk25 (by decide)
          refine lv_aload_n hx hb (eX12_local (44, .aload_n 0, 1) (List.mem_of_getElem? (i := 22) rfl)) rfl (lv_at hl 0 rfl) ?_
          refine tz_get (r := 11) (k := 0) (t := (0, 0, 2)) hx hb hh25 ha rfl rfl (hcl11 85 0 (0, 0, 2) (by decide) rfl).1 hf25 (eX12_local (45, .getfield 85, 3) (List.mem_of_getElem? (i := 23) rfl)) ?_
          refine ff_if_le hx hb (eX12_local (48, .ifCond .le 5, 3) (List.mem_of_getElem? (i := 24) rfl)) (tgt := 53) rfl (fun c26 => ?_) (fun c26 => (by exfalso; omega))
          have hmk : mOK m0.toInt := by rcases e22 with h | h; exact h.2; exfalso; omega
          have hlt : zi.toInt.toNat < Z.length := by omega
          obtain ⟨ze, hze⟩ : ∃ e9, Z[zi.toInt.toNat]? = some e9 := ⟨_, List.getElem?_eq_getElem hlt⟩
          obtain ⟨rr, hrr⟩ : ∃ e9, R[zi.toInt.toNat]? = some e9 := ⟨_, List.getElem?_eq_getElem (by omega)⟩
          have hwr := hrw rr (List.mem_of_getElem? hrr)
          have hle := hzw.2 ze (List.mem_of_getElem? hze)
          refine lv_aload_n hx hb (eX12_local (53, .aload_n 0, 1) (List.mem_of_getElem? (i := 27) rfl)) rfl (lv_at hl 0 rfl) ?_
          refine lv_iload_n hx hb (eX12_local (54, .iload_n 1, 1) (List.mem_of_getElem? (i := 28) rfl)) rfl (lv_at hl 1 rfl) ?_
          refine lv_lload_n hx hb (eX12_local (55, .lload_n 2, 1) (List.mem_of_getElem? (i := 29) rfl)) rfl (lv_at hl 2 rfl) ?_
          refine lv_iload hx hb (eX12_local (56, .iload 4, 2) (List.mem_of_getElem? (i := 30) rfl)) (lv_at hl 3 rfl) ?_
          refine tz_rowV (As := [.int zi, .long m0, .int s0]) (st := []) (b := a) (C := RX12) (Ts := gT) hx hb hml hown h2 (fun _ h => h) (hX12_locals l D cA ro sz H0 a zi m0 s0 L Z R zi.toInt.toNat ze rr ha (by omega) hze hrr (by unfold mOK at hmk; omega) (by unfold mOK at hmk; omega) (by omega) (by omega)) ⟨rfl, rfl⟩ ⟨by decide, by decide⟩ ⟨by decide, by decide⟩ (tb_7 186 rfl rfl) (tb_1 12 rfl rfl) (tb_7 183 rfl rfl) (tb_7 185 rfl rfl) (tb_0 19 rfl rfl) (show yX12_locals.cls ≠ "java/lang/invoke/MethodHandle" ∧ yX12_locals.cls ≠ "java/lang/invoke/VarHandle" ∧ (parseMethodDescriptor yX12_locals.desc).map (fun d => d.parameters.length) = some 3 by decide +kernel) zs_blind (zs_ob hh25 ha (show RTg[11]? = some (0, 11, 0, fsX12) from rfl) (zCX12 hKn.1)) (fun U hU hW => ⟨rfl, by rw [hU]; exact hh25.l0, zKb s U hW.alike hKn, by rw [hU]; exact jm25⟩) hh25.2.2.1 hl.1 (Nat.le_of_ble_eq_true rfl) (eX12_local (58, .invokevirtual 246, 3) (List.mem_of_getElem? (i := 31) rfl)) (fun r27 s27 t27 lo27 g27 f27 l27 => ?_)
          obtain ⟨v27, q27, e27, z27, c27, ⟨al, zl, fal, ral, cal, hjn⟩⟩ := f27
          cases q27
          rw [g27] at c27
          have hh27 : zh_ok D cA RTg ro sz H0 t27.heap lo27 := ⟨z27.1, z27.2.1, l27, z27.2.2.2⟩
          have kp27 := kp25.trans (c27.mono (ms' := yMr) (by decide))
          have jy27 := jm25.kept ha c27 (by decide)
          have f027 := (c27.1 a 11 0 11 0 fsX12 ha rfl (by decide) (by decide)).trans hf25
          have hcb := clF_len (L := L) (e := ze) (r := rr) (m := m0.toInt) (s := s0.toInt)
          have hol := ofsL_len (e := ze) (r := rr) hwr.1 hwr.2.1
          have hw2 := hwr.2.1
          generalize hcl : clF L ze rr m0.toInt s0.toInt = A at e27 hjn hcb
          refine W.eq (g2 := F0 m 61 ls [.int v27]) rfl ?_
          refine lv_istore hx hb (eX12_local (61, .istore 6, 2) (List.mem_of_getElem? (i := 32) rfl)) hl (by decide) rfl (fun ls28 hl28 => ?_)
          refine lv_iload hx hb (eX12_local (63, .iload 5, 2) (List.mem_of_getElem? (i := 33) rfl)) (lv_at hl28 5 rfl) ?_
          refine ff_iconst hx hb (eX12_local (65, .iconst (-1), 1) (List.mem_of_getElem? (i := 34) rfl)) (by decide) (by decide) (fun v29 e29 => ?_)
          refine ff_icmp_ne hx hb (eX12_local (66, .if_icmp .ne 9, 3) (List.mem_of_getElem? (i := 35) rfl)) (tgt := 75) rfl (fun c30 => ?_) (fun c30 => ?_)
          · skip
            refine lv_iload hx hb (eX12_local (75, .iload 5, 2) (List.mem_of_getElem? (i := 39) rfl)) (lv_at hl28 5 rfl) ?_
            refine lv_iload hx hb (eX12_local (77, .iload 6, 2) (List.mem_of_getElem? (i := 40) rfl)) (lv_at hl28 0 rfl) ?_
            refine ff_icmp_ge hx hb (eX12_local (79, .if_icmp .ge 13, 3) (List.mem_of_getElem? (i := 41) rfl)) (tgt := 92) rfl (fun c31 => ?_) (fun c31 => ?_)
            · skip
              refine ff_ldc2 (n := (-9223372036854775808)) hx hb hown h2 (clX12_ok 83 (-9223372036854775808) (List.mem_of_getElem? (i := 2) rfl)) (eX12_local (92, .ldc2_w 83, 3) (List.mem_of_getElem? (i := 47) rfl)) (fun v32 e32 => ?_)
              exact W.lret hx hb hr (fun t ht hW => ⟨_, _, _, L, (Z, R), rfl, ⟨_, rfl, rfl⟩, by rw [ht]; exact hh27.l0, by rw [ht]; exact kp27, by rw [ht]; exact f027, by rw [ht]; exact jy27, rfl, rfl, Or.inr ⟨by omega, ⟨by omega, by show _ < (Z.length : Int); omega, by omega, by omega, by omega, hmk⟩, ze, rr, hze, hrr, by rw [hcl]; first | (rw [loR_none (by omega) (by omega) (by omega)]; unfold NONEI; omega) | (unfold loR; rw [if_pos (by omega)]; omega)⟩⟩) hh27.2.2.1 (eX12_local (95, .lreturn, 1) (List.mem_of_getElem? (i := 48) rfl))
            · skip
              refine lv_aload_n hx hb (eX12_local (82, .aload_n 0, 1) (List.mem_of_getElem? (i := 42) rfl)) rfl (lv_at hl28 1 rfl) ?_
              refine tz_get (r := 11) (k := 25) (t := (70, 0, 0)) hx hb hh27 ha rfl rfl (hcl11 50 25 (70, 0, 0) (by decide) rfl).1 fal (eX12_local (83, .getfield 50, 3) (List.mem_of_getElem? (i := 43) rfl)) ?_
              refine lv_iload hx hb (eX12_local (86, .iload 5, 2) (List.mem_of_getElem? (i := 44) rfl)) (lv_at hl28 5 rfl) ?_
              obtain ⟨xv, hzx, hAx⟩ := hjn q0.toInt.toNat (by omega)
              refine tz_lald hx hb (zAr hKn.1 1 (by decide)) cal (by omega) (by omega) (eX12_local (88, .laload, 1) (List.mem_of_getElem? (i := 45) rfl)) ?_
              rw [show q0.toNatClampNeg = q0.toInt.toNat from rfl, hzx]
              refine lv_goto hx hb (eX12_local (89, .goto 6, 3) (List.mem_of_getElem? (i := 46) rfl)) (tgt := 95) rfl ?_
              exact W.lret hx hb hr (fun t ht hW => ⟨_, _, _, L, (Z, R), rfl, ⟨_, rfl, rfl⟩, by rw [ht]; exact hh27.l0, by rw [ht]; exact kp27, by rw [ht]; exact f027, by rw [ht]; exact jy27, rfl, rfl, Or.inr ⟨by omega, ⟨by omega, by show _ < (Z.length : Int); omega, by omega, by omega, by omega, hmk⟩, ze, rr, hze, hrr, by rw [hcl]; exact (loR_some (by omega) hAx).symm⟩⟩) hh27.2.2.1 (eX12_local (95, .lreturn, 1) (List.mem_of_getElem? (i := 48) rfl))
          · skip
            refine lv_iload hx hb (eX12_local (69, .iload 6, 2) (List.mem_of_getElem? (i := 36) rfl)) (lv_at hl28 0 rfl) ?_
            refine ff_i2l hx hb (eX12_local (71, .i2l, 1) (List.mem_of_getElem? (i := 37) rfl)) (fun v33 e33 => ?_)
            refine lv_goto hx hb (eX12_local (72, .goto 23, 3) (List.mem_of_getElem? (i := 38) rfl)) (tgt := 95) rfl ?_
            exact W.lret hx hb hr (fun t ht hW => ⟨_, _, _, L, (Z, R), rfl, ⟨_, rfl, rfl⟩, by rw [ht]; exact hh27.l0, by rw [ht]; exact kp27, by rw [ht]; exact f027, by rw [ht]; exact jy27, rfl, rfl, Or.inr ⟨by omega, ⟨by omega, by show _ < (Z.length : Int); omega, by omega, by omega, by omega, hmk⟩, ze, rr, hze, hrr, by rw [hcl]; first | (rw [loR_none (by omega) (by omega) (by omega)]; unfold NONEI; omega) | (unfold loR; rw [if_pos (by omega)]; omega)⟩⟩) hh27.2.2.1 (eX12_local (95, .lreturn, 1) (List.mem_of_getElem? (i := 48) rfl))
        · skip
          refine ff_iconst hx hb (eX12_local (36, .iconst 1, 1) (List.mem_of_getElem? (i := 18) rfl)) (by decide) (by decide) (fun v34 e34 => ?_)
          refine lv_goto hx hb (eX12_local (37, .goto 4, 3) (List.mem_of_getElem? (i := 19) rfl)) (tgt := 41) rfl ?_
          refine tz_put (r := 11) (k := 0) (t := (0, 0, 2)) hx hb hD hh22 ha rfl rfl ((hcl11 85 0 (0, 0, 2) (by decide) rfl).2 (by decide)) (tz_i (by omega) (by omega)) (eX12_local (41, .putfield 85, 3) (List.mem_of_getElem? (i := 21) rfl)) (fun H35 lo35 hh35 hf35 hk35 _ hq35 => ?_)
          have mf35_a_2 := (hk35.1 a 11 2 11 0 fsX12 ha rfl (by decide) (by decide)).trans fq2
          have mf35_a_1 := (hk35.1 a 11 1 11 0 fsX12 ha rfl (by decide) (by decide)).trans fq1
          have mf35_a_3 := (hk35.1 a 11 3 11 0 fsX12 ha rfl (by decide) (by decide)).trans fq3
          have mf35_a_4 := (hk35.1 a 11 4 11 0 fsX12 ha rfl (by decide) (by decide)).trans fq4
          have mf35_a_5 := (hk35.1 a 11 5 11 0 fsX12 ha rfl (by decide) (by decide)).trans fq5
          have mf35_a_6 := (hk35.1 a 11 6 11 0 fsX12 ha rfl (by decide) (by decide)).trans fq6
          have mf35_a_7 := (hk35.1 a 11 7 11 0 fsX12 ha rfl (by decide) (by decide)).trans fq7
          have mf35_a_8 := (hk35.1 a 11 8 11 0 fsX12 ha rfl (by decide) (by decide)).trans fq8
          have mf35_a_9 := (hk35.1 a 11 9 11 0 fsX12 ha rfl (by decide) (by decide)).trans fq9
          have mf35_a_10 := (hk35.1 a 11 10 11 0 fsX12 ha rfl (by decide) (by decide)).trans fqA
          have mf35_a_11 := (hk35.1 a 11 11 11 0 fsX12 ha rfl (by decide) (by decide)).trans fqB
          have mc35_la := (hk35.2 la 21 0 1 40 _ r0 rfl (by decide)).trans hc
          have mc35_a4 := (hk35.2 a4 22 0 0 8 _ rq4 rfl (by decide)).trans cq4
          have mc35_a5 := (hk35.2 a5 23 0 0 8 _ rq5 rfl (by decide)).trans cq5
          have mc35_a6 := (hk35.2 a6 24 0 1 480 _ rq6 rfl (by decide)).trans cq6
          have mc35_a7 := (hk35.2 a7 25 0 0 480 _ rq7 rfl (by decide)).trans cq7
          have mc35_b8 := (hk35.2 b8 26 0 0 8 _ rq8 rfl (by decide)).trans cq8
          have mc35_b9 := (hk35.2 b9 27 0 0 8 _ rq9 rfl (by decide)).trans cq9
          have mc35_bA := (hk35.2 bA 28 0 0 8 _ rqA rfl (by decide)).trans cqA
          have mc35_bB := (hk35.2 bB 29 0 0 80 _ rqB rfl (by decide)).trans cqB
          have kp35 := kp0.trans (hk35.mono (ms' := yMr) (fun x hx => by cases List.mem_singleton.mp hx; decide))
          have jm35 := (hJ).kept ha hk35 (by decide)
          refine lv_aload_n hx hb (eX12_local (44, .aload_n 0, 1) (List.mem_of_getElem? (i := 22) rfl)) rfl (lv_at hl 0 rfl) ?_
          refine tz_get (r := 11) (k := 0) (t := (0, 0, 2)) hx hb hh35 ha rfl rfl (hcl11 85 0 (0, 0, 2) (by decide) rfl).1 hf35 (eX12_local (45, .getfield 85, 3) (List.mem_of_getElem? (i := 23) rfl)) ?_
          refine ff_if_le hx hb (eX12_local (48, .ifCond .le 5, 3) (List.mem_of_getElem? (i := 24) rfl)) (tgt := 53) rfl (fun c36 => (by exfalso; omega)) (fun c36 => ?_)
          refine ff_lconst hx hb (eX12_local (51, .lconst 0, 1) (List.mem_of_getElem? (i := 25) rfl)) rfl (fun v37 e37 => ?_)
          exact W.lret hx hb hr (fun t ht hW => ⟨_, _, _, L, (Z, R), rfl, ⟨_, rfl, rfl⟩, by rw [ht]; exact hh35.l0, by rw [ht]; exact kp35, by rw [ht]; exact hf35, by rw [ht]; exact jm35, rfl, rfl, Or.inl ⟨by omega, fun g => by have g1 := g.1; have g2 : zi.toInt < (Z.length : Int) := g.2.1; have g3 := g.2.2.1; have g4 := g.2.2.2.1; have g5 := g.2.2.2.2.1; have g6 := g.2.2.2.2.2; rcases e22 with h | h; exfalso; omega; exact h.2 g6⟩⟩) hh35.2.2.1 (eX12_local (52, .lreturn, 1) (List.mem_of_getElem? (i := 26) rfl))
