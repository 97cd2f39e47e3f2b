set_option maxRecDepth 100000 in
set_option maxHeartbeats 4000000 in
theorem hX12_isNotBehind (l : Launch) (D : va_G) (cA : Nat → ClassId) (ro : Nat → Option Nat) (sz : Nat) (H0 : Heap) (a : Nat) (zi : Int32) (t0 : Int64) (k0 : Int64) (d0 : Int64) (te : Int64) (L : List Int) (Z : List zE) (R : List rU) (i0 : Nat) (ze : zE) (rr : rU) (ha : ro a = some 11) (hi0 : zi.toInt = (i0 : Int)) (hze : Z[i0]? = some ze) (hrr : R[i0]? = some rr) (hoA : oOK ze.1) (hoB : ∀ c ∈ ze.2, oOK c.2) (htk : tOK t0.toInt L) (hk1 : -2147483648 ≤ k0.toInt) (hk2 : k0.toInt ≤ 2147483647) (hd1 : -2147483648 ≤ d0.toInt) (hd2 : d0.toInt ≤ 2147483647) : Met l yX12_isNotBehind (gW yX12_isNotBehind cX12_isNotBehind 12 (some .boolean)) { frames := 10, cells := 0, slots := 0, locals := 298 } (zs_P D cA ro sz H0 (fun H => jRY D cA ro H a L (Z, R)) [.ref a, .int zi, .long t0, .long k0, .long d0, .long te]) (fun _ st oc t => ∃ r : Int32, oc = .returned (some (.int r)) ∧ ((r.toInt = 1 ∧ okG L ze rr t0.toInt te.toInt k0.toInt d0.toInt) ∨ (r.toInt = 0 ∧ ∃ y, goR L ze rr t0.toInt k0.toInt d0.toInt y ∧ (y = NONEI ∨ te.toInt < y))) ∧ zh_ok D cA RTg ro sz H0 t.heap [] ∧ zc_kept D RTg ro onM st.heap t.heap) 0 0 (zy_fr sz) := by
  refine zy_ofW (cc := cX12_isNotBehind) (maxL := 12) (ret := (some .boolean)) (by decide +kernel) rfl ?_
  intro p e s m args below meth c s1 B hml hv
  obtain ⟨rfl, hh, hKn, hJ⟩ := hv
  have hx := B.exec
  have hb := B.bytes
  have hr := B.returns
  have hlk := B.notSynchronized
  have hts0 := atoms_spec (ws := gW yX12_isNotBehind cX12_isNotBehind 12 (some .boolean)) B.pre
  have h2 : ∀ w ∈ gT, w.before ([.ref a, .int zi, .long t0, .long k0, .long d0, .long te] : List Value).toArray s = true := fun w hw => hts0 w (List.mem_cons_of_mem _ hw)
  have hown : s.vm.findClass RX12 = some m.cls := findClass_of_methodNamed B.named
  have hl := lv_entry [.ref a, .int zi, .long t0, .long k0, .long d0, .long te] (n := 12) (Nat.le_of_ble_eq_true rfl)
  rw [lg_entry_eq]
  generalize (lg_sl [.ref a, .int zi, .long t0, .long k0, .long d0, .long te] ++ List.replicate (12 - (lg_sl [.ref a, .int zi, .long t0, .long k0, .long d0, .long te]).length) Slot.unset).toArray = ls at hl ⊢
  have b_zi := zn_i32 zi
  have b_t0 := zn_i64 t0
  have b_k0 := zn_i64 k0
  have b_d0 := zn_i64 d0
  have b_te := zn_i64 te
  have hD := zD_all h2 hKn.1
  have hcl11 := fun (idx k : Nat) (t : zt_T) (h : (idx, 11, k) ∈ gfX12) (hk : fsX12[k]? = some t) => zf_clause (ro := ro) (ms := onM) h2 hown hKn.1 gfX12_ok (by decide +kernel) idx 11 k 11 0 fsX12 t h rfl hk
  have kp0 : zc_kept D RTg ro onM s.heap s.heap := zc_kept.refl

  refine lv_aload_n hx hb (eX12_isNotBehind (0, .aload_n 0, 1) (List.mem_of_getElem? (i := 0) rfl)) rfl (lv_at hl 0 rfl) ?_
  refine lv_iload_n hx hb (eX12_isNotBehind (1, .iload_n 1, 1) (List.mem_of_getElem? (i := 1) rfl)) rfl (lv_at hl 1 rfl) ?_
  refine lv_lload_n hx hb (eX12_isNotBehind (2, .lload_n 2, 1) (List.mem_of_getElem? (i := 2) rfl)) rfl (lv_at hl 2 rfl) ?_
  refine lv_lload hx hb (eX12_isNotBehind (3, .lload 4, 2) (List.mem_of_getElem? (i := 3) rfl)) (lv_at hl 3 rfl) ?_
  refine lv_lload hx hb (eX12_isNotBehind (5, .lload 6, 2) (List.mem_of_getElem? (i := 4) rfl)) (lv_at hl 4 rfl) ?_
  refine tz_rowV (As := [.int zi, .long t0, .long k0, .long d0]) (st := []) (b := a) (C := RX12) (Ts := gT) hx hb hml hown h2 (fun _ h => h) (hX12_on l D cA ro sz H0 a zi t0 k0 d0 L Z R i0 ze rr ha hi0 hze hrr hoA hoB htk (by omega) (by omega) (by omega) (by omega)) ⟨rfl, rfl⟩ ⟨by decide, by decide⟩ ⟨by decide, by decide⟩ (tb_7 219 rfl rfl) (tb_1 12 rfl rfl) (tb_7 216 rfl rfl) (tb_7 218 rfl rfl) (tb_0 25 rfl rfl) (show yX12_on.cls ≠ "java/lang/invoke/MethodHandle" ∧ yX12_on.cls ≠ "java/lang/invoke/VarHandle" ∧ (parseMethodDescriptor yX12_on.desc).map (fun d => d.parameters.length) = some 4 by decide +kernel) zs_blind (zs_ob hh ha (show RTg[11]? = some (0, 11, 0, fsX12) from rfl) (zCX12 hKn.1)) (fun U hU hW => ⟨rfl, by rw [hU]; exact hh.l0, zKb s U hW.alike hKn, by rw [hU]; exact hJ⟩) hh.2.2.1 hl.1 (Nat.le_of_ble_eq_true rfl) (eX12_isNotBehind (7, .invokevirtual 277, 3) (List.mem_of_getElem? (i := 5) rfl)) (fun r1 s1 t1 lo1 g1 f1 l1 => ?_)
  obtain ⟨v1, q1, e1, z1, c1⟩ := f1
  cases q1
  rw [g1] at c1
  have hh1 : zh_ok D cA RTg ro sz H0 t1.heap lo1 := ⟨z1.1, z1.2.1, l1, z1.2.2.2⟩
  have kp1 := kp0.trans (c1.mono (ms' := onM) (by decide))
  have jy1 := hJ.kept ha c1 (by decide)
  refine W.eq (g2 := F0 m 10 ls [.long v1]) rfl ?_
  refine lv_lstore hx hb (eX12_isNotBehind (10, .lstore 10, 2) (List.mem_of_getElem? (i := 6) rfl)) hl (by decide) rfl (fun ls2 hl2 => ?_)
  refine lv_lload hx hb (eX12_isNotBehind (12, .lload 10, 2) (List.mem_of_getElem? (i := 7) rfl)) (lv_at hl2 0 rfl) ?_
  refine ff_ldc2 (n := (-9223372036854775808)) hx hb hown h2 (clX12_ok 83 (-9223372036854775808) (List.mem_of_getElem? (i := 2) rfl)) (eX12_isNotBehind (14, .ldc2_w 83, 3) (List.mem_of_getElem? (i := 8) rfl)) (fun v3 e3 => ?_)
  refine ff_lcmp hx hb (eX12_isNotBehind (17, .lcmp, 1) (List.mem_of_getElem? (i := 9) rfl)) (fun v4 e4 => ?_)
  refine ff_if_eq hx hb (eX12_isNotBehind (18, .ifCond .eq 15, 3) (List.mem_of_getElem? (i := 10) rfl)) (tgt := 33) rfl (fun c5 => ?_) (fun c5 => ?_)
  · skip
    refine ff_iconst hx hb (eX12_isNotBehind (33, .iconst 0, 1) (List.mem_of_getElem? (i := 17) rfl)) (by decide) (by decide) (fun v6 e6 => ?_)
    exact W.zret hx hb hr (zn_bool (by omega) (by omega)) (fun t ht hW => ⟨_, rfl, Or.inr ⟨by omega, v1.toInt, e1, by unfold NONEI; omega⟩, by rw [ht]; exact hh1.l0, by rw [ht]; exact kp1⟩) hh1.2.2.1 (eX12_isNotBehind (34, .ireturn, 1) (List.mem_of_getElem? (i := 18) rfl))
  · skip
    refine lv_lload hx hb (eX12_isNotBehind (21, .lload 10, 2) (List.mem_of_getElem? (i := 11) rfl)) (lv_at hl2 0 rfl) ?_
    refine lv_lload hx hb (eX12_isNotBehind (23, .lload 8, 2) (List.mem_of_getElem? (i := 12) rfl)) (lv_at hl2 6 rfl) ?_
    refine ff_lcmp hx hb (eX12_isNotBehind (25, .lcmp, 1) (List.mem_of_getElem? (i := 13) rfl)) (fun v7 e7 => ?_)
    refine ff_if_gt hx hb (eX12_isNotBehind (26, .ifCond .gt 7, 3) (List.mem_of_getElem? (i := 14) rfl)) (tgt := 33) rfl (fun c8 => ?_) (fun c8 => ?_)
    · skip
      refine ff_iconst hx hb (eX12_isNotBehind (33, .iconst 0, 1) (List.mem_of_getElem? (i := 17) rfl)) (by decide) (by decide) (fun v9 e9 => ?_)
      exact W.zret hx hb hr (zn_bool (by omega) (by omega)) (fun t ht hW => ⟨_, rfl, Or.inr ⟨by omega, v1.toInt, e1, by unfold NONEI; omega⟩, by rw [ht]; exact hh1.l0, by rw [ht]; exact kp1⟩) hh1.2.2.1 (eX12_isNotBehind (34, .ireturn, 1) (List.mem_of_getElem? (i := 18) rfl))
    · skip
      refine ff_iconst hx hb (eX12_isNotBehind (29, .iconst 1, 1) (List.mem_of_getElem? (i := 15) rfl)) (by decide) (by decide) (fun v10 e10 => ?_)
      refine lv_goto hx hb (eX12_isNotBehind (30, .goto 4, 3) (List.mem_of_getElem? (i := 16) rfl)) (tgt := 34) rfl ?_
      exact W.zret hx hb hr (zn_bool (by omega) (by omega)) (fun t ht hW => ⟨_, rfl, Or.inl ⟨by omega, v1.toInt, e1, by unfold NONEI; omega, by omega⟩, by rw [ht]; exact hh1.l0, by rw [ht]; exact kp1⟩) hh1.2.2.1 (eX12_isNotBehind (34, .ireturn, 1) (List.mem_of_getElem? (i := 18) rfl))
set_option maxRecDepth 100000 in
set_option maxHeartbeats 4000000 in
theorem hX12_between (l : Launch) (D : va_G) (cA : Nat → ClassId) (ro : Nat → Option Nat) (sz : Nat) (H0 : Heap) (a : Nat) (zi : Int32) (t0 : Int64) (te : Int64) (w0 : Int32) (L : List Int) (Z : List zE) (R : List rU) (ha : ro a = some 11) (hzp : zP Z) : Met l yX12_between (gW yX12_between cX12_between 11 (some .long)) { frames := 11, cells := 0, slots := 0, locals := 329 } (zs_P D cA ro sz H0 (fun H => jRY D cA ro H a L (Z, R)) [.ref a, .int zi, .long t0, .long te, .int w0]) (yy_QR D cA ro sz H0 a vL (spBY zi.toInt t0.toInt te.toInt w0.toInt L (Z, R))) 0 0 (zy_fr sz) := by
  refine zy_ofW (cc := cX12_between) (maxL := 11) (ret := (some .long)) (by decide +kernel) rfl ?_
  intro p e s m args below meth c s1 B hml hv
  obtain ⟨rfl, hh, hKn, hJ⟩ := hv
  have hx := B.exec
  have hb := B.bytes
  have hr := B.returns
  have hlk := B.notSynchronized
  have hts0 := atoms_spec (ws := gW yX12_between cX12_between 11 (some .long)) B.pre
  have h2 : ∀ w ∈ gT, w.before ([.ref a, .int zi, .long t0, .long te, .int w0] : List Value).toArray s = true := fun w hw => hts0 w (List.mem_cons_of_mem _ hw)
  have hown : s.vm.findClass RX12 = some m.cls := findClass_of_methodNamed B.named
  have hl := lv_entry [.ref a, .int zi, .long t0, .long te, .int w0] (n := 11) (Nat.le_of_ble_eq_true rfl)
  rw [lg_entry_eq]
  generalize (lg_sl [.ref a, .int zi, .long t0, .long te, .int w0] ++ List.replicate (11 - (lg_sl [.ref a, .int zi, .long t0, .long te, .int w0]).length) Slot.unset).toArray = ls at hl ⊢
  have b_zi := zn_i32 zi
  have b_t0 := zn_i64 t0
  have b_te := zn_i64 te
  have b_w0 := zn_i32 w0
  have hD := zD_all h2 hKn.1
  have hcl11 := fun (idx k : Nat) (t : zt_T) (h : (idx, 11, k) ∈ gfX12) (hk : fsX12[k]? = some t) => zf_clause (ro := ro) (ms := yMr) h2 hown hKn.1 gfX12_ok (by decide +kernel) idx 11 k 11 0 fsX12 t h rfl hk
  have kp0 : zc_kept D RTg ro yMr s.heap s.heap := zc_kept.refl
  obtain ⟨hJz, hJq, hRl, hsr⟩ := id hJ
  have hJz : jRZ D cA ro s.heap a L Z := hJz
  have hJq : jRQ D cA ro s.heap a R := hJq
  have hRl : R.length = Z.length := hRl
  have hsr : ∀ e ∈ Z, srt e.2 := hsr
  obtain ⟨⟨la, n, z, fq2, r0, fq1, hn, hc, hz⟩, ⟨a4, a5, a6, a7, zq4, zq5, zq6, zq7, nz, ⟨fq4, rq4, cq4⟩, ⟨fq5, rq5, cq5⟩, ⟨fq6, rq6, cq6⟩, ⟨fq7, rq7, cq7⟩, fq3, hnz, hp⟩, hjl, hzw⟩ := id hJz
  have hjr := hJz.1
  have hjL := hjl.2.1
  have hzw1 := hzw.1
  obtain ⟨n9, g9, n1, n2⟩ := zh_fT (k := 1) (t := (0, 0, 40)) hh ha (show RTg[11]? = some (0, 11, 0, fsX12) from rfl) rfl
  cases fq1.symm.trans g9
  dsimp only at n1 n2
  clear g9
  obtain ⟨n9, g9, nz1, nz2⟩ := zh_fT (k := 3) (t := (0, 0, 8)) hh ha (show RTg[11]? = some (0, 11, 0, fsX12) from rfl) rfl
  cases fq3.symm.trans g9
  dsimp only at nz1 nz2
  clear g9
  obtain ⟨-, xla, dla, hla⟩ := zh_arr hh r0 (show RTg[21]? = some (1, 1, 40, [(1, (-9223372036854775808), 9223372036854775807)]) from rfl)
  have hyla : ∀ i, i < 40 → zt_ok ro (z i) (1, (-9223372036854775808), 9223372036854775807) := zs_arr (hc.symm.trans dla) hla
  obtain ⟨-, xa4, da4, ha4⟩ := zh_arr hh rq4 (show RTg[22]? = some (1, 0, 8, [(0, (-1439), 1439)]) from rfl)
  have hya4 : ∀ i, i < 8 → zt_ok ro (zq4 i) (0, (-1439), 1439) := zs_arr (cq4.symm.trans da4) ha4
  obtain ⟨-, xa5, da5, ha5⟩ := zh_arr hh rq5 (show RTg[23]? = some (1, 0, 8, [(0, 0, 60)]) from rfl)
  have hya5 : ∀ i, i < 8 → zt_ok ro (zq5 i) (0, 0, 60) := zs_arr (cq5.symm.trans da5) ha5
  obtain ⟨-, xa6, da6, ha6⟩ := zh_arr hh rq6 (show RTg[24]? = some (1, 1, 480, [(1, (-100000000000000), 100000000000000)]) from rfl)
  have hya6 : ∀ i, i < 480 → zt_ok ro (zq6 i) (1, (-100000000000000), 100000000000000) := zs_arr (cq6.symm.trans da6) ha6
  obtain ⟨-, xa7, da7, ha7⟩ := zh_arr hh rq7 (show RTg[25]? = some (1, 0, 480, [(0, (-1439), 1439)]) from rfl)
  have hya7 : ∀ i, i < 480 → zt_ok ro (zq7 i) (0, (-1439), 1439) := zs_arr (cq7.symm.trans da7) ha7
  obtain ⟨b8, b9, bA, bB, z8, z9, zA, zB, ⟨fq8, rq8, cq8⟩, ⟨fq9, rq9, cq9⟩, ⟨fqA, rqA, cqA⟩, ⟨fqB, rqB, cqB⟩, hrp, hrw⟩ := id hJq
  obtain ⟨-, xb8, db8, hb8⟩ := zh_arr hh rq8 (show RTg[26]? = some (1, 0, 8, [(0, 0, 2)]) from rfl)
  have hyb8 : ∀ i, i < 8 → zt_ok ro (z8 i) (0, 0, 2) := zs_arr (cq8.symm.trans db8) hb8
  obtain ⟨-, xb9, db9, hb9⟩ := zh_arr hh rq9 (show RTg[27]? = some (1, 0, 8, [(0, (-1000000), 1000000)]) from rfl)
  have hyb9 : ∀ i, i < 8 → zt_ok ro (z9 i) (0, (-1000000), 1000000) := zs_arr (cq9.symm.trans db9) hb9
  obtain ⟨-, xbA, dbA, hbA⟩ := zh_arr hh rqA (show RTg[28]? = some (1, 0, 8, [(0, (-1000000), 1000000)]) from rfl)
  have hybA : ∀ i, i < 8 → zt_ok ro (zA i) (0, (-1000000), 1000000) := zs_arr (cqA.symm.trans dbA) hbA
  obtain ⟨-, xbB, dbB, hbB⟩ := zh_arr hh rqB (show RTg[29]? = some (1, 0, 80, [(0, (-1000000), 1000000)]) from rfl)
  have hybB : ∀ i, i < 80 → zt_ok ro (zB i) (0, (-1000000), 1000000) := zs_arr (cqB.symm.trans dbB) hbB
  refine lv_aload_n hx hb (eX12_between (0, .aload_n 0, 1) (List.mem_of_getElem? (i := 0) rfl)) rfl (lv_at hl 0 rfl) ?_
  refine lv_aload_n hx hb (eX12_between (1, .aload_n 0, 1) (List.mem_of_getElem? (i := 1) rfl)) rfl (lv_at hl 0 rfl) ?_
  refine lv_iload_n hx hb (eX12_between (2, .iload_n 1, 1) (List.mem_of_getElem? (i := 2) rfl)) rfl (lv_at hl 1 rfl) ?_
  refine tz_rowV (As := [.int zi]) (st := [.ref a]) (b := a) (C := RX12) (Ts := gT) hx hb hml hown h2 (fun _ h => h) (hX12_isZone l D cA ro sz H0 a zi nz ha) ⟨rfl, rfl⟩ ⟨by decide, by decide⟩ ⟨by decide, by decide⟩ (tb_7 162 rfl rfl) (tb_1 12 rfl rfl) (tb_7 159 rfl rfl) (tb_7 161 rfl rfl) (tb_0 15 rfl rfl) (show yX12_isZone.cls ≠ "java/lang/invoke/MethodHandle" ∧ yX12_isZone.cls ≠ "java/lang/invoke/VarHandle" ∧ (parseMethodDescriptor yX12_isZone.desc).map (fun d => d.parameters.length) = some 1 by decide +kernel) zs_blind (zs_ob hh ha (show RTg[11]? = some (0, 11, 0, fsX12) from rfl) (zCX12 hKn.1)) (fun U hU hW => ⟨rfl, by rw [hU]; exact hh.l0, zKb s U hW.alike hKn, by rw [hU]; exact fq3⟩) hh.2.2.1 hl.1 (Nat.le_of_ble_eq_true rfl) (eX12_between (3, .invokevirtual 221, 3) (List.mem_of_getElem? (i := 3) rfl)) (fun r1 s1 t1 lo1 g1 f1 l1 => ?_)
  obtain ⟨z1, v1, q1, e1⟩ := f1
  cases q1
  rw [z1, g1]
  have hh1 : zh_ok D cA RTg ro sz H0 s.heap lo1 := ⟨hh.1, hh.2.1, l1, hh.2.2.2⟩
  refine W.eq (g2 := F0 m 6 ls [.int v1, .ref a]) rfl ?_
  refine ff_if_eq hx hb (eX12_between (6, .ifCond .eq 51, 3) (List.mem_of_getElem? (i := 4) rfl)) (tgt := 57) rfl (fun c2 => ?_) (fun c2 => ?_)
  · skip
    refine ff_iconst hx hb (eX12_between (57, .iconst 1, 1) (List.mem_of_getElem? (i := 29) rfl)) (by decide) (by decide) (fun v3 e3 => ?_)
    refine lv_goto hx hb (eX12_between (58, .goto 4, 3) (List.mem_of_getElem? (i := 30) rfl)) (tgt := 62) rfl ?_
    refine tz_put (r := 11) (k := 0) (t := (0, 0, 2)) hx hb hD hh1 ha rfl rfl ((hcl11 85 0 (0, 0, 2) (by decide) rfl).2 (by decide)) (tz_i (by omega) (by omega)) (eX12_between (62, .putfield 85, 3) (List.mem_of_getElem? (i := 32) rfl)) (fun H4 lo4 hh4 hf4 hk4 _ hq4 => ?_)
    have mf4_a_2 := (hk4.1 a 11 2 11 0 fsX12 ha rfl (by decide) (by decide)).trans fq2
    have mf4_a_1 := (hk4.1 a 11 1 11 0 fsX12 ha rfl (by decide) (by decide)).trans fq1
    have mf4_a_3 := (hk4.1 a 11 3 11 0 fsX12 ha rfl (by decide) (by decide)).trans fq3
    have mf4_a_4 := (hk4.1 a 11 4 11 0 fsX12 ha rfl (by decide) (by decide)).trans fq4
    have mf4_a_5 := (hk4.1 a 11 5 11 0 fsX12 ha rfl (by decide) (by decide)).trans fq5
    have mf4_a_6 := (hk4.1 a 11 6 11 0 fsX12 ha rfl (by decide) (by decide)).trans fq6
    have mf4_a_7 := (hk4.1 a 11 7 11 0 fsX12 ha rfl (by decide) (by decide)).trans fq7
    have mf4_a_8 := (hk4.1 a 11 8 11 0 fsX12 ha rfl (by decide) (by decide)).trans fq8
    have mf4_a_9 := (hk4.1 a 11 9 11 0 fsX12 ha rfl (by decide) (by decide)).trans fq9
    have mf4_a_10 := (hk4.1 a 11 10 11 0 fsX12 ha rfl (by decide) (by decide)).trans fqA
    have mf4_a_11 := (hk4.1 a 11 11 11 0 fsX12 ha rfl (by decide) (by decide)).trans fqB
    have mc4_la := (hk4.2 la 21 0 1 40 _ r0 rfl (by decide)).trans hc
    have mc4_a4 := (hk4.2 a4 22 0 0 8 _ rq4 rfl (by decide)).trans cq4
    have mc4_a5 := (hk4.2 a5 23 0 0 8 _ rq5 rfl (by decide)).trans cq5
    have mc4_a6 := (hk4.2 a6 24 0 1 480 _ rq6 rfl (by decide)).trans cq6
    have mc4_a7 := (hk4.2 a7 25 0 0 480 _ rq7 rfl (by decide)).trans cq7
    have mc4_b8 := (hk4.2 b8 26 0 0 8 _ rq8 rfl (by decide)).trans cq8
    have mc4_b9 := (hk4.2 b9 27 0 0 8 _ rq9 rfl (by decide)).trans cq9
    have mc4_bA := (hk4.2 bA 28 0 0 8 _ rqA rfl (by decide)).trans cqA
    have mc4_bB := (hk4.2 bB 29 0 0 80 _ rqB rfl (by decide)).trans cqB
    have kp4 := kp0.trans (hk4.mono (ms' := yMr) (fun x hx => by cases List.mem_singleton.mp hx; decide))
    have jy4 := hJ.kept ha hk4 (by decide)
    refine lv_aload_n hx hb (eX12_between (65, .aload_n 0, 1) (List.mem_of_getElem? (i := 33) rfl)) rfl (lv_at hl 0 rfl) ?_
    refine tz_get (r := 11) (k := 0) (t := (0, 0, 2)) hx hb hh4 ha rfl rfl (hcl11 85 0 (0, 0, 2) (by decide) rfl).1 hf4 (eX12_between (66, .getfield 85, 3) (List.mem_of_getElem? (i := 34) rfl)) ?_
    refine ff_if_le hx hb (eX12_between (69, .ifCond .le 5, 3) (List.mem_of_getElem? (i := 35) rfl)) (tgt := 74) rfl (fun c5 => (by exfalso; omega)) (fun c5 => ?_)
    refine ff_lconst hx hb (eX12_between (72, .lconst 0, 1) (List.mem_of_getElem? (i := 36) rfl)) rfl (fun v6 e6 => ?_)
    exact W.lret hx hb hr (fun t ht hW => ⟨_, _, _, L, (Z, R), rfl, ⟨_, rfl, rfl⟩, by rw [ht]; exact hh4.l0, by rw [ht]; exact kp4, by rw [ht]; exact hf4, by rw [ht]; exact jy4, rfl, rfl, Or.inl ⟨by omega, fun g => by have g1 := g.1; have g2 : zi.toInt < (Z.length : Int) := g.2.1; have g3 := g.2.2.1; have g4 := g.2.2.2.1; have g5 := g.2.2.2.2.1; have g6 := g.2.2.2.2.2.1; have g7 := g.2.2.2.2.2.2.1; have g8 := g.2.2.2.2.2.2.2.1; first | omega⟩⟩) hh4.2.2.1 (eX12_between (73, .lreturn, 1) (List.mem_of_getElem? (i := 37) rfl))
  · skip
    refine lv_aload_n hx hb (eX12_between (9, .aload_n 0, 1) (List.mem_of_getElem? (i := 5) rfl)) rfl (lv_at hl 0 rfl) ?_
    refine lv_lload_n hx hb (eX12_between (10, .lload_n 2, 1) (List.mem_of_getElem? (i := 6) rfl)) rfl (lv_at hl 2 rfl) ?_
    refine tz_rowV (As := [.long t0]) (st := [.ref a]) (b := a) (C := RX12) (Ts := gT) hx hb hml hown h2 (fun _ h => h) (hX12_isInstant l D cA ro sz H0 a t0 L ha) ⟨rfl, rfl⟩ ⟨by decide, by decide⟩ ⟨by decide, by decide⟩ (tb_7 141 rfl rfl) (tb_1 12 rfl rfl) (tb_7 138 rfl rfl) (tb_7 140 rfl rfl) (tb_0 13 rfl rfl) (show yX12_isInstant.cls ≠ "java/lang/invoke/MethodHandle" ∧ yX12_isInstant.cls ≠ "java/lang/invoke/VarHandle" ∧ (parseMethodDescriptor yX12_isInstant.desc).map (fun d => d.parameters.length) = some 1 by decide +kernel) zs_blind (zs_ob hh1 ha (show RTg[11]? = some (0, 11, 0, fsX12) from rfl) (zCX12 hKn.1)) (fun U hU hW => ⟨rfl, by rw [hU]; exact hh1.l0, zKb s U hW.alike hKn, by rw [hU]; exact hjr⟩) hh1.2.2.1 hl.1 (Nat.le_of_ble_eq_true rfl) (eX12_between (11, .invokevirtual 207, 3) (List.mem_of_getElem? (i := 7) rfl)) (fun r7 s7 t7 lo7 g7 f7 l7 => ?_)
    obtain ⟨z7, v7, q7, e7⟩ := f7
    cases q7
    rw [z7, g7]
    have hh7 : zh_ok D cA RTg ro sz H0 s.heap lo7 := ⟨hh1.1, hh1.2.1, l7, hh1.2.2.2⟩
    refine W.eq (g2 := F0 m 14 ls [.int v7, .ref a]) rfl ?_
    refine ff_if_eq hx hb (eX12_between (14, .ifCond .eq 43, 3) (List.mem_of_getElem? (i := 8) rfl)) (tgt := 57) rfl (fun c8 => ?_) (fun c8 => ?_)
    · skip
      refine ff_iconst hx hb (eX12_between (57, .iconst 1, 1) (List.mem_of_getElem? (i := 29) rfl)) (by decide) (by decide) (fun v9 e9 => ?_)
      refine lv_goto hx hb (eX12_between (58, .goto 4, 3) (List.mem_of_getElem? (i := 30) rfl)) (tgt := 62) rfl ?_
      refine tz_put (r := 11) (k := 0) (t := (0, 0, 2)) hx hb hD hh7 ha rfl rfl ((hcl11 85 0 (0, 0, 2) (by decide) rfl).2 (by decide)) (tz_i (by omega) (by omega)) (eX12_between (62, .putfield 85, 3) (List.mem_of_getElem? (i := 32) rfl)) (fun H10 lo10 hh10 hf10 hk10 _ hq10 => ?_)
      have mf10_a_2 := (hk10.1 a 11 2 11 0 fsX12 ha rfl (by decide) (by decide)).trans fq2
      have mf10_a_1 := (hk10.1 a 11 1 11 0 fsX12 ha rfl (by decide) (by decide)).trans fq1
      have mf10_a_3 := (hk10.1 a 11 3 11 0 fsX12 ha rfl (by decide) (by decide)).trans fq3
      have mf10_a_4 := (hk10.1 a 11 4 11 0 fsX12 ha rfl (by decide) (by decide)).trans fq4
      have mf10_a_5 := (hk10.1 a 11 5 11 0 fsX12 ha rfl (by decide) (by decide)).trans fq5
      have mf10_a_6 := (hk10.1 a 11 6 11 0 fsX12 ha rfl (by decide) (by decide)).trans fq6
      have mf10_a_7 := (hk10.1 a 11 7 11 0 fsX12 ha rfl (by decide) (by decide)).trans fq7
      have mf10_a_8 := (hk10.1 a 11 8 11 0 fsX12 ha rfl (by decide) (by decide)).trans fq8
      have mf10_a_9 := (hk10.1 a 11 9 11 0 fsX12 ha rfl (by decide) (by decide)).trans fq9
      have mf10_a_10 := (hk10.1 a 11 10 11 0 fsX12 ha rfl (by decide) (by decide)).trans fqA
      have mf10_a_11 := (hk10.1 a 11 11 11 0 fsX12 ha rfl (by decide) (by decide)).trans fqB
      have mc10_la := (hk10.2 la 21 0 1 40 _ r0 rfl (by decide)).trans hc
      have mc10_a4 := (hk10.2 a4 22 0 0 8 _ rq4 rfl (by decide)).trans cq4
      have mc10_a5 := (hk10.2 a5 23 0 0 8 _ rq5 rfl (by decide)).trans cq5
      have mc10_a6 := (hk10.2 a6 24 0 1 480 _ rq6 rfl (by decide)).trans cq6
      have mc10_a7 := (hk10.2 a7 25 0 0 480 _ rq7 rfl (by decide)).trans cq7
      have mc10_b8 := (hk10.2 b8 26 0 0 8 _ rq8 rfl (by decide)).trans cq8
      have mc10_b9 := (hk10.2 b9 27 0 0 8 _ rq9 rfl (by decide)).trans cq9
      have mc10_bA := (hk10.2 bA 28 0 0 8 _ rqA rfl (by decide)).trans cqA
      have mc10_bB := (hk10.2 bB 29 0 0 80 _ rqB rfl (by decide)).trans cqB
      have kp10 := kp0.trans (hk10.mono (ms' := yMr) (fun x hx => by cases List.mem_singleton.mp hx; decide))
      have jy10 := hJ.kept ha hk10 (by decide)
      refine lv_aload_n hx hb (eX12_between (65, .aload_n 0, 1) (List.mem_of_getElem? (i := 33) rfl)) rfl (lv_at hl 0 rfl) ?_
      refine tz_get (r := 11) (k := 0) (t := (0, 0, 2)) hx hb hh10 ha rfl rfl (hcl11 85 0 (0, 0, 2) (by decide) rfl).1 hf10 (eX12_between (66, .getfield 85, 3) (List.mem_of_getElem? (i := 34) rfl)) ?_
      refine ff_if_le hx hb (eX12_between (69, .ifCond .le 5, 3) (List.mem_of_getElem? (i := 35) rfl)) (tgt := 74) rfl (fun c11 => (by exfalso; omega)) (fun c11 => ?_)
      refine ff_lconst hx hb (eX12_between (72, .lconst 0, 1) (List.mem_of_getElem? (i := 36) rfl)) rfl (fun v12 e12 => ?_)
      exact W.lret hx hb hr (fun t ht hW => ⟨_, _, _, L, (Z, R), rfl, ⟨_, rfl, rfl⟩, by rw [ht]; exact hh10.l0, by rw [ht]; exact kp10, by rw [ht]; exact hf10, by rw [ht]; exact jy10, rfl, rfl, Or.inl ⟨by omega, fun g => by have g1 := g.1; have g2 : zi.toInt < (Z.length : Int) := g.2.1; have g3 := g.2.2.1; have g4 := g.2.2.2.1; have g5 := g.2.2.2.2.1; have g6 := g.2.2.2.2.2.1; have g7 := g.2.2.2.2.2.2.1; have g8 := g.2.2.2.2.2.2.2.1; first | omega | (rcases e7 with h | h; (exfalso; omega); exact h.2 g3)⟩⟩) hh10.2.2.1 (eX12_between (73, .lreturn, 1) (List.mem_of_getElem? (i := 37) rfl))
    · skip
      refine lv_aload_n hx hb (eX12_between (17, .aload_n 0, 1) (List.mem_of_getElem? (i := 9) rfl)) rfl (lv_at hl 0 rfl) ?_
      refine lv_lload hx hb (eX12_between (18, .lload 4, 2) (List.mem_of_getElem? (i := 10) rfl)) (lv_at hl 3 rfl) ?_
      refine tz_rowV (As := [.long te]) (st := [.ref a]) (b := a) (C := RX12) (Ts := gT) hx hb hml hown h2 (fun _ h => h) (hX12_isInstant l D cA ro sz H0 a te L ha) ⟨rfl, rfl⟩ ⟨by decide, by decide⟩ ⟨by decide, by decide⟩ (tb_7 141 rfl rfl) (tb_1 12 rfl rfl) (tb_7 138 rfl rfl) (tb_7 140 rfl rfl) (tb_0 13 rfl rfl) (show yX12_isInstant.cls ≠ "java/lang/invoke/MethodHandle" ∧ yX12_isInstant.cls ≠ "java/lang/invoke/VarHandle" ∧ (parseMethodDescriptor yX12_isInstant.desc).map (fun d => d.parameters.length) = some 1 by decide +kernel) zs_blind (zs_ob hh7 ha (show RTg[11]? = some (0, 11, 0, fsX12) from rfl) (zCX12 hKn.1)) (fun U hU hW => ⟨rfl, by rw [hU]; exact hh7.l0, zKb s U hW.alike hKn, by rw [hU]; exact hjr⟩) hh7.2.2.1 hl.1 (Nat.le_of_ble_eq_true rfl) (eX12_between (20, .invokevirtual 207, 3) (List.mem_of_getElem? (i := 11) rfl)) (fun r13 s13 t13 lo13 g13 f13 l13 => ?_)
      obtain ⟨z13, v13, q13, e13⟩ := f13
      cases q13
      rw [z13, g13]
      have hh13 : zh_ok D cA RTg ro sz H0 s.heap lo13 := ⟨hh7.1, hh7.2.1, l13, hh7.2.2.2⟩
      refine W.eq (g2 := F0 m 23 ls [.int v13, .ref a]) rfl ?_
      refine ff_if_eq hx hb (eX12_between (23, .ifCond .eq 34, 3) (List.mem_of_getElem? (i := 12) rfl)) (tgt := 57) rfl (fun c14 => ?_) (fun c14 => ?_)
      · skip
        refine ff_iconst hx hb (eX12_between (57, .iconst 1, 1) (List.mem_of_getElem? (i := 29) rfl)) (by decide) (by decide) (fun v15 e15 => ?_)
        refine lv_goto hx hb (eX12_between (58, .goto 4, 3) (List.mem_of_getElem? (i := 30) rfl)) (tgt := 62) rfl ?_
        refine tz_put (r := 11) (k := 0) (t := (0, 0, 2)) hx hb hD hh13 ha rfl rfl ((hcl11 85 0 (0, 0, 2) (by decide) rfl).2 (by decide)) (tz_i (by omega) (by omega)) (eX12_between (62, .putfield 85, 3) (List.mem_of_getElem? (i := 32) rfl)) (fun H16 lo16 hh16 hf16 hk16 _ hq16 => ?_)
        have mf16_a_2 := (hk16.1 a 11 2 11 0 fsX12 ha rfl (by decide) (by decide)).trans fq2
        have mf16_a_1 := (hk16.1 a 11 1 11 0 fsX12 ha rfl (by decide) (by decide)).trans fq1
        have mf16_a_3 := (hk16.1 a 11 3 11 0 fsX12 ha rfl (by decide) (by decide)).trans fq3
        have mf16_a_4 := (hk16.1 a 11 4 11 0 fsX12 ha rfl (by decide) (by decide)).trans fq4
        have mf16_a_5 := (hk16.1 a 11 5 11 0 fsX12 ha rfl (by decide) (by decide)).trans fq5
        have mf16_a_6 := (hk16.1 a 11 6 11 0 fsX12 ha rfl (by decide) (by decide)).trans fq6
        have mf16_a_7 := (hk16.1 a 11 7 11 0 fsX12 ha rfl (by decide) (by decide)).trans fq7
        have mf16_a_8 := (hk16.1 a 11 8 11 0 fsX12 ha rfl (by decide) (by decide)).trans fq8
        have mf16_a_9 := (hk16.1 a 11 9 11 0 fsX12 ha rfl (by decide) (by decide)).trans fq9
        have mf16_a_10 := (hk16.1 a 11 10 11 0 fsX12 ha rfl (by decide) (by decide)).trans fqA
        have mf16_a_11 := (hk16.1 a 11 11 11 0 fsX12 ha rfl (by decide) (by decide)).trans fqB
        have mc16_la := (hk16.2 la 21 0 1 40 _ r0 rfl (by decide)).trans hc
        have mc16_a4 := (hk16.2 a4 22 0 0 8 _ rq4 rfl (by decide)).trans cq4
        have mc16_a5 := (hk16.2 a5 23 0 0 8 _ rq5 rfl (by decide)).trans cq5
        have mc16_a6 := (hk16.2 a6 24 0 1 480 _ rq6 rfl (by decide)).trans cq6
        have mc16_a7 := (hk16.2 a7 25 0 0 480 _ rq7 rfl (by decide)).trans cq7
        have mc16_b8 := (hk16.2 b8 26 0 0 8 _ rq8 rfl (by decide)).trans cq8
        have mc16_b9 := (hk16.2 b9 27 0 0 8 _ rq9 rfl (by decide)).trans cq9
        have mc16_bA := (hk16.2 bA 28 0 0 8 _ rqA rfl (by decide)).trans cqA
        have mc16_bB := (hk16.2 bB 29 0 0 80 _ rqB rfl (by decide)).trans cqB
        have kp16 := kp0.trans (hk16.mono (ms' := yMr) (fun x hx => by cases List.mem_singleton.mp hx; decide))
        have jy16 := hJ.kept ha hk16 (by decide)
        refine lv_aload_n hx hb (eX12_between (65, .aload_n 0, 1) (List.mem_of_getElem? (i := 33) rfl)) rfl (lv_at hl 0 rfl) ?_
        refine tz_get (r := 11) (k := 0) (t := (0, 0, 2)) hx hb hh16 ha rfl rfl (hcl11 85 0 (0, 0, 2) (by decide) rfl).1 hf16 (eX12_between (66, .getfield 85, 3) (List.mem_of_getElem? (i := 34) rfl)) ?_
        refine ff_if_le hx hb (eX12_between (69, .ifCond .le 5, 3) (List.mem_of_getElem? (i := 35) rfl)) (tgt := 74) rfl (fun c17 => (by exfalso; omega)) (fun c17 => ?_)
        refine ff_lconst hx hb (eX12_between (72, .lconst 0, 1) (List.mem_of_getElem? (i := 36) rfl)) rfl (fun v18 e18 => ?_)
        exact W.lret hx hb hr (fun t ht hW => ⟨_, _, _, L, (Z, R), rfl, ⟨_, rfl, rfl⟩, by rw [ht]; exact hh16.l0, by rw [ht]; exact kp16, by rw [ht]; exact hf16, by rw [ht]; exact jy16, rfl, rfl, Or.inl ⟨by omega, fun g => by have g1 := g.1; have g2 : zi.toInt < (Z.length : Int) := g.2.1; have g3 := g.2.2.1; have g4 := g.2.2.2.1; have g5 := g.2.2.2.2.1; have g6 := g.2.2.2.2.2.1; have g7 := g.2.2.2.2.2.2.1; have g8 := g.2.2.2.2.2.2.2.1; first | omega | (rcases e7 with h | h; (exfalso; omega); exact h.2 g3) | (rcases e13 with h | h; (exfalso; omega); exact h.2 g4)⟩⟩) hh16.2.2.1 (eX12_between (73, .lreturn, 1) (List.mem_of_getElem? (i := 37) rfl))
      · skip
        refine lv_lload hx hb (eX12_between (26, .lload 4, 2) (List.mem_of_getElem? (i := 13) rfl)) (lv_at hl 3 rfl) ?_
        refine lv_lload_n hx hb (eX12_between (28, .lload_n 2, 1) (List.mem_of_getElem? (i := 14) rfl)) rfl (lv_at hl 2 rfl) ?_
        refine ff_lcmp hx hb (eX12_between (29, .lcmp, 1) (List.mem_of_getElem? (i := 15) rfl)) (fun v19 e19 => ?_)
        refine ff_if_lt hx hb (eX12_between (30, .ifCond .lt 27, 3) (List.mem_of_getElem? (i := 16) rfl)) (tgt := 57) rfl (fun c20 => ?_) (fun c20 => ?_)
        · skip
          refine ff_iconst hx hb (eX12_between (57, .iconst 1, 1) (List.mem_of_getElem? (i := 29) rfl)) (by decide) (by decide) (fun v21 e21 => ?_)
          refine lv_goto hx hb (eX12_between (58, .goto 4, 3) (List.mem_of_getElem? (i := 30) rfl)) (tgt := 62) rfl ?_
          refine tz_put (r := 11) (k := 0) (t := (0, 0, 2)) hx hb hD hh13 ha rfl rfl ((hcl11 85 0 (0, 0, 2) (by decide) rfl).2 (by decide)) (tz_i (by omega) (by omega)) (eX12_between (62, .putfield 85, 3) (List.mem_of_getElem? (i := 32) rfl)) (fun H22 lo22 hh22 hf22 hk22 _ hq22 => ?_)
          have mf22_a_2 := (hk22.1 a 11 2 11 0 fsX12 ha rfl (by decide) (by decide)).trans fq2
          have mf22_a_1 := (hk22.1 a 11 1 11 0 fsX12 ha rfl (by decide) (by decide)).trans fq1
          have mf22_a_3 := (hk22.1 a 11 3 11 0 fsX12 ha rfl (by decide) (by decide)).trans fq3
          have mf22_a_4 := (hk22.1 a 11 4 11 0 fsX12 ha rfl (by decide) (by decide)).trans fq4
          have mf22_a_5 := (hk22.1 a 11 5 11 0 fsX12 ha rfl (by decide) (by decide)).trans fq5
          have mf22_a_6 := (hk22.1 a 11 6 11 0 fsX12 ha rfl (by decide) (by decide)).trans fq6
          have mf22_a_7 := (hk22.1 a 11 7 11 0 fsX12 ha rfl (by decide) (by decide)).trans fq7
          have mf22_a_8 := (hk22.1 a 11 8 11 0 fsX12 ha rfl (by decide) (by decide)).trans fq8
          have mf22_a_9 := (hk22.1 a 11 9 11 0 fsX12 ha rfl (by decide) (by decide)).trans fq9
          have mf22_a_10 := (hk22.1 a 11 10 11 0 fsX12 ha rfl (by decide) (by decide)).trans fqA
          have mf22_a_11 := (hk22.1 a 11 11 11 0 fsX12 ha rfl (by decide) (by decide)).trans fqB
          have mc22_la := (hk22.2 la 21 0 1 40 _ r0 rfl (by decide)).trans hc
          have mc22_a4 := (hk22.2 a4 22 0 0 8 _ rq4 rfl (by decide)).trans cq4
          have mc22_a5 := (hk22.2 a5 23 0 0 8 _ rq5 rfl (by decide)).trans cq5
          have mc22_a6 := (hk22.2 a6 24 0 1 480 _ rq6 rfl (by decide)).trans cq6
          have mc22_a7 := (hk22.2 a7 25 0 0 480 _ rq7 rfl (by decide)).trans cq7
          have mc22_b8 := (hk22.2 b8 26 0 0 8 _ rq8 rfl (by decide)).trans cq8
          have mc22_b9 := (hk22.2 b9 27 0 0 8 _ rq9 rfl (by decide)).trans cq9
          have mc22_bA := (hk22.2 bA 28 0 0 8 _ rqA rfl (by decide)).trans cqA
          have mc22_bB := (hk22.2 bB 29 0 0 80 _ rqB rfl (by decide)).trans cqB
          have kp22 := kp0.trans (hk22.mono (ms' := yMr) (fun x hx => by cases List.mem_singleton.mp hx; decide))
          have jy22 := hJ.kept ha hk22 (by decide)
          refine lv_aload_n hx hb (eX12_between (65, .aload_n 0, 1) (List.mem_of_getElem? (i := 33) rfl)) rfl (lv_at hl 0 rfl) ?_
          refine tz_get (r := 11) (k := 0) (t := (0, 0, 2)) hx hb hh22 ha rfl rfl (hcl11 85 0 (0, 0, 2) (by decide) rfl).1 hf22 (eX12_between (66, .getfield 85, 3) (List.mem_of_getElem? (i := 34) rfl)) ?_
          refine ff_if_le hx hb (eX12_between (69, .ifCond .le 5, 3) (List.mem_of_getElem? (i := 35) rfl)) (tgt := 74) rfl (fun c23 => (by exfalso; omega)) (fun c23 => ?_)
          refine ff_lconst hx hb (eX12_between (72, .lconst 0, 1) (List.mem_of_getElem? (i := 36) rfl)) rfl (fun v24 e24 => ?_)
          exact W.lret hx hb hr (fun t ht hW => ⟨_, _, _, L, (Z, R), rfl, ⟨_, rfl, rfl⟩, by rw [ht]; exact hh22.l0, by rw [ht]; exact kp22, by rw [ht]; exact hf22, by rw [ht]; exact jy22, rfl, rfl, Or.inl ⟨by omega, fun g => by have g1 := g.1; have g2 : zi.toInt < (Z.length : Int) := g.2.1; have g3 := g.2.2.1; have g4 := g.2.2.2.1; have g5 := g.2.2.2.2.1; have g6 := g.2.2.2.2.2.1; have g7 := g.2.2.2.2.2.2.1; have g8 := g.2.2.2.2.2.2.2.1; first | omega | (rcases e7 with h | h; (exfalso; omega); exact h.2 g3) | (rcases e13 with h | h; (exfalso; omega); exact h.2 g4)⟩⟩) hh22.2.2.1 (eX12_between (73, .lreturn, 1) (List.mem_of_getElem? (i := 37) rfl))
        · skip
          refine lv_iload hx hb (eX12_between (33, .iload 6, 2) (List.mem_of_getElem? (i := 17) rfl)) (lv_at hl 4 rfl) ?_
          refine ff_i2l hx hb (eX12_between (35, .i2l, 1) (List.mem_of_getElem? (i := 18) rfl)) (fun v25 e25 => ?_)
          refine ff_lconst hx hb (eX12_between (36, .lconst 0, 1) (List.mem_of_getElem? (i := 19) rfl)) rfl (fun v26 e26 => ?_)
          refine ff_ldc2 (n := 2) hx hb hown h2 (clX12_ok 105 2 (List.mem_of_getElem? (i := 7) rfl)) (eX12_between (37, .ldc2_w 105, 3) (List.mem_of_getElem? (i := 20) rfl)) (fun v27 e27 => ?_)
          refine zu_S (vs := [.long v25, .long v26, .long v27]) (rest := [.ref a]) hx hb hml hown hts0 zu_BT (hX12_isIn l v25 v26 v27) ⟨rfl, rfl⟩ ⟨by decide, by decide⟩ ⟨by decide, by decide⟩ (tb_7 47 rfl rfl) (tb_1 12 rfl rfl) (tb_7 45 rfl rfl) (tb_7 46 rfl rfl) (show yX12_isIn.cls ≠ "java/lang/invoke/MethodHandle" ∧ yX12_isIn.cls ≠ "java/lang/invoke/VarHandle" ∧ (parseMethodDescriptor yX12_isIn.desc).map (fun d => d.parameters.length) = some 3 by decide +kernel) rfl (fun _ _ _ => trivial) hl.1 (Nat.le_of_ble_eq_true rfl) (eX12_between (40, .invokestatic 130, 3) (List.mem_of_getElem? (i := 21) rfl)) (fun w28 f28 => ?_)
          obtain ⟨v28, rfl, e28⟩ := f28
          refine ff_if_eq hx hb (eX12_between (43, .ifCond .eq 14, 3) (List.mem_of_getElem? (i := 22) rfl)) (tgt := 57) rfl (fun c29 => ?_) (fun c29 => ?_)
          · skip
            refine ff_iconst hx hb (eX12_between (57, .iconst 1, 1) (List.mem_of_getElem? (i := 29) rfl)) (by decide) (by decide) (fun v30 e30 => ?_)
            refine lv_goto hx hb (eX12_between (58, .goto 4, 3) (List.mem_of_getElem? (i := 30) rfl)) (tgt := 62) rfl ?_
            refine tz_put (r := 11) (k := 0) (t := (0, 0, 2)) hx hb hD hh13 ha rfl rfl ((hcl11 85 0 (0, 0, 2) (by decide) rfl).2 (by decide)) (tz_i (by omega) (by omega)) (eX12_between (62, .putfield 85, 3) (List.mem_of_getElem? (i := 32) rfl)) (fun H31 lo31 hh31 hf31 hk31 _ hq31 => ?_)
            have mf31_a_2 := (hk31.1 a 11 2 11 0 fsX12 ha rfl (by decide) (by decide)).trans fq2
            have mf31_a_1 := (hk31.1 a 11 1 11 0 fsX12 ha rfl (by decide) (by decide)).trans fq1
            have mf31_a_3 := (hk31.1 a 11 3 11 0 fsX12 ha rfl (by decide) (by decide)).trans fq3
            have mf31_a_4 := (hk31.1 a 11 4 11 0 fsX12 ha rfl (by decide) (by decide)).trans fq4
            have mf31_a_5 := (hk31.1 a 11 5 11 0 fsX12 ha rfl (by decide) (by decide)).trans fq5
            have mf31_a_6 := (hk31.1 a 11 6 11 0 fsX12 ha rfl (by decide) (by decide)).trans fq6
            have mf31_a_7 := (hk31.1 a 11 7 11 0 fsX12 ha rfl (by decide) (by decide)).trans fq7
            have mf31_a_8 := (hk31.1 a 11 8 11 0 fsX12 ha rfl (by decide) (by decide)).trans fq8
            have mf31_a_9 := (hk31.1 a 11 9 11 0 fsX12 ha rfl (by decide) (by decide)).trans fq9
            have mf31_a_10 := (hk31.1 a 11 10 11 0 fsX12 ha rfl (by decide) (by decide)).trans fqA
            have mf31_a_11 := (hk31.1 a 11 11 11 0 fsX12 ha rfl (by decide) (by decide)).trans fqB
            have mc31_la := (hk31.2 la 21 0 1 40 _ r0 rfl (by decide)).trans hc
            have mc31_a4 := (hk31.2 a4 22 0 0 8 _ rq4 rfl (by decide)).trans cq4
            have mc31_a5 := (hk31.2 a5 23 0 0 8 _ rq5 rfl (by decide)).trans cq5
            have mc31_a6 := (hk31.2 a6 24 0 1 480 _ rq6 rfl (by decide)).trans cq6
            have mc31_a7 := (hk31.2 a7 25 0 0 480 _ rq7 rfl (by decide)).trans cq7
            have mc31_b8 := (hk31.2 b8 26 0 0 8 _ rq8 rfl (by decide)).trans cq8
            have mc31_b9 := (hk31.2 b9 27 0 0 8 _ rq9 rfl (by decide)).trans cq9
            have mc31_bA := (hk31.2 bA 28 0 0 8 _ rqA rfl (by decide)).trans cqA
            have mc31_bB := (hk31.2 bB 29 0 0 80 _ rqB rfl (by decide)).trans cqB
            have kp31 := kp0.trans (hk31.mono (ms' := yMr) (fun x hx => by cases List.mem_singleton.mp hx; decide))
            have jy31 := hJ.kept ha hk31 (by decide)
            refine lv_aload_n hx hb (eX12_between (65, .aload_n 0, 1) (List.mem_of_getElem? (i := 33) rfl)) rfl (lv_at hl 0 rfl) ?_
            refine tz_get (r := 11) (k := 0) (t := (0, 0, 2)) hx hb hh31 ha rfl rfl (hcl11 85 0 (0, 0, 2) (by decide) rfl).1 hf31 (eX12_between (66, .getfield 85, 3) (List.mem_of_getElem? (i := 34) rfl)) ?_
            refine ff_if_le hx hb (eX12_between (69, .ifCond .le 5, 3) (List.mem_of_getElem? (i := 35) rfl)) (tgt := 74) rfl (fun c32 => (by exfalso; omega)) (fun c32 => ?_)
            refine ff_lconst hx hb (eX12_between (72, .lconst 0, 1) (List.mem_of_getElem? (i := 36) rfl)) rfl (fun v33 e33 => ?_)
            exact W.lret hx hb hr (fun t ht hW => ⟨_, _, _, L, (Z, R), rfl, ⟨_, rfl, rfl⟩, by rw [ht]; exact hh31.l0, by rw [ht]; exact kp31, by rw [ht]; exact hf31, by rw [ht]; exact jy31, rfl, rfl, Or.inl ⟨by omega, fun g => by have g1 := g.1; have g2 : zi.toInt < (Z.length : Int) := g.2.1; have g3 := g.2.2.1; have g4 := g.2.2.2.1; have g5 := g.2.2.2.2.1; have g6 := g.2.2.2.2.2.1; have g7 := g.2.2.2.2.2.2.1; have g8 := g.2.2.2.2.2.2.2.1; first | omega | (rcases e7 with h | h; (exfalso; omega); exact h.2 g3) | (rcases e13 with h | h; (exfalso; omega); exact h.2 g4)⟩⟩) hh31.2.2.1 (eX12_between (73, .lreturn, 1) (List.mem_of_getElem? (i := 37) rfl))
          · skip
            have htk : tOK t0.toInt L := by rcases e7 with h | h; exact h.2; exfalso; omega
            have htbt0 := tOK_b hjL htk
            have htke : tOK te.toInt L := by rcases e13 with h | h; exact h.2; exfalso; omega
            have htbte := tOK_b hjL htke
            refine lv_lload hx hb (eX12_between (46, .lload 4, 2) (List.mem_of_getElem? (i := 23) rfl)) (lv_at hl 3 rfl) ?_
            refine lv_lload_n hx hb (eX12_between (48, .lload_n 2, 1) (List.mem_of_getElem? (i := 24) rfl)) rfl (lv_at hl 2 rfl) ?_
            refine ff_lsub hx hb (eX12_between (49, .lsub, 1) (List.mem_of_getElem? (i := 25) rfl)) (by omega) (by omega) (fun v34 e34 => ?_)
            refine ff_ldc2 (n := 2592000000) hx hb hown h2 (clX12_ok 281 2592000000 (List.mem_of_getElem? (i := 28) rfl)) (eX12_between (50, .ldc2_w 281, 3) (List.mem_of_getElem? (i := 26) rfl)) (fun v35 e35 => ?_)
            refine ff_lcmp hx hb (eX12_between (53, .lcmp, 1) (List.mem_of_getElem? (i := 27) rfl)) (fun v36 e36 => ?_)
            refine ff_if_le hx hb (eX12_between (54, .ifCond .le 7, 3) (List.mem_of_getElem? (i := 28) rfl)) (tgt := 61) rfl (fun c37 => ?_) (fun c37 => ?_)
            · skip
              refine ff_iconst hx hb (eX12_between (61, .iconst 0, 1) (List.mem_of_getElem? (i := 31) rfl)) (by decide) (by decide) (fun v38 e38 => ?_)
              refine tz_put (r := 11) (k := 0) (t := (0, 0, 2)) hx hb hD hh13 ha rfl rfl ((hcl11 85 0 (0, 0, 2) (by decide) rfl).2 (by decide)) (tz_i (by omega) (by omega)) (eX12_between (62, .putfield 85, 3) (List.mem_of_getElem? (i := 32) rfl)) (fun H39 lo39 hh39 hf39 hk39 _ hq39 => ?_)
              have mf39_a_2 := (hk39.1 a 11 2 11 0 fsX12 ha rfl (by decide) (by decide)).trans fq2
              have mf39_a_1 := (hk39.1 a 11 1 11 0 fsX12 ha rfl (by decide) (by decide)).trans fq1
              have mf39_a_3 := (hk39.1 a 11 3 11 0 fsX12 ha rfl (by decide) (by decide)).trans fq3
              have mf39_a_4 := (hk39.1 a 11 4 11 0 fsX12 ha rfl (by decide) (by decide)).trans fq4
              have mf39_a_5 := (hk39.1 a 11 5 11 0 fsX12 ha rfl (by decide) (by decide)).trans fq5
              have mf39_a_6 := (hk39.1 a 11 6 11 0 fsX12 ha rfl (by decide) (by decide)).trans fq6
              have mf39_a_7 := (hk39.1 a 11 7 11 0 fsX12 ha rfl (by decide) (by decide)).trans fq7
              have mf39_a_8 := (hk39.1 a 11 8 11 0 fsX12 ha rfl (by decide) (by decide)).trans fq8
              have mf39_a_9 := (hk39.1 a 11 9 11 0 fsX12 ha rfl (by decide) (by decide)).trans fq9
              have mf39_a_10 := (hk39.1 a 11 10 11 0 fsX12 ha rfl (by decide) (by decide)).trans fqA
              have mf39_a_11 := (hk39.1 a 11 11 11 0 fsX12 ha rfl (by decide) (by decide)).trans fqB
              have mc39_la := (hk39.2 la 21 0 1 40 _ r0 rfl (by decide)).trans hc
              have mc39_a4 := (hk39.2 a4 22 0 0 8 _ rq4 rfl (by decide)).trans cq4
              have mc39_a5 := (hk39.2 a5 23 0 0 8 _ rq5 rfl (by decide)).trans cq5
              have mc39_a6 := (hk39.2 a6 24 0 1 480 _ rq6 rfl (by decide)).trans cq6
              have mc39_a7 := (hk39.2 a7 25 0 0 480 _ rq7 rfl (by decide)).trans cq7
              have mc39_b8 := (hk39.2 b8 26 0 0 8 _ rq8 rfl (by decide)).trans cq8
              have mc39_b9 := (hk39.2 b9 27 0 0 8 _ rq9 rfl (by decide)).trans cq9
              have mc39_bA := (hk39.2 bA 28 0 0 8 _ rqA rfl (by decide)).trans cqA
              have mc39_bB := (hk39.2 bB 29 0 0 80 _ rqB rfl (by decide)).trans cqB
              have kp39 := kp0.trans (hk39.mono (ms' := yMr) (fun x hx => by cases List.mem_singleton.mp hx; decide))
              have jy39 := hJ.kept ha hk39 (by decide)
              refine lv_aload_n hx hb (eX12_between (65, .aload_n 0, 1) (List.mem_of_getElem? (i := 33) rfl)) rfl (lv_at hl 0 rfl) ?_
              refine tz_get (r := 11) (k := 0) (t := (0, 0, 2)) hx hb hh39 ha rfl rfl (hcl11 85 0 (0, 0, 2) (by decide) rfl).1 hf39 (eX12_between (66, .getfield 85, 3) (List.mem_of_getElem? (i := 34) rfl)) ?_
              refine ff_if_le hx hb (eX12_between (69, .ifCond .le 5, 3) (List.mem_of_getElem? (i := 35) rfl)) (tgt := 74) rfl (fun c40 => ?_) (fun c40 => (by exfalso; omega))
              have hlt : zi.toInt.toNat < Z.length := by omega
              obtain ⟨ze, hze⟩ : ∃ e9, Z[zi.toInt.toNat]? = some e9 := ⟨_, List.getElem?_eq_getElem hlt⟩
              obtain ⟨rr, hrr⟩ : ∃ e9, R[zi.toInt.toNat]? = some e9 := ⟨_, List.getElem?_eq_getElem (by omega)⟩
              have hwr := hrw rr (List.mem_of_getElem? hrr)
              obtain ⟨hoA, hoB9, -⟩ := hzp ze (List.mem_of_getElem? hze)
              have hoB : ∀ c ∈ ze.2, oOK c.2 := fun c hc => (hoB9 c hc).1
              have hnd := hjl.1
              have hte9 : t0.toInt ≤ te.toInt := by omega
              have hgf : ¬ mOK (lmM L ze rr t0.toInt) → ¬ gB zi.toInt t0.toInt te.toInt w0.toInt L (Z, R) := fun q9 g9 => q9 (g9.2.2.2.2.2.2.2.2 ze rr hze hrr)
              refine lv_aload_n hx hb (eX12_between (74, .aload_n 0, 1) (List.mem_of_getElem? (i := 38) rfl)) rfl (lv_at hl 0 rfl) ?_
              refine lv_iload_n hx hb (eX12_between (75, .iload_n 1, 1) (List.mem_of_getElem? (i := 39) rfl)) rfl (lv_at hl 1 rfl) ?_
              refine lv_lload_n hx hb (eX12_between (76, .lload_n 2, 1) (List.mem_of_getElem? (i := 40) rfl)) rfl (lv_at hl 2 rfl) ?_
              refine ff_lconst hx hb (eX12_between (77, .lconst 0, 1) (List.mem_of_getElem? (i := 41) rfl)) rfl (fun v41 e41 => ?_)
              refine ff_lconst hx hb (eX12_between (78, .lconst 0, 1) (List.mem_of_getElem? (i := 42) rfl)) rfl (fun v42 e42 => ?_)
              refine tz_rowV (As := [.int zi, .long t0, .long v41, .long v42]) (st := []) (b := a) (C := RX12) (Ts := gT) hx hb hml hown h2 (fun _ h => h) (hX12_on l D cA ro sz H0 a zi t0 v41 v42 L Z R zi.toInt.toNat ze rr ha (by omega) hze hrr hoA hoB htk (by omega) (by omega) (by omega) (by omega)) ⟨rfl, rfl⟩ ⟨by decide, by decide⟩ ⟨by decide, by decide⟩ (tb_7 219 rfl rfl) (tb_1 12 rfl rfl) (tb_7 216 rfl rfl) (tb_7 218 rfl rfl) (tb_0 25 rfl rfl) (show yX12_on.cls ≠ "java/lang/invoke/MethodHandle" ∧ yX12_on.cls ≠ "java/lang/invoke/VarHandle" ∧ (parseMethodDescriptor yX12_on.desc).map (fun d => d.parameters.length) = some 4 by decide +kernel) zs_blind (zs_ob hh39 ha (show RTg[11]? = some (0, 11, 0, fsX12) from rfl) (zCX12 hKn.1)) (fun U hU hW => ⟨rfl, by rw [hU]; exact hh39.l0, zKb s U hW.alike hKn, by rw [hU]; exact jy39⟩) hh39.2.2.1 hl.1 (Nat.le_of_ble_eq_true rfl) (eX12_between (79, .invokevirtual 277, 3) (List.mem_of_getElem? (i := 43) rfl)) (fun r43 s43 t43 lo43 g43 f43 l43 => ?_)
              obtain ⟨v43, q43, e43, z43, c43⟩ := f43
              cases q43
              rw [g43] at c43
              have mf43_a_0 := (c43.1 a 11 0 11 0 fsX12 ha rfl (by decide) (by decide)).trans hf39
              have hh43 : zh_ok D cA RTg ro sz H0 t43.heap lo43 := ⟨z43.1, z43.2.1, l43, z43.2.2.2⟩
              have kp43 := kp39.trans (c43.mono (ms' := yMr) (by decide))
              have jy43 := jy39.kept ha c43 (by decide)
              refine W.eq (g2 := F0 m 82 ls [.long v43]) rfl ?_
              have h00 := e43
              rw [show v41.toInt = 0 by omega, show v42.toInt = 0 by omega] at h00
              refine ff_ldc2 (n := (-9223372036854775808)) hx hb hown h2 (clX12_ok 83 (-9223372036854775808) (List.mem_of_getElem? (i := 2) rfl)) (eX12_between (82, .ldc2_w 83, 3) (List.mem_of_getElem? (i := 44) rfl)) (fun v44 e44 => ?_)
              refine ff_lcmp hx hb (eX12_between (85, .lcmp, 1) (List.mem_of_getElem? (i := 45) rfl)) (fun v45 e45 => ?_)
              refine ff_if_ne hx hb (eX12_between (86, .ifCond .ne 10, 3) (List.mem_of_getElem? (i := 46) rfl)) (tgt := 96) rfl (fun c46 => ?_) (fun c46 => ?_)
              · skip
                have hM9 : mOK (lmM L ze rr t0.toInt) := go_mok h00 (by unfold NONEI; omega)
                obtain ⟨a8, ha8⟩ := ex_inM (lmM L ze rr t0.toInt / 1440)
                have hgb9 : gB zi.toInt t0.toInt te.toInt w0.toInt L (Z, R) := ⟨by omega, by show _ < (Z.length : Int); omega, htk, htke, by omega, by omega, hte9, by omega, fun e9 u9 q1 q2 => by cases hze.symm.trans q1; cases hrr.symm.trans q2; exact hM9⟩
                refine lv_lload hx hb (eX12_between (96, .lload 4, 2) (List.mem_of_getElem? (i := 52) rfl)) (lv_at hl 3 rfl) ?_
                refine lv_lload_n hx hb (eX12_between (98, .lload_n 2, 1) (List.mem_of_getElem? (i := 53) rfl)) rfl (lv_at hl 2 rfl) ?_
                refine ff_lsub hx hb (eX12_between (99, .lsub, 1) (List.mem_of_getElem? (i := 54) rfl)) (by omega) (by omega) (fun v47 e47 => ?_)
                refine ff_ldc2 (n := 86400) hx hb hown h2 (clX12_ok 283 86400 (List.mem_of_getElem? (i := 29) rfl)) (eX12_between (100, .ldc2_w 283, 3) (List.mem_of_getElem? (i := 55) rfl)) (fun v48 e48 => ?_)
                refine ff_ldivP hx hb (eX12_between (103, .ldiv, 1) (List.mem_of_getElem? (i := 56) rfl)) (by omega) (e48) (by decide) (fun v49 e49 => ?_)
                refine ff_ldc2 (n := 28) hx hb hown h2 (clX12_ok 285 28 (List.mem_of_getElem? (i := 30) rfl)) (eX12_between (104, .ldc2_w 285, 3) (List.mem_of_getElem? (i := 57) rfl)) (fun v50 e50 => ?_)
                refine ff_ldivP hx hb (eX12_between (107, .ldiv, 1) (List.mem_of_getElem? (i := 58) rfl)) (by omega) (e50) (by decide) (fun v51 e51 => ?_)
                refine ff_ldc2 (n := 3) hx hb hown h2 (clX12_ok 134 3 (List.mem_of_getElem? (i := 15) rfl)) (eX12_between (108, .ldc2_w 134, 3) (List.mem_of_getElem? (i := 59) rfl)) (fun v52 e52 => ?_)
                refine ff_ladd hx hb (eX12_between (111, .ladd, 1) (List.mem_of_getElem? (i := 60) rfl)) (by omega) (by omega) (fun v53 e53 => ?_)
                refine lv_lstore hx hb (eX12_between (112, .lstore 7, 2) (List.mem_of_getElem? (i := 61) rfl)) hl (by decide) rfl (fun ls54 hl54 => ?_)
                have hb0 : v53.toInt = ((te.toInt - t0.toInt) / 86400 / 28 + 3) := by omega
                have lp1 : ∀ (n9 : Nat) (mv : Int64) (ls : Array Slot) (H : Heap) (lo0 : List Loc), mv.toInt ≤ (n9 : Int) → (0 ≤ mv.toInt ∧ mv.toInt ≤ ((te.toInt - t0.toInt) / 86400 / 28 + 3)) → (∀ k9 : Int, mv.toInt < k9 → k9 ≤ ((te.toInt - t0.toInt) / 86400 / 28 + 3) → ∃ y, goR L ze rr t0.toInt k9 0 y ∧ (y = NONEI ∨ te.toInt < y)) → zh_ok D cA RTg ro sz H0 H lo0 → zc_kept D RTg ro yMr s.heap H → jRY D cA ro H a L (Z, R) → zh_f D H a 11 0 = .int v38 → lv_has ls 11 [(7, .long mv), (0, .ref a), (1, .int zi), (2, .long t0), (4, .long te), (6, .int w0)] → W p l e (headSpec (gW yX12_between cX12_between 11 (some .long)) { frames := 11, cells := 0, slots := 0, locals := 329 }).room s m ([.ref a, .int zi, .long t0, .long te, .int w0] : List Value).toArray below meth c H lo0 0 0 (MQ below (yy_QR D cA ro sz H0 a vL (spBY zi.toInt t0.toInt te.toInt w0.toInt L (Z, R))) ([.ref a, .int zi, .long t0, .long te, .int w0] : List Value).toArray s 0 0 (zy_fr sz)) (F0 m 114 ls []) := by
                  intro n9
                  induction n9 with
                  | zero =>
                    intro mv ls H lo0 hmn hmv hmi hh0 kpl jyl fth hl
                    refine lv_lload hx hb (eX12_between (114, .lload 7, 2) (List.mem_of_getElem? (i := 62) rfl)) (lv_at hl 0 rfl) ?_
                    refine ff_lconst hx hb (eX12_between (116, .lconst 0, 1) (List.mem_of_getElem? (i := 63) rfl)) rfl (fun v55 e55 => ?_)
                    refine ff_lcmp hx hb (eX12_between (117, .lcmp, 1) (List.mem_of_getElem? (i := 64) rfl)) (fun v56 e56 => ?_)
                    refine ff_if_le hx hb (eX12_between (118, .ifCond .le 26, 3) (List.mem_of_getElem? (i := 65) rfl)) (tgt := 144) rfl (fun c57 => ?_) (fun c57 => (by exfalso; omega))
                    obtain ⟨hbm9, yn, yn1, yn2⟩ := r_bm hjL hnd hwr hoA hoB hte9 hmv.1 (Or.inl (by omega)) hmi
                    refine ff_ldc2 (n := 70) hx hb hown h2 (clX12_ok 291 70 (List.mem_of_getElem? (i := 31) rfl)) (eX12_between (144, .ldc2_w 291, 3) (List.mem_of_getElem? (i := 79) rfl)) (fun v58 e58 => ?_)
                    refine lv_lstore hx hb (eX12_between (147, .lstore 9, 2) (List.mem_of_getElem? (i := 80) rfl)) hl (by decide) rfl (fun ls59 hl59 => ?_)
                    have lp2 : ∀ (n9 : Nat) (dv : Int64) (ls : Array Slot) (H : Heap) (lo0 : List Loc), dv.toInt ≤ (n9 : Int) → (0 ≤ dv.toInt ∧ dv.toInt ≤ 70) → (∀ k9 : Int, dv.toInt < k9 → k9 ≤ 70 → ¬ okG L ze rr t0.toInt te.toInt mv.toInt k9) → zh_ok D cA RTg ro sz H0 H lo0 → zc_kept D RTg ro yMr s.heap H → jRY D cA ro H a L (Z, R) → zh_f D H a 11 0 = .int v38 → lv_has ls 11 [(9, .long dv), (7, .long mv), (0, .ref a), (1, .int zi), (2, .long t0), (4, .long te), (6, .int w0)] → W p l e (headSpec (gW yX12_between cX12_between 11 (some .long)) { frames := 11, cells := 0, slots := 0, locals := 329 }).room s m ([.ref a, .int zi, .long t0, .long te, .int w0] : List Value).toArray below meth c H lo0 0 0 (MQ below (yy_QR D cA ro sz H0 a vL (spBY zi.toInt t0.toInt te.toInt w0.toInt L (Z, R))) ([.ref a, .int zi, .long t0, .long te, .int w0] : List Value).toArray s 0 0 (zy_fr sz)) (F0 m 149 ls []) := by
                      intro n9
                      induction n9 with
                      | zero =>
                        intro dv ls H lo0 hdn hdv hdi hh0 kpl jyl fth hl
                        refine lv_lload hx hb (eX12_between (149, .lload 9, 2) (List.mem_of_getElem? (i := 81) rfl)) (lv_at hl 0 rfl) ?_
                        refine ff_lconst hx hb (eX12_between (151, .lconst 0, 1) (List.mem_of_getElem? (i := 82) rfl)) rfl (fun v60 e60 => ?_)
                        refine ff_lcmp hx hb (eX12_between (152, .lcmp, 1) (List.mem_of_getElem? (i := 83) rfl)) (fun v61 e61 => ?_)
                        refine ff_if_le hx hb (eX12_between (153, .ifCond .le 27, 3) (List.mem_of_getElem? (i := 84) rfl)) (tgt := 180) rfl (fun c62 => ?_) (fun c62 => (by exfalso; omega))
                        have hbd9 : bdR L ze rr t0.toInt te.toInt mv.toInt dv.toInt := ⟨hdv.1, Or.inl (by omega), fun k9 q1 => by by_cases q2 : k9 ≤ 70; exact hdi k9 q1 q2; exact r2_no hjL hnd hwr hoA hoB hmv.1 yn1 yn2 (by omega)⟩
                        refine lv_iload hx hb (eX12_between (180, .iload 6, 2) (List.mem_of_getElem? (i := 98) rfl)) (lv_at hl 6 rfl) ?_
                        refine ff_if_ne hx hb (eX12_between (182, .ifCond .ne 8, 3) (List.mem_of_getElem? (i := 99) rfl)) (tgt := 190) rfl (fun c63 => ?_) (fun c63 => ?_)
                        · skip
                          refine lv_iload hx hb (eX12_between (190, .iload 6, 2) (List.mem_of_getElem? (i := 102) rfl)) (lv_at hl 6 rfl) ?_
                          refine ff_iconst hx hb (eX12_between (192, .iconst 1, 1) (List.mem_of_getElem? (i := 103) rfl)) (by decide) (by decide) (fun v64 e64 => ?_)
                          refine ff_icmp_ne hx hb (eX12_between (193, .if_icmp .ne 8, 3) (List.mem_of_getElem? (i := 104) rfl)) (tgt := 201) rfl (fun c65 => ?_) (fun c65 => ?_)
                          · skip
                            refine lv_lload hx hb (eX12_between (201, .lload 4, 2) (List.mem_of_getElem? (i := 107) rfl)) (lv_at hl 5 rfl) ?_
                            refine lv_aload_n hx hb (eX12_between (203, .aload_n 0, 1) (List.mem_of_getElem? (i := 108) rfl)) rfl (lv_at hl 2 rfl) ?_
                            refine lv_iload_n hx hb (eX12_between (204, .iload_n 1, 1) (List.mem_of_getElem? (i := 109) rfl)) rfl (lv_at hl 3 rfl) ?_
                            refine lv_lload_n hx hb (eX12_between (205, .lload_n 2, 1) (List.mem_of_getElem? (i := 110) rfl)) rfl (lv_at hl 4 rfl) ?_
                            refine lv_lload hx hb (eX12_between (206, .lload 7, 2) (List.mem_of_getElem? (i := 111) rfl)) (lv_at hl 1 rfl) ?_
                            refine lv_lload hx hb (eX12_between (208, .lload 9, 2) (List.mem_of_getElem? (i := 112) rfl)) (lv_at hl 0 rfl) ?_
                            refine tz_rowV (As := [.int zi, .long t0, .long mv, .long dv]) (st := [.long te]) (b := a) (C := RX12) (Ts := gT) hx hb hml hown h2 (fun _ h => h) (hX12_on l D cA ro sz H0 a zi t0 mv dv L Z R zi.toInt.toNat ze rr ha (by omega) hze hrr hoA hoB htk (by omega) (by omega) (by omega) (by omega)) ⟨rfl, rfl⟩ ⟨by decide, by decide⟩ ⟨by decide, by decide⟩ (tb_7 219 rfl rfl) (tb_1 12 rfl rfl) (tb_7 216 rfl rfl) (tb_7 218 rfl rfl) (tb_0 25 rfl rfl) (show yX12_on.cls ≠ "java/lang/invoke/MethodHandle" ∧ yX12_on.cls ≠ "java/lang/invoke/VarHandle" ∧ (parseMethodDescriptor yX12_on.desc).map (fun d => d.parameters.length) = some 4 by decide +kernel) zs_blind (zs_ob hh0 ha (show RTg[11]? = some (0, 11, 0, fsX12) from rfl) (zCX12 hKn.1)) (fun U hU hW => ⟨rfl, by rw [hU]; exact hh0.l0, zKb s U hW.alike hKn, by rw [hU]; exact jyl⟩) hh0.2.2.1 hl.1 (Nat.le_of_ble_eq_true rfl) (eX12_between (210, .invokevirtual 277, 3) (List.mem_of_getElem? (i := 113) rfl)) (fun r66 s66 t66 lo66 g66 f66 l66 => ?_)
                            obtain ⟨v66, q66, e66, z66, c66⟩ := f66
                            cases q66
                            rw [g66] at c66
                            have mf66_a_0 := (c66.1 a 11 0 11 0 fsX12 ha rfl (by decide) (by decide)).trans fth
                            have hh66 : zh_ok D cA RTg ro sz H0 t66.heap lo66 := ⟨z66.1, z66.2.1, l66, z66.2.2.2⟩
                            have kp66 := kpl.trans (c66.mono (ms' := yMr) (by decide))
                            have jy66 := jyl.kept ha c66 (by decide)
                            refine W.eq (g2 := F0 m 213 ls [.long v66, .long te]) rfl ?_
                            have hn9 := go_ne (t1 := te.toInt) hjL hnd hwr hoA hoB htk hM9 ha8 hbm9.2.1 hbd9.2.1 e66
                            have hb8 := go_b hjL hnd hwr hoA hoB e66 hn9
                            refine ff_lsub hx hb (eX12_between (213, .lsub, 1) (List.mem_of_getElem? (i := 114) rfl)) (by omega) (by omega) (fun v67 e67 => ?_)
                            exact W.lret hx hb hr (fun t ht hW => ⟨_, _, _, L, (Z, R), rfl, ⟨_, rfl, rfl⟩, by rw [ht]; exact hh66.l0, by rw [ht]; exact kp66, by rw [ht]; exact mf66_a_0, by rw [ht]; exact jy66, rfl, rfl, Or.inr ⟨by omega, hgb9, ze, rr, hze, hrr, mv.toInt, hbm9, Or.inr (Or.inr ⟨by omega, _, _, hbd9, e66, by omega⟩)⟩⟩) hh66.2.2.1 (eX12_between (214, .lreturn, 1) (List.mem_of_getElem? (i := 115) rfl))
                          · skip
                            refine lv_lload hx hb (eX12_between (196, .lload 9, 2) (List.mem_of_getElem? (i := 105) rfl)) (lv_at hl 0 rfl) ?_
                            refine lv_goto hx hb (eX12_between (198, .goto 16, 3) (List.mem_of_getElem? (i := 106) rfl)) (tgt := 214) rfl ?_
                            exact W.lret hx hb hr (fun t ht hW => ⟨_, _, _, L, (Z, R), rfl, ⟨_, rfl, rfl⟩, by rw [ht]; exact hh0.l0, by rw [ht]; exact kpl, by rw [ht]; exact fth, by rw [ht]; exact jyl, rfl, rfl, Or.inr ⟨by omega, hgb9, ze, rr, hze, hrr, mv.toInt, hbm9, Or.inr (Or.inl ⟨by omega, hbd9⟩)⟩⟩) hh0.2.2.1 (eX12_between (214, .lreturn, 1) (List.mem_of_getElem? (i := 115) rfl))
                        · skip
                          refine lv_lload hx hb (eX12_between (185, .lload 7, 2) (List.mem_of_getElem? (i := 100) rfl)) (lv_at hl 1 rfl) ?_
                          refine lv_goto hx hb (eX12_between (187, .goto 27, 3) (List.mem_of_getElem? (i := 101) rfl)) (tgt := 214) rfl ?_
                          exact W.lret hx hb hr (fun t ht hW => ⟨_, _, _, L, (Z, R), rfl, ⟨_, rfl, rfl⟩, by rw [ht]; exact hh0.l0, by rw [ht]; exact kpl, by rw [ht]; exact fth, by rw [ht]; exact jyl, rfl, rfl, Or.inr ⟨by omega, hgb9, ze, rr, hze, hrr, mv.toInt, hbm9, Or.inl ⟨by omega, rfl⟩⟩⟩) hh0.2.2.1 (eX12_between (214, .lreturn, 1) (List.mem_of_getElem? (i := 115) rfl))
                      | succ n9 ih2 =>
                        intro dv ls H lo0 hdn hdv hdi hh0 kpl jyl fth hl
                        refine lv_lload hx hb (eX12_between (149, .lload 9, 2) (List.mem_of_getElem? (i := 81) rfl)) (lv_at hl 0 rfl) ?_
                        refine ff_lconst hx hb (eX12_between (151, .lconst 0, 1) (List.mem_of_getElem? (i := 82) rfl)) rfl (fun v68 e68 => ?_)
                        refine ff_lcmp hx hb (eX12_between (152, .lcmp, 1) (List.mem_of_getElem? (i := 83) rfl)) (fun v69 e69 => ?_)
                        refine ff_if_le hx hb (eX12_between (153, .ifCond .le 27, 3) (List.mem_of_getElem? (i := 84) rfl)) (tgt := 180) rfl (fun c70 => ?_) (fun c70 => ?_)
                        · skip
                          have hbd9 : bdR L ze rr t0.toInt te.toInt mv.toInt dv.toInt := ⟨hdv.1, Or.inl (by omega), fun k9 q1 => by by_cases q2 : k9 ≤ 70; exact hdi k9 q1 q2; exact r2_no hjL hnd hwr hoA hoB hmv.1 yn1 yn2 (by omega)⟩
                          refine lv_iload hx hb (eX12_between (180, .iload 6, 2) (List.mem_of_getElem? (i := 98) rfl)) (lv_at hl 6 rfl) ?_
                          refine ff_if_ne hx hb (eX12_between (182, .ifCond .ne 8, 3) (List.mem_of_getElem? (i := 99) rfl)) (tgt := 190) rfl (fun c71 => ?_) (fun c71 => ?_)
                          · skip
                            refine lv_iload hx hb (eX12_between (190, .iload 6, 2) (List.mem_of_getElem? (i := 102) rfl)) (lv_at hl 6 rfl) ?_
                            refine ff_iconst hx hb (eX12_between (192, .iconst 1, 1) (List.mem_of_getElem? (i := 103) rfl)) (by decide) (by decide) (fun v72 e72 => ?_)
                            refine ff_icmp_ne hx hb (eX12_between (193, .if_icmp .ne 8, 3) (List.mem_of_getElem? (i := 104) rfl)) (tgt := 201) rfl (fun c73 => ?_) (fun c73 => ?_)
                            · skip
                              refine lv_lload hx hb (eX12_between (201, .lload 4, 2) (List.mem_of_getElem? (i := 107) rfl)) (lv_at hl 5 rfl) ?_
                              refine lv_aload_n hx hb (eX12_between (203, .aload_n 0, 1) (List.mem_of_getElem? (i := 108) rfl)) rfl (lv_at hl 2 rfl) ?_
                              refine lv_iload_n hx hb (eX12_between (204, .iload_n 1, 1) (List.mem_of_getElem? (i := 109) rfl)) rfl (lv_at hl 3 rfl) ?_
                              refine lv_lload_n hx hb (eX12_between (205, .lload_n 2, 1) (List.mem_of_getElem? (i := 110) rfl)) rfl (lv_at hl 4 rfl) ?_
                              refine lv_lload hx hb (eX12_between (206, .lload 7, 2) (List.mem_of_getElem? (i := 111) rfl)) (lv_at hl 1 rfl) ?_
                              refine lv_lload hx hb (eX12_between (208, .lload 9, 2) (List.mem_of_getElem? (i := 112) rfl)) (lv_at hl 0 rfl) ?_
                              refine tz_rowV (As := [.int zi, .long t0, .long mv, .long dv]) (st := [.long te]) (b := a) (C := RX12) (Ts := gT) hx hb hml hown h2 (fun _ h => h) (hX12_on l D cA ro sz H0 a zi t0 mv dv L Z R zi.toInt.toNat ze rr ha (by omega) hze hrr hoA hoB htk (by omega) (by omega) (by omega) (by omega)) ⟨rfl, rfl⟩ ⟨by decide, by decide⟩ ⟨by decide, by decide⟩ (tb_7 219 rfl rfl) (tb_1 12 rfl rfl) (tb_7 216 rfl rfl) (tb_7 218 rfl rfl) (tb_0 25 rfl rfl) (show yX12_on.cls ≠ "java/lang/invoke/MethodHandle" ∧ yX12_on.cls ≠ "java/lang/invoke/VarHandle" ∧ (parseMethodDescriptor yX12_on.desc).map (fun d => d.parameters.length) = some 4 by decide +kernel) zs_blind (zs_ob hh0 ha (show RTg[11]? = some (0, 11, 0, fsX12) from rfl) (zCX12 hKn.1)) (fun U hU hW => ⟨rfl, by rw [hU]; exact hh0.l0, zKb s U hW.alike hKn, by rw [hU]; exact jyl⟩) hh0.2.2.1 hl.1 (Nat.le_of_ble_eq_true rfl) (eX12_between (210, .invokevirtual 277, 3) (List.mem_of_getElem? (i := 113) rfl)) (fun r74 s74 t74 lo74 g74 f74 l74 => ?_)
                              obtain ⟨v74, q74, e74, z74, c74⟩ := f74
                              cases q74
                              rw [g74] at c74
                              have mf74_a_0 := (c74.1 a 11 0 11 0 fsX12 ha rfl (by decide) (by decide)).trans fth
                              have hh74 : zh_ok D cA RTg ro sz H0 t74.heap lo74 := ⟨z74.1, z74.2.1, l74, z74.2.2.2⟩
                              have kp74 := kpl.trans (c74.mono (ms' := yMr) (by decide))
                              have jy74 := jyl.kept ha c74 (by decide)
                              refine W.eq (g2 := F0 m 213 ls [.long v74, .long te]) rfl ?_
                              have hn9 := go_ne (t1 := te.toInt) hjL hnd hwr hoA hoB htk hM9 ha8 hbm9.2.1 hbd9.2.1 e74
                              have hb8 := go_b hjL hnd hwr hoA hoB e74 hn9
                              refine ff_lsub hx hb (eX12_between (213, .lsub, 1) (List.mem_of_getElem? (i := 114) rfl)) (by omega) (by omega) (fun v75 e75 => ?_)
                              exact W.lret hx hb hr (fun t ht hW => ⟨_, _, _, L, (Z, R), rfl, ⟨_, rfl, rfl⟩, by rw [ht]; exact hh74.l0, by rw [ht]; exact kp74, by rw [ht]; exact mf74_a_0, by rw [ht]; exact jy74, rfl, rfl, Or.inr ⟨by omega, hgb9, ze, rr, hze, hrr, mv.toInt, hbm9, Or.inr (Or.inr ⟨by omega, _, _, hbd9, e74, by omega⟩)⟩⟩) hh74.2.2.1 (eX12_between (214, .lreturn, 1) (List.mem_of_getElem? (i := 115) rfl))
                            · skip
                              refine lv_lload hx hb (eX12_between (196, .lload 9, 2) (List.mem_of_getElem? (i := 105) rfl)) (lv_at hl 0 rfl) ?_
                              refine lv_goto hx hb (eX12_between (198, .goto 16, 3) (List.mem_of_getElem? (i := 106) rfl)) (tgt := 214) rfl ?_
                              exact W.lret hx hb hr (fun t ht hW => ⟨_, _, _, L, (Z, R), rfl, ⟨_, rfl, rfl⟩, by rw [ht]; exact hh0.l0, by rw [ht]; exact kpl, by rw [ht]; exact fth, by rw [ht]; exact jyl, rfl, rfl, Or.inr ⟨by omega, hgb9, ze, rr, hze, hrr, mv.toInt, hbm9, Or.inr (Or.inl ⟨by omega, hbd9⟩)⟩⟩) hh0.2.2.1 (eX12_between (214, .lreturn, 1) (List.mem_of_getElem? (i := 115) rfl))
                          · skip
                            refine lv_lload hx hb (eX12_between (185, .lload 7, 2) (List.mem_of_getElem? (i := 100) rfl)) (lv_at hl 1 rfl) ?_
                            refine lv_goto hx hb (eX12_between (187, .goto 27, 3) (List.mem_of_getElem? (i := 101) rfl)) (tgt := 214) rfl ?_
                            exact W.lret hx hb hr (fun t ht hW => ⟨_, _, _, L, (Z, R), rfl, ⟨_, rfl, rfl⟩, by rw [ht]; exact hh0.l0, by rw [ht]; exact kpl, by rw [ht]; exact fth, by rw [ht]; exact jyl, rfl, rfl, Or.inr ⟨by omega, hgb9, ze, rr, hze, hrr, mv.toInt, hbm9, Or.inl ⟨by omega, rfl⟩⟩⟩) hh0.2.2.1 (eX12_between (214, .lreturn, 1) (List.mem_of_getElem? (i := 115) rfl))
                        · skip
                          refine lv_aload_n hx hb (eX12_between (156, .aload_n 0, 1) (List.mem_of_getElem? (i := 85) rfl)) rfl (lv_at hl 2 rfl) ?_
                          refine lv_iload_n hx hb (eX12_between (157, .iload_n 1, 1) (List.mem_of_getElem? (i := 86) rfl)) rfl (lv_at hl 3 rfl) ?_
                          refine lv_lload_n hx hb (eX12_between (158, .lload_n 2, 1) (List.mem_of_getElem? (i := 87) rfl)) rfl (lv_at hl 4 rfl) ?_
                          refine lv_lload hx hb (eX12_between (159, .lload 7, 2) (List.mem_of_getElem? (i := 88) rfl)) (lv_at hl 1 rfl) ?_
                          refine lv_lload hx hb (eX12_between (161, .lload 9, 2) (List.mem_of_getElem? (i := 89) rfl)) (lv_at hl 0 rfl) ?_
                          refine lv_lload hx hb (eX12_between (163, .lload 4, 2) (List.mem_of_getElem? (i := 90) rfl)) (lv_at hl 5 rfl) ?_
                          refine tz_rowV (As := [.int zi, .long t0, .long mv, .long dv, .long te]) (st := []) (b := a) (C := RX12) (Ts := gT) hx hb hml hown h2 (fun _ h => h) (hX12_isNotBehind l D cA ro sz H0 a zi t0 mv dv te L Z R zi.toInt.toNat ze rr ha (by omega) hze hrr hoA hoB htk (by omega) (by omega) (by omega) (by omega)) ⟨rfl, rfl⟩ ⟨by decide, by decide⟩ ⟨by decide, by decide⟩ (tb_7 236 rfl rfl) (tb_1 12 rfl rfl) (tb_7 233 rfl rfl) (tb_7 235 rfl rfl) (tb_0 27 rfl rfl) (show yX12_isNotBehind.cls ≠ "java/lang/invoke/MethodHandle" ∧ yX12_isNotBehind.cls ≠ "java/lang/invoke/VarHandle" ∧ (parseMethodDescriptor yX12_isNotBehind.desc).map (fun d => d.parameters.length) = some 5 by decide +kernel) zs_blind (zs_ob hh0 ha (show RTg[11]? = some (0, 11, 0, fsX12) from rfl) (zCX12 hKn.1)) (fun U hU hW => ⟨rfl, by rw [hU]; exact hh0.l0, zKb s U hW.alike hKn, by rw [hU]; exact jyl⟩) hh0.2.2.1 hl.1 (Nat.le_of_ble_eq_true rfl) (eX12_between (165, .invokevirtual 287, 3) (List.mem_of_getElem? (i := 91) rfl)) (fun r76 s76 t76 lo76 g76 f76 l76 => ?_)
                          obtain ⟨v76, q76, e76, z76, c76⟩ := f76
                          cases q76
                          rw [g76] at c76
                          have mf76_a_0 := (c76.1 a 11 0 11 0 fsX12 ha rfl (by decide) (by decide)).trans fth
                          have hh76 : zh_ok D cA RTg ro sz H0 t76.heap lo76 := ⟨z76.1, z76.2.1, l76, z76.2.2.2⟩
                          have kp76 := kpl.trans (c76.mono (ms' := yMr) (by decide))
                          have jy76 := jyl.kept ha c76 (by decide)
                          refine W.eq (g2 := F0 m 168 ls [.int v76]) rfl ?_
                          refine ff_if_ne hx hb (eX12_between (168, .ifCond .ne 12, 3) (List.mem_of_getElem? (i := 92) rfl)) (tgt := 180) rfl (fun c77 => ?_) (fun c77 => ?_)
                          · skip
                            have hbd9 : bdR L ze rr t0.toInt te.toInt mv.toInt dv.toInt := ⟨hdv.1, Or.inr (by rcases e76 with h | h; exact h.2; (exfalso; omega)), fun k9 q1 => by by_cases q2 : k9 ≤ 70; exact hdi k9 q1 q2; exact r2_no hjL hnd hwr hoA hoB hmv.1 yn1 yn2 (by omega)⟩
                            refine lv_iload hx hb (eX12_between (180, .iload 6, 2) (List.mem_of_getElem? (i := 98) rfl)) (lv_at hl 6 rfl) ?_
                            refine ff_if_ne hx hb (eX12_between (182, .ifCond .ne 8, 3) (List.mem_of_getElem? (i := 99) rfl)) (tgt := 190) rfl (fun c78 => ?_) (fun c78 => ?_)
                            · skip
                              refine lv_iload hx hb (eX12_between (190, .iload 6, 2) (List.mem_of_getElem? (i := 102) rfl)) (lv_at hl 6 rfl) ?_
                              refine ff_iconst hx hb (eX12_between (192, .iconst 1, 1) (List.mem_of_getElem? (i := 103) rfl)) (by decide) (by decide) (fun v79 e79 => ?_)
                              refine ff_icmp_ne hx hb (eX12_between (193, .if_icmp .ne 8, 3) (List.mem_of_getElem? (i := 104) rfl)) (tgt := 201) rfl (fun c80 => ?_) (fun c80 => ?_)
                              · skip
                                refine lv_lload hx hb (eX12_between (201, .lload 4, 2) (List.mem_of_getElem? (i := 107) rfl)) (lv_at hl 5 rfl) ?_
                                refine lv_aload_n hx hb (eX12_between (203, .aload_n 0, 1) (List.mem_of_getElem? (i := 108) rfl)) rfl (lv_at hl 2 rfl) ?_
                                refine lv_iload_n hx hb (eX12_between (204, .iload_n 1, 1) (List.mem_of_getElem? (i := 109) rfl)) rfl (lv_at hl 3 rfl) ?_
                                refine lv_lload_n hx hb (eX12_between (205, .lload_n 2, 1) (List.mem_of_getElem? (i := 110) rfl)) rfl (lv_at hl 4 rfl) ?_
                                refine lv_lload hx hb (eX12_between (206, .lload 7, 2) (List.mem_of_getElem? (i := 111) rfl)) (lv_at hl 1 rfl) ?_
                                refine lv_lload hx hb (eX12_between (208, .lload 9, 2) (List.mem_of_getElem? (i := 112) rfl)) (lv_at hl 0 rfl) ?_
                                refine tz_rowV (As := [.int zi, .long t0, .long mv, .long dv]) (st := [.long te]) (b := a) (C := RX12) (Ts := gT) hx hb hml hown h2 (fun _ h => h) (hX12_on l D cA ro sz H0 a zi t0 mv dv L Z R zi.toInt.toNat ze rr ha (by omega) hze hrr hoA hoB htk (by omega) (by omega) (by omega) (by omega)) ⟨rfl, rfl⟩ ⟨by decide, by decide⟩ ⟨by decide, by decide⟩ (tb_7 219 rfl rfl) (tb_1 12 rfl rfl) (tb_7 216 rfl rfl) (tb_7 218 rfl rfl) (tb_0 25 rfl rfl) (show yX12_on.cls ≠ "java/lang/invoke/MethodHandle" ∧ yX12_on.cls ≠ "java/lang/invoke/VarHandle" ∧ (parseMethodDescriptor yX12_on.desc).map (fun d => d.parameters.length) = some 4 by decide +kernel) zs_blind (zs_ob hh76 ha (show RTg[11]? = some (0, 11, 0, fsX12) from rfl) (zCX12 hKn.1)) (fun U hU hW => ⟨rfl, by rw [hU]; exact hh76.l0, zKb s U hW.alike hKn, by rw [hU]; exact jy76⟩) hh76.2.2.1 hl.1 (Nat.le_of_ble_eq_true rfl) (eX12_between (210, .invokevirtual 277, 3) (List.mem_of_getElem? (i := 113) rfl)) (fun r81 s81 t81 lo81 g81 f81 l81 => ?_)
                                obtain ⟨v81, q81, e81, z81, c81⟩ := f81
                                cases q81
                                rw [g81] at c81
                                have mf81_a_0 := (c81.1 a 11 0 11 0 fsX12 ha rfl (by decide) (by decide)).trans mf76_a_0
                                have hh81 : zh_ok D cA RTg ro sz H0 t81.heap lo81 := ⟨z81.1, z81.2.1, l81, z81.2.2.2⟩
                                have kp81 := kp76.trans (c81.mono (ms' := yMr) (by decide))
                                have jy81 := jy76.kept ha c81 (by decide)
                                refine W.eq (g2 := F0 m 213 ls [.long v81, .long te]) rfl ?_
                                have hn9 := go_ne (t1 := te.toInt) hjL hnd hwr hoA hoB htk hM9 ha8 hbm9.2.1 hbd9.2.1 e81
                                have hb8 := go_b hjL hnd hwr hoA hoB e81 hn9
                                refine ff_lsub hx hb (eX12_between (213, .lsub, 1) (List.mem_of_getElem? (i := 114) rfl)) (by omega) (by omega) (fun v82 e82 => ?_)
                                exact W.lret hx hb hr (fun t ht hW => ⟨_, _, _, L, (Z, R), rfl, ⟨_, rfl, rfl⟩, by rw [ht]; exact hh81.l0, by rw [ht]; exact kp81, by rw [ht]; exact mf81_a_0, by rw [ht]; exact jy81, rfl, rfl, Or.inr ⟨by omega, hgb9, ze, rr, hze, hrr, mv.toInt, hbm9, Or.inr (Or.inr ⟨by omega, _, _, hbd9, e81, by omega⟩)⟩⟩) hh81.2.2.1 (eX12_between (214, .lreturn, 1) (List.mem_of_getElem? (i := 115) rfl))
                              · skip
                                refine lv_lload hx hb (eX12_between (196, .lload 9, 2) (List.mem_of_getElem? (i := 105) rfl)) (lv_at hl 0 rfl) ?_
                                refine lv_goto hx hb (eX12_between (198, .goto 16, 3) (List.mem_of_getElem? (i := 106) rfl)) (tgt := 214) rfl ?_
                                exact W.lret hx hb hr (fun t ht hW => ⟨_, _, _, L, (Z, R), rfl, ⟨_, rfl, rfl⟩, by rw [ht]; exact hh76.l0, by rw [ht]; exact kp76, by rw [ht]; exact mf76_a_0, by rw [ht]; exact jy76, rfl, rfl, Or.inr ⟨by omega, hgb9, ze, rr, hze, hrr, mv.toInt, hbm9, Or.inr (Or.inl ⟨by omega, hbd9⟩)⟩⟩) hh76.2.2.1 (eX12_between (214, .lreturn, 1) (List.mem_of_getElem? (i := 115) rfl))
                            · skip
                              refine lv_lload hx hb (eX12_between (185, .lload 7, 2) (List.mem_of_getElem? (i := 100) rfl)) (lv_at hl 1 rfl) ?_
                              refine lv_goto hx hb (eX12_between (187, .goto 27, 3) (List.mem_of_getElem? (i := 101) rfl)) (tgt := 214) rfl ?_
                              exact W.lret hx hb hr (fun t ht hW => ⟨_, _, _, L, (Z, R), rfl, ⟨_, rfl, rfl⟩, by rw [ht]; exact hh76.l0, by rw [ht]; exact kp76, by rw [ht]; exact mf76_a_0, by rw [ht]; exact jy76, rfl, rfl, Or.inr ⟨by omega, hgb9, ze, rr, hze, hrr, mv.toInt, hbm9, Or.inl ⟨by omega, rfl⟩⟩⟩) hh76.2.2.1 (eX12_between (214, .lreturn, 1) (List.mem_of_getElem? (i := 115) rfl))
                          · skip
                            refine lv_lload hx hb (eX12_between (171, .lload 9, 2) (List.mem_of_getElem? (i := 93) rfl)) (lv_at hl 0 rfl) ?_
                            refine ff_lconst hx hb (eX12_between (173, .lconst 1, 1) (List.mem_of_getElem? (i := 94) rfl)) rfl (fun v83 e83 => ?_)
                            refine ff_lsub hx hb (eX12_between (174, .lsub, 1) (List.mem_of_getElem? (i := 95) rfl)) (by omega) (by omega) (fun v84 e84 => ?_)
                            refine lv_lstore hx hb (eX12_between (175, .lstore 9, 2) (List.mem_of_getElem? (i := 96) rfl)) hl (by decide) rfl (fun ls85 hl85 => ?_)
                            refine lv_goto hx hb (eX12_between (177, .goto (-28), 3) (List.mem_of_getElem? (i := 97) rfl)) (tgt := 149) rfl ?_
                            exact ih2 v84 ls85 _ _ (by omega) (by omega) (fun k9 q1 q2 => by by_cases e9 : k9 = dv.toInt; (rw [e9]; rcases e76 with h | h; (exfalso; omega); (obtain ⟨y, y1, y2⟩ := h.2; rintro ⟨x9, x1, x2, x3⟩; have x4 := goR_one x1 y1; rcases y2 with w | w; exact x2 (by omega); omega)); exact hdi k9 (by omega) q2) hh76 kp76 jy76 mf76_a_0 (lv_sub hl85 [0, 1, 2, 3, 4, 5, 6] rfl)
                    exact lp2 70 v58 ls59 _ _ (by omega) (by omega) (fun k9 q1 q2 => by exfalso; omega) hh0 kpl jyl fth (lv_sub hl59 [0, 1, 2, 3, 4, 5, 6] rfl)
                  | succ n9 ih =>
                    intro mv ls H lo0 hmn hmv hmi hh0 kpl jyl fth hl
                    refine lv_lload hx hb (eX12_between (114, .lload 7, 2) (List.mem_of_getElem? (i := 62) rfl)) (lv_at hl 0 rfl) ?_
                    refine ff_lconst hx hb (eX12_between (116, .lconst 0, 1) (List.mem_of_getElem? (i := 63) rfl)) rfl (fun v86 e86 => ?_)
                    refine ff_lcmp hx hb (eX12_between (117, .lcmp, 1) (List.mem_of_getElem? (i := 64) rfl)) (fun v87 e87 => ?_)
                    refine ff_if_le hx hb (eX12_between (118, .ifCond .le 26, 3) (List.mem_of_getElem? (i := 65) rfl)) (tgt := 144) rfl (fun c88 => ?_) (fun c88 => ?_)
                    · skip
                      obtain ⟨hbm9, yn, yn1, yn2⟩ := r_bm hjL hnd hwr hoA hoB hte9 hmv.1 (Or.inl (by omega)) hmi
                      refine ff_ldc2 (n := 70) hx hb hown h2 (clX12_ok 291 70 (List.mem_of_getElem? (i := 31) rfl)) (eX12_between (144, .ldc2_w 291, 3) (List.mem_of_getElem? (i := 79) rfl)) (fun v89 e89 => ?_)
                      refine lv_lstore hx hb (eX12_between (147, .lstore 9, 2) (List.mem_of_getElem? (i := 80) rfl)) hl (by decide) rfl (fun ls90 hl90 => ?_)
                      have lp2 : ∀ (n9 : Nat) (dv : Int64) (ls : Array Slot) (H : Heap) (lo0 : List Loc), dv.toInt ≤ (n9 : Int) → (0 ≤ dv.toInt ∧ dv.toInt ≤ 70) → (∀ k9 : Int, dv.toInt < k9 → k9 ≤ 70 → ¬ okG L ze rr t0.toInt te.toInt mv.toInt k9) → zh_ok D cA RTg ro sz H0 H lo0 → zc_kept D RTg ro yMr s.heap H → jRY D cA ro H a L (Z, R) → zh_f D H a 11 0 = .int v38 → lv_has ls 11 [(9, .long dv), (7, .long mv), (0, .ref a), (1, .int zi), (2, .long t0), (4, .long te), (6, .int w0)] → W p l e (headSpec (gW yX12_between cX12_between 11 (some .long)) { frames := 11, cells := 0, slots := 0, locals := 329 }).room s m ([.ref a, .int zi, .long t0, .long te, .int w0] : List Value).toArray below meth c H lo0 0 0 (MQ below (yy_QR D cA ro sz H0 a vL (spBY zi.toInt t0.toInt te.toInt w0.toInt L (Z, R))) ([.ref a, .int zi, .long t0, .long te, .int w0] : List Value).toArray s 0 0 (zy_fr sz)) (F0 m 149 ls []) := by
                        intro n9
                        induction n9 with
                        | zero =>
                          intro dv ls H lo0 hdn hdv hdi hh0 kpl jyl fth hl
                          refine lv_lload hx hb (eX12_between (149, .lload 9, 2) (List.mem_of_getElem? (i := 81) rfl)) (lv_at hl 0 rfl) ?_
                          refine ff_lconst hx hb (eX12_between (151, .lconst 0, 1) (List.mem_of_getElem? (i := 82) rfl)) rfl (fun v91 e91 => ?_)
                          refine ff_lcmp hx hb (eX12_between (152, .lcmp, 1) (List.mem_of_getElem? (i := 83) rfl)) (fun v92 e92 => ?_)
                          refine ff_if_le hx hb (eX12_between (153, .ifCond .le 27, 3) (List.mem_of_getElem? (i := 84) rfl)) (tgt := 180) rfl (fun c93 => ?_) (fun c93 => (by exfalso; omega))
                          have hbd9 : bdR L ze rr t0.toInt te.toInt mv.toInt dv.toInt := ⟨hdv.1, Or.inl (by omega), fun k9 q1 => by by_cases q2 : k9 ≤ 70; exact hdi k9 q1 q2; exact r2_no hjL hnd hwr hoA hoB hmv.1 yn1 yn2 (by omega)⟩
                          refine lv_iload hx hb (eX12_between (180, .iload 6, 2) (List.mem_of_getElem? (i := 98) rfl)) (lv_at hl 6 rfl) ?_
                          refine ff_if_ne hx hb (eX12_between (182, .ifCond .ne 8, 3) (List.mem_of_getElem? (i := 99) rfl)) (tgt := 190) rfl (fun c94 => ?_) (fun c94 => ?_)
                          · skip
                            refine lv_iload hx hb (eX12_between (190, .iload 6, 2) (List.mem_of_getElem? (i := 102) rfl)) (lv_at hl 6 rfl) ?_
                            refine ff_iconst hx hb (eX12_between (192, .iconst 1, 1) (List.mem_of_getElem? (i := 103) rfl)) (by decide) (by decide) (fun v95 e95 => ?_)
                            refine ff_icmp_ne hx hb (eX12_between (193, .if_icmp .ne 8, 3) (List.mem_of_getElem? (i := 104) rfl)) (tgt := 201) rfl (fun c96 => ?_) (fun c96 => ?_)
                            · skip
                              refine lv_lload hx hb (eX12_between (201, .lload 4, 2) (List.mem_of_getElem? (i := 107) rfl)) (lv_at hl 5 rfl) ?_
                              refine lv_aload_n hx hb (eX12_between (203, .aload_n 0, 1) (List.mem_of_getElem? (i := 108) rfl)) rfl (lv_at hl 2 rfl) ?_
                              refine lv_iload_n hx hb (eX12_between (204, .iload_n 1, 1) (List.mem_of_getElem? (i := 109) rfl)) rfl (lv_at hl 3 rfl) ?_
                              refine lv_lload_n hx hb (eX12_between (205, .lload_n 2, 1) (List.mem_of_getElem? (i := 110) rfl)) rfl (lv_at hl 4 rfl) ?_
                              refine lv_lload hx hb (eX12_between (206, .lload 7, 2) (List.mem_of_getElem? (i := 111) rfl)) (lv_at hl 1 rfl) ?_
                              refine lv_lload hx hb (eX12_between (208, .lload 9, 2) (List.mem_of_getElem? (i := 112) rfl)) (lv_at hl 0 rfl) ?_
                              refine tz_rowV (As := [.int zi, .long t0, .long mv, .long dv]) (st := [.long te]) (b := a) (C := RX12) (Ts := gT) hx hb hml hown h2 (fun _ h => h) (hX12_on l D cA ro sz H0 a zi t0 mv dv L Z R zi.toInt.toNat ze rr ha (by omega) hze hrr hoA hoB htk (by omega) (by omega) (by omega) (by omega)) ⟨rfl, rfl⟩ ⟨by decide, by decide⟩ ⟨by decide, by decide⟩ (tb_7 219 rfl rfl) (tb_1 12 rfl rfl) (tb_7 216 rfl rfl) (tb_7 218 rfl rfl) (tb_0 25 rfl rfl) (show yX12_on.cls ≠ "java/lang/invoke/MethodHandle" ∧ yX12_on.cls ≠ "java/lang/invoke/VarHandle" ∧ (parseMethodDescriptor yX12_on.desc).map (fun d => d.parameters.length) = some 4 by decide +kernel) zs_blind (zs_ob hh0 ha (show RTg[11]? = some (0, 11, 0, fsX12) from rfl) (zCX12 hKn.1)) (fun U hU hW => ⟨rfl, by rw [hU]; exact hh0.l0, zKb s U hW.alike hKn, by rw [hU]; exact jyl⟩) hh0.2.2.1 hl.1 (Nat.le_of_ble_eq_true rfl) (eX12_between (210, .invokevirtual 277, 3) (List.mem_of_getElem? (i := 113) rfl)) (fun r97 s97 t97 lo97 g97 f97 l97 => ?_)
                              obtain ⟨v97, q97, e97, z97, c97⟩ := f97
                              cases q97
                              rw [g97] at c97
                              have mf97_a_0 := (c97.1 a 11 0 11 0 fsX12 ha rfl (by decide) (by decide)).trans fth
                              have hh97 : zh_ok D cA RTg ro sz H0 t97.heap lo97 := ⟨z97.1, z97.2.1, l97, z97.2.2.2⟩
                              have kp97 := kpl.trans (c97.mono (ms' := yMr) (by decide))
                              have jy97 := jyl.kept ha c97 (by decide)
                              refine W.eq (g2 := F0 m 213 ls [.long v97, .long te]) rfl ?_
                              have hn9 := go_ne (t1 := te.toInt) hjL hnd hwr hoA hoB htk hM9 ha8 hbm9.2.1 hbd9.2.1 e97
                              have hb8 := go_b hjL hnd hwr hoA hoB e97 hn9
                              refine ff_lsub hx hb (eX12_between (213, .lsub, 1) (List.mem_of_getElem? (i := 114) rfl)) (by omega) (by omega) (fun v98 e98 => ?_)
                              exact W.lret hx hb hr (fun t ht hW => ⟨_, _, _, L, (Z, R), rfl, ⟨_, rfl, rfl⟩, by rw [ht]; exact hh97.l0, by rw [ht]; exact kp97, by rw [ht]; exact mf97_a_0, by rw [ht]; exact jy97, rfl, rfl, Or.inr ⟨by omega, hgb9, ze, rr, hze, hrr, mv.toInt, hbm9, Or.inr (Or.inr ⟨by omega, _, _, hbd9, e97, by omega⟩)⟩⟩) hh97.2.2.1 (eX12_between (214, .lreturn, 1) (List.mem_of_getElem? (i := 115) rfl))
                            · skip
                              refine lv_lload hx hb (eX12_between (196, .lload 9, 2) (List.mem_of_getElem? (i := 105) rfl)) (lv_at hl 0 rfl) ?_
                              refine lv_goto hx hb (eX12_between (198, .goto 16, 3) (List.mem_of_getElem? (i := 106) rfl)) (tgt := 214) rfl ?_
                              exact W.lret hx hb hr (fun t ht hW => ⟨_, _, _, L, (Z, R), rfl, ⟨_, rfl, rfl⟩, by rw [ht]; exact hh0.l0, by rw [ht]; exact kpl, by rw [ht]; exact fth, by rw [ht]; exact jyl, rfl, rfl, Or.inr ⟨by omega, hgb9, ze, rr, hze, hrr, mv.toInt, hbm9, Or.inr (Or.inl ⟨by omega, hbd9⟩)⟩⟩) hh0.2.2.1 (eX12_between (214, .lreturn, 1) (List.mem_of_getElem? (i := 115) rfl))
                          · skip
                            refine lv_lload hx hb (eX12_between (185, .lload 7, 2) (List.mem_of_getElem? (i := 100) rfl)) (lv_at hl 1 rfl) ?_
                            refine lv_goto hx hb (eX12_between (187, .goto 27, 3) (List.mem_of_getElem? (i := 101) rfl)) (tgt := 214) rfl ?_
                            exact W.lret hx hb hr (fun t ht hW => ⟨_, _, _, L, (Z, R), rfl, ⟨_, rfl, rfl⟩, by rw [ht]; exact hh0.l0, by rw [ht]; exact kpl, by rw [ht]; exact fth, by rw [ht]; exact jyl, rfl, rfl, Or.inr ⟨by omega, hgb9, ze, rr, hze, hrr, mv.toInt, hbm9, Or.inl ⟨by omega, rfl⟩⟩⟩) hh0.2.2.1 (eX12_between (214, .lreturn, 1) (List.mem_of_getElem? (i := 115) rfl))
                        | succ n9 ih2 =>
                          intro dv ls H lo0 hdn hdv hdi hh0 kpl jyl fth hl
                          refine lv_lload hx hb (eX12_between (149, .lload 9, 2) (List.mem_of_getElem? (i := 81) rfl)) (lv_at hl 0 rfl) ?_
                          refine ff_lconst hx hb (eX12_between (151, .lconst 0, 1) (List.mem_of_getElem? (i := 82) rfl)) rfl (fun v99 e99 => ?_)
                          refine ff_lcmp hx hb (eX12_between (152, .lcmp, 1) (List.mem_of_getElem? (i := 83) rfl)) (fun v100 e100 => ?_)
                          refine ff_if_le hx hb (eX12_between (153, .ifCond .le 27, 3) (List.mem_of_getElem? (i := 84) rfl)) (tgt := 180) rfl (fun c101 => ?_) (fun c101 => ?_)
                          · skip
                            have hbd9 : bdR L ze rr t0.toInt te.toInt mv.toInt dv.toInt := ⟨hdv.1, Or.inl (by omega), fun k9 q1 => by by_cases q2 : k9 ≤ 70; exact hdi k9 q1 q2; exact r2_no hjL hnd hwr hoA hoB hmv.1 yn1 yn2 (by omega)⟩
                            refine lv_iload hx hb (eX12_between (180, .iload 6, 2) (List.mem_of_getElem? (i := 98) rfl)) (lv_at hl 6 rfl) ?_
                            refine ff_if_ne hx hb (eX12_between (182, .ifCond .ne 8, 3) (List.mem_of_getElem? (i := 99) rfl)) (tgt := 190) rfl (fun c102 => ?_) (fun c102 => ?_)
                            · skip
                              refine lv_iload hx hb (eX12_between (190, .iload 6, 2) (List.mem_of_getElem? (i := 102) rfl)) (lv_at hl 6 rfl) ?_
                              refine ff_iconst hx hb (eX12_between (192, .iconst 1, 1) (List.mem_of_getElem? (i := 103) rfl)) (by decide) (by decide) (fun v103 e103 => ?_)
                              refine ff_icmp_ne hx hb (eX12_between (193, .if_icmp .ne 8, 3) (List.mem_of_getElem? (i := 104) rfl)) (tgt := 201) rfl (fun c104 => ?_) (fun c104 => ?_)
                              · skip
                                refine lv_lload hx hb (eX12_between (201, .lload 4, 2) (List.mem_of_getElem? (i := 107) rfl)) (lv_at hl 5 rfl) ?_
                                refine lv_aload_n hx hb (eX12_between (203, .aload_n 0, 1) (List.mem_of_getElem? (i := 108) rfl)) rfl (lv_at hl 2 rfl) ?_
                                refine lv_iload_n hx hb (eX12_between (204, .iload_n 1, 1) (List.mem_of_getElem? (i := 109) rfl)) rfl (lv_at hl 3 rfl) ?_
                                refine lv_lload_n hx hb (eX12_between (205, .lload_n 2, 1) (List.mem_of_getElem? (i := 110) rfl)) rfl (lv_at hl 4 rfl) ?_
                                refine lv_lload hx hb (eX12_between (206, .lload 7, 2) (List.mem_of_getElem? (i := 111) rfl)) (lv_at hl 1 rfl) ?_
                                refine lv_lload hx hb (eX12_between (208, .lload 9, 2) (List.mem_of_getElem? (i := 112) rfl)) (lv_at hl 0 rfl) ?_
                                refine tz_rowV (As := [.int zi, .long t0, .long mv, .long dv]) (st := [.long te]) (b := a) (C := RX12) (Ts := gT) hx hb hml hown h2 (fun _ h => h) (hX12_on l D cA ro sz H0 a zi t0 mv dv L Z R zi.toInt.toNat ze rr ha (by omega) hze hrr hoA hoB htk (by omega) (by omega) (by omega) (by omega)) ⟨rfl, rfl⟩ ⟨by decide, by decide⟩ ⟨by decide, by decide⟩ (tb_7 219 rfl rfl) (tb_1 12 rfl rfl) (tb_7 216 rfl rfl) (tb_7 218 rfl rfl) (tb_0 25 rfl rfl) (show yX12_on.cls ≠ "java/lang/invoke/MethodHandle" ∧ yX12_on.cls ≠ "java/lang/invoke/VarHandle" ∧ (parseMethodDescriptor yX12_on.desc).map (fun d => d.parameters.length) = some 4 by decide +kernel) zs_blind (zs_ob hh0 ha (show RTg[11]? = some (0, 11, 0, fsX12) from rfl) (zCX12 hKn.1)) (fun U hU hW => ⟨rfl, by rw [hU]; exact hh0.l0, zKb s U hW.alike hKn, by rw [hU]; exact jyl⟩) hh0.2.2.1 hl.1 (Nat.le_of_ble_eq_true rfl) (eX12_between (210, .invokevirtual 277, 3) (List.mem_of_getElem? (i := 113) rfl)) (fun r105 s105 t105 lo105 g105 f105 l105 => ?_)
                                obtain ⟨v105, q105, e105, z105, c105⟩ := f105
                                cases q105
                                rw [g105] at c105
                                have mf105_a_0 := (c105.1 a 11 0 11 0 fsX12 ha rfl (by decide) (by decide)).trans fth
                                have hh105 : zh_ok D cA RTg ro sz H0 t105.heap lo105 := ⟨z105.1, z105.2.1, l105, z105.2.2.2⟩
                                have kp105 := kpl.trans (c105.mono (ms' := yMr) (by decide))
                                have jy105 := jyl.kept ha c105 (by decide)
                                refine W.eq (g2 := F0 m 213 ls [.long v105, .long te]) rfl ?_
                                have hn9 := go_ne (t1 := te.toInt) hjL hnd hwr hoA hoB htk hM9 ha8 hbm9.2.1 hbd9.2.1 e105
                                have hb8 := go_b hjL hnd hwr hoA hoB e105 hn9
                                refine ff_lsub hx hb (eX12_between (213, .lsub, 1) (List.mem_of_getElem? (i := 114) rfl)) (by omega) (by omega) (fun v106 e106 => ?_)
                                exact W.lret hx hb hr (fun t ht hW => ⟨_, _, _, L, (Z, R), rfl, ⟨_, rfl, rfl⟩, by rw [ht]; exact hh105.l0, by rw [ht]; exact kp105, by rw [ht]; exact mf105_a_0, by rw [ht]; exact jy105, rfl, rfl, Or.inr ⟨by omega, hgb9, ze, rr, hze, hrr, mv.toInt, hbm9, Or.inr (Or.inr ⟨by omega, _, _, hbd9, e105, by omega⟩)⟩⟩) hh105.2.2.1 (eX12_between (214, .lreturn, 1) (List.mem_of_getElem? (i := 115) rfl))
                              · skip
                                refine lv_lload hx hb (eX12_between (196, .lload 9, 2) (List.mem_of_getElem? (i := 105) rfl)) (lv_at hl 0 rfl) ?_
                                refine lv_goto hx hb (eX12_between (198, .goto 16, 3) (List.mem_of_getElem? (i := 106) rfl)) (tgt := 214) rfl ?_
                                exact W.lret hx hb hr (fun t ht hW => ⟨_, _, _, L, (Z, R), rfl, ⟨_, rfl, rfl⟩, by rw [ht]; exact hh0.l0, by rw [ht]; exact kpl, by rw [ht]; exact fth, by rw [ht]; exact jyl, rfl, rfl, Or.inr ⟨by omega, hgb9, ze, rr, hze, hrr, mv.toInt, hbm9, Or.inr (Or.inl ⟨by omega, hbd9⟩)⟩⟩) hh0.2.2.1 (eX12_between (214, .lreturn, 1) (List.mem_of_getElem? (i := 115) rfl))
                            · skip
                              refine lv_lload hx hb (eX12_between (185, .lload 7, 2) (List.mem_of_getElem? (i := 100) rfl)) (lv_at hl 1 rfl) ?_
                              refine lv_goto hx hb (eX12_between (187, .goto 27, 3) (List.mem_of_getElem? (i := 101) rfl)) (tgt := 214) rfl ?_
                              exact W.lret hx hb hr (fun t ht hW => ⟨_, _, _, L, (Z, R), rfl, ⟨_, rfl, rfl⟩, by rw [ht]; exact hh0.l0, by rw [ht]; exact kpl, by rw [ht]; exact fth, by rw [ht]; exact jyl, rfl, rfl, Or.inr ⟨by omega, hgb9, ze, rr, hze, hrr, mv.toInt, hbm9, Or.inl ⟨by omega, rfl⟩⟩⟩) hh0.2.2.1 (eX12_between (214, .lreturn, 1) (List.mem_of_getElem? (i := 115) rfl))
                          · skip
                            refine lv_aload_n hx hb (eX12_between (156, .aload_n 0, 1) (List.mem_of_getElem? (i := 85) rfl)) rfl (lv_at hl 2 rfl) ?_
                            refine lv_iload_n hx hb (eX12_between (157, .iload_n 1, 1) (List.mem_of_getElem? (i := 86) rfl)) rfl (lv_at hl 3 rfl) ?_
                            refine lv_lload_n hx hb (eX12_between (158, .lload_n 2, 1) (List.mem_of_getElem? (i := 87) rfl)) rfl (lv_at hl 4 rfl) ?_
                            refine lv_lload hx hb (eX12_between (159, .lload 7, 2) (List.mem_of_getElem? (i := 88) rfl)) (lv_at hl 1 rfl) ?_
                            refine lv_lload hx hb (eX12_between (161, .lload 9, 2) (List.mem_of_getElem? (i := 89) rfl)) (lv_at hl 0 rfl) ?_
                            refine lv_lload hx hb (eX12_between (163, .lload 4, 2) (List.mem_of_getElem? (i := 90) rfl)) (lv_at hl 5 rfl) ?_
                            refine tz_rowV (As := [.int zi, .long t0, .long mv, .long dv, .long te]) (st := []) (b := a) (C := RX12) (Ts := gT) hx hb hml hown h2 (fun _ h => h) (hX12_isNotBehind l D cA ro sz H0 a zi t0 mv dv te L Z R zi.toInt.toNat ze rr ha (by omega) hze hrr hoA hoB htk (by omega) (by omega) (by omega) (by omega)) ⟨rfl, rfl⟩ ⟨by decide, by decide⟩ ⟨by decide, by decide⟩ (tb_7 236 rfl rfl) (tb_1 12 rfl rfl) (tb_7 233 rfl rfl) (tb_7 235 rfl rfl) (tb_0 27 rfl rfl) (show yX12_isNotBehind.cls ≠ "java/lang/invoke/MethodHandle" ∧ yX12_isNotBehind.cls ≠ "java/lang/invoke/VarHandle" ∧ (parseMethodDescriptor yX12_isNotBehind.desc).map (fun d => d.parameters.length) = some 5 by decide +kernel) zs_blind (zs_ob hh0 ha (show RTg[11]? = some (0, 11, 0, fsX12) from rfl) (zCX12 hKn.1)) (fun U hU hW => ⟨rfl, by rw [hU]; exact hh0.l0, zKb s U hW.alike hKn, by rw [hU]; exact jyl⟩) hh0.2.2.1 hl.1 (Nat.le_of_ble_eq_true rfl) (eX12_between (165, .invokevirtual 287, 3) (List.mem_of_getElem? (i := 91) rfl)) (fun r107 s107 t107 lo107 g107 f107 l107 => ?_)
                            obtain ⟨v107, q107, e107, z107, c107⟩ := f107
                            cases q107
                            rw [g107] at c107
                            have mf107_a_0 := (c107.1 a 11 0 11 0 fsX12 ha rfl (by decide) (by decide)).trans fth
                            have hh107 : zh_ok D cA RTg ro sz H0 t107.heap lo107 := ⟨z107.1, z107.2.1, l107, z107.2.2.2⟩
                            have kp107 := kpl.trans (c107.mono (ms' := yMr) (by decide))
                            have jy107 := jyl.kept ha c107 (by decide)
                            refine W.eq (g2 := F0 m 168 ls [.int v107]) rfl ?_
                            refine ff_if_ne hx hb (eX12_between (168, .ifCond .ne 12, 3) (List.mem_of_getElem? (i := 92) rfl)) (tgt := 180) rfl (fun c108 => ?_) (fun c108 => ?_)
                            · skip
                              have hbd9 : bdR L ze rr t0.toInt te.toInt mv.toInt dv.toInt := ⟨hdv.1, Or.inr (by rcases e107 with h | h; exact h.2; (exfalso; omega)), fun k9 q1 => by by_cases q2 : k9 ≤ 70; exact hdi k9 q1 q2; exact r2_no hjL hnd hwr hoA hoB hmv.1 yn1 yn2 (by omega)⟩
                              refine lv_iload hx hb (eX12_between (180, .iload 6, 2) (List.mem_of_getElem? (i := 98) rfl)) (lv_at hl 6 rfl) ?_
                              refine ff_if_ne hx hb (eX12_between (182, .ifCond .ne 8, 3) (List.mem_of_getElem? (i := 99) rfl)) (tgt := 190) rfl (fun c109 => ?_) (fun c109 => ?_)
                              · skip
                                refine lv_iload hx hb (eX12_between (190, .iload 6, 2) (List.mem_of_getElem? (i := 102) rfl)) (lv_at hl 6 rfl) ?_
                                refine ff_iconst hx hb (eX12_between (192, .iconst 1, 1) (List.mem_of_getElem? (i := 103) rfl)) (by decide) (by decide) (fun v110 e110 => ?_)
                                refine ff_icmp_ne hx hb (eX12_between (193, .if_icmp .ne 8, 3) (List.mem_of_getElem? (i := 104) rfl)) (tgt := 201) rfl (fun c111 => ?_) (fun c111 => ?_)
                                · skip
                                  refine lv_lload hx hb (eX12_between (201, .lload 4, 2) (List.mem_of_getElem? (i := 107) rfl)) (lv_at hl 5 rfl) ?_
                                  refine lv_aload_n hx hb (eX12_between (203, .aload_n 0, 1) (List.mem_of_getElem? (i := 108) rfl)) rfl (lv_at hl 2 rfl) ?_
                                  refine lv_iload_n hx hb (eX12_between (204, .iload_n 1, 1) (List.mem_of_getElem? (i := 109) rfl)) rfl (lv_at hl 3 rfl) ?_
                                  refine lv_lload_n hx hb (eX12_between (205, .lload_n 2, 1) (List.mem_of_getElem? (i := 110) rfl)) rfl (lv_at hl 4 rfl) ?_
                                  refine lv_lload hx hb (eX12_between (206, .lload 7, 2) (List.mem_of_getElem? (i := 111) rfl)) (lv_at hl 1 rfl) ?_
                                  refine lv_lload hx hb (eX12_between (208, .lload 9, 2) (List.mem_of_getElem? (i := 112) rfl)) (lv_at hl 0 rfl) ?_
                                  refine tz_rowV (As := [.int zi, .long t0, .long mv, .long dv]) (st := [.long te]) (b := a) (C := RX12) (Ts := gT) hx hb hml hown h2 (fun _ h => h) (hX12_on l D cA ro sz H0 a zi t0 mv dv L Z R zi.toInt.toNat ze rr ha (by omega) hze hrr hoA hoB htk (by omega) (by omega) (by omega) (by omega)) ⟨rfl, rfl⟩ ⟨by decide, by decide⟩ ⟨by decide, by decide⟩ (tb_7 219 rfl rfl) (tb_1 12 rfl rfl) (tb_7 216 rfl rfl) (tb_7 218 rfl rfl) (tb_0 25 rfl rfl) (show yX12_on.cls ≠ "java/lang/invoke/MethodHandle" ∧ yX12_on.cls ≠ "java/lang/invoke/VarHandle" ∧ (parseMethodDescriptor yX12_on.desc).map (fun d => d.parameters.length) = some 4 by decide +kernel) zs_blind (zs_ob hh107 ha (show RTg[11]? = some (0, 11, 0, fsX12) from rfl) (zCX12 hKn.1)) (fun U hU hW => ⟨rfl, by rw [hU]; exact hh107.l0, zKb s U hW.alike hKn, by rw [hU]; exact jy107⟩) hh107.2.2.1 hl.1 (Nat.le_of_ble_eq_true rfl) (eX12_between (210, .invokevirtual 277, 3) (List.mem_of_getElem? (i := 113) rfl)) (fun r112 s112 t112 lo112 g112 f112 l112 => ?_)
                                  obtain ⟨v112, q112, e112, z112, c112⟩ := f112
                                  cases q112
                                  rw [g112] at c112
                                  have mf112_a_0 := (c112.1 a 11 0 11 0 fsX12 ha rfl (by decide) (by decide)).trans mf107_a_0
                                  have hh112 : zh_ok D cA RTg ro sz H0 t112.heap lo112 := ⟨z112.1, z112.2.1, l112, z112.2.2.2⟩
                                  have kp112 := kp107.trans (c112.mono (ms' := yMr) (by decide))
                                  have jy112 := jy107.kept ha c112 (by decide)
                                  refine W.eq (g2 := F0 m 213 ls [.long v112, .long te]) rfl ?_
                                  have hn9 := go_ne (t1 := te.toInt) hjL hnd hwr hoA hoB htk hM9 ha8 hbm9.2.1 hbd9.2.1 e112
                                  have hb8 := go_b hjL hnd hwr hoA hoB e112 hn9
                                  refine ff_lsub hx hb (eX12_between (213, .lsub, 1) (List.mem_of_getElem? (i := 114) rfl)) (by omega) (by omega) (fun v113 e113 => ?_)
                                  exact W.lret hx hb hr (fun t ht hW => ⟨_, _, _, L, (Z, R), rfl, ⟨_, rfl, rfl⟩, by rw [ht]; exact hh112.l0, by rw [ht]; exact kp112, by rw [ht]; exact mf112_a_0, by rw [ht]; exact jy112, rfl, rfl, Or.inr ⟨by omega, hgb9, ze, rr, hze, hrr, mv.toInt, hbm9, Or.inr (Or.inr ⟨by omega, _, _, hbd9, e112, by omega⟩)⟩⟩) hh112.2.2.1 (eX12_between (214, .lreturn, 1) (List.mem_of_getElem? (i := 115) rfl))
                                · skip
                                  refine lv_lload hx hb (eX12_between (196, .lload 9, 2) (List.mem_of_getElem? (i := 105) rfl)) (lv_at hl 0 rfl) ?_
                                  refine lv_goto hx hb (eX12_between (198, .goto 16, 3) (List.mem_of_getElem? (i := 106) rfl)) (tgt := 214) rfl ?_
                                  exact W.lret hx hb hr (fun t ht hW => ⟨_, _, _, L, (Z, R), rfl, ⟨_, rfl, rfl⟩, by rw [ht]; exact hh107.l0, by rw [ht]; exact kp107, by rw [ht]; exact mf107_a_0, by rw [ht]; exact jy107, rfl, rfl, Or.inr ⟨by omega, hgb9, ze, rr, hze, hrr, mv.toInt, hbm9, Or.inr (Or.inl ⟨by omega, hbd9⟩)⟩⟩) hh107.2.2.1 (eX12_between (214, .lreturn, 1) (List.mem_of_getElem? (i := 115) rfl))
                              · skip
                                refine lv_lload hx hb (eX12_between (185, .lload 7, 2) (List.mem_of_getElem? (i := 100) rfl)) (lv_at hl 1 rfl) ?_
                                refine lv_goto hx hb (eX12_between (187, .goto 27, 3) (List.mem_of_getElem? (i := 101) rfl)) (tgt := 214) rfl ?_
                                exact W.lret hx hb hr (fun t ht hW => ⟨_, _, _, L, (Z, R), rfl, ⟨_, rfl, rfl⟩, by rw [ht]; exact hh107.l0, by rw [ht]; exact kp107, by rw [ht]; exact mf107_a_0, by rw [ht]; exact jy107, rfl, rfl, Or.inr ⟨by omega, hgb9, ze, rr, hze, hrr, mv.toInt, hbm9, Or.inl ⟨by omega, rfl⟩⟩⟩) hh107.2.2.1 (eX12_between (214, .lreturn, 1) (List.mem_of_getElem? (i := 115) rfl))
                            · skip
                              refine lv_lload hx hb (eX12_between (171, .lload 9, 2) (List.mem_of_getElem? (i := 93) rfl)) (lv_at hl 0 rfl) ?_
                              refine ff_lconst hx hb (eX12_between (173, .lconst 1, 1) (List.mem_of_getElem? (i := 94) rfl)) rfl (fun v114 e114 => ?_)
                              refine ff_lsub hx hb (eX12_between (174, .lsub, 1) (List.mem_of_getElem? (i := 95) rfl)) (by omega) (by omega) (fun v115 e115 => ?_)
                              refine lv_lstore hx hb (eX12_between (175, .lstore 9, 2) (List.mem_of_getElem? (i := 96) rfl)) hl (by decide) rfl (fun ls116 hl116 => ?_)
                              refine lv_goto hx hb (eX12_between (177, .goto (-28), 3) (List.mem_of_getElem? (i := 97) rfl)) (tgt := 149) rfl ?_
                              exact ih2 v115 ls116 _ _ (by omega) (by omega) (fun k9 q1 q2 => by by_cases e9 : k9 = dv.toInt; (rw [e9]; rcases e107 with h | h; (exfalso; omega); (obtain ⟨y, y1, y2⟩ := h.2; rintro ⟨x9, x1, x2, x3⟩; have x4 := goR_one x1 y1; rcases y2 with w | w; exact x2 (by omega); omega)); exact hdi k9 (by omega) q2) hh107 kp107 jy107 mf107_a_0 (lv_sub hl116 [0, 1, 2, 3, 4, 5, 6] rfl)
                      exact lp2 70 v89 ls90 _ _ (by omega) (by omega) (fun k9 q1 q2 => by exfalso; omega) hh0 kpl jyl fth (lv_sub hl90 [0, 1, 2, 3, 4, 5, 6] rfl)
                    · skip
                      refine lv_aload_n hx hb (eX12_between (121, .aload_n 0, 1) (List.mem_of_getElem? (i := 66) rfl)) rfl (lv_at hl 1 rfl) ?_
                      refine lv_iload_n hx hb (eX12_between (122, .iload_n 1, 1) (List.mem_of_getElem? (i := 67) rfl)) rfl (lv_at hl 2 rfl) ?_
                      refine lv_lload_n hx hb (eX12_between (123, .lload_n 2, 1) (List.mem_of_getElem? (i := 68) rfl)) rfl (lv_at hl 3 rfl) ?_
                      refine lv_lload hx hb (eX12_between (124, .lload 7, 2) (List.mem_of_getElem? (i := 69) rfl)) (lv_at hl 0 rfl) ?_
                      refine ff_lconst hx hb (eX12_between (126, .lconst 0, 1) (List.mem_of_getElem? (i := 70) rfl)) rfl (fun v117 e117 => ?_)
                      refine lv_lload hx hb (eX12_between (127, .lload 4, 2) (List.mem_of_getElem? (i := 71) rfl)) (lv_at hl 4 rfl) ?_
                      refine tz_rowV (As := [.int zi, .long t0, .long mv, .long v117, .long te]) (st := []) (b := a) (C := RX12) (Ts := gT) hx hb hml hown h2 (fun _ h => h) (hX12_isNotBehind l D cA ro sz H0 a zi t0 mv v117 te L Z R zi.toInt.toNat ze rr ha (by omega) hze hrr hoA hoB htk (by omega) (by omega) (by omega) (by omega)) ⟨rfl, rfl⟩ ⟨by decide, by decide⟩ ⟨by decide, by decide⟩ (tb_7 236 rfl rfl) (tb_1 12 rfl rfl) (tb_7 233 rfl rfl) (tb_7 235 rfl rfl) (tb_0 27 rfl rfl) (show yX12_isNotBehind.cls ≠ "java/lang/invoke/MethodHandle" ∧ yX12_isNotBehind.cls ≠ "java/lang/invoke/VarHandle" ∧ (parseMethodDescriptor yX12_isNotBehind.desc).map (fun d => d.parameters.length) = some 5 by decide +kernel) zs_blind (zs_ob hh0 ha (show RTg[11]? = some (0, 11, 0, fsX12) from rfl) (zCX12 hKn.1)) (fun U hU hW => ⟨rfl, by rw [hU]; exact hh0.l0, zKb s U hW.alike hKn, by rw [hU]; exact jyl⟩) hh0.2.2.1 hl.1 (Nat.le_of_ble_eq_true rfl) (eX12_between (129, .invokevirtual 287, 3) (List.mem_of_getElem? (i := 72) rfl)) (fun r118 s118 t118 lo118 g118 f118 l118 => ?_)
                      obtain ⟨v118, q118, e118, z118, c118⟩ := f118
                      cases q118
                      rw [g118] at c118
                      have mf118_a_0 := (c118.1 a 11 0 11 0 fsX12 ha rfl (by decide) (by decide)).trans fth
                      have hh118 : zh_ok D cA RTg ro sz H0 t118.heap lo118 := ⟨z118.1, z118.2.1, l118, z118.2.2.2⟩
                      have kp118 := kpl.trans (c118.mono (ms' := yMr) (by decide))
                      have jy118 := jyl.kept ha c118 (by decide)
                      refine W.eq (g2 := F0 m 132 ls [.int v118]) rfl ?_
                      refine ff_if_ne hx hb (eX12_between (132, .ifCond .ne 12, 3) (List.mem_of_getElem? (i := 73) rfl)) (tgt := 144) rfl (fun c119 => ?_) (fun c119 => ?_)
                      · skip
                        obtain ⟨hbm9, yn, yn1, yn2⟩ := r_bm hjL hnd hwr hoA hoB hte9 hmv.1 (Or.inr (by rcases e118 with h | h; (have h9 := h.2; rw [show v117.toInt = 0 by omega] at h9; exact h9); (exfalso; omega))) hmi
                        refine ff_ldc2 (n := 70) hx hb hown h2 (clX12_ok 291 70 (List.mem_of_getElem? (i := 31) rfl)) (eX12_between (144, .ldc2_w 291, 3) (List.mem_of_getElem? (i := 79) rfl)) (fun v120 e120 => ?_)
                        refine lv_lstore hx hb (eX12_between (147, .lstore 9, 2) (List.mem_of_getElem? (i := 80) rfl)) hl (by decide) rfl (fun ls121 hl121 => ?_)
                        have lp2 : ∀ (n9 : Nat) (dv : Int64) (ls : Array Slot) (H : Heap) (lo0 : List Loc), dv.toInt ≤ (n9 : Int) → (0 ≤ dv.toInt ∧ dv.toInt ≤ 70) → (∀ k9 : Int, dv.toInt < k9 → k9 ≤ 70 → ¬ okG L ze rr t0.toInt te.toInt mv.toInt k9) → zh_ok D cA RTg ro sz H0 H lo0 → zc_kept D RTg ro yMr s.heap H → jRY D cA ro H a L (Z, R) → zh_f D H a 11 0 = .int v38 → lv_has ls 11 [(9, .long dv), (7, .long mv), (0, .ref a), (1, .int zi), (2, .long t0), (4, .long te), (6, .int w0)] → W p l e (headSpec (gW yX12_between cX12_between 11 (some .long)) { frames := 11, cells := 0, slots := 0, locals := 329 }).room s m ([.ref a, .int zi, .long t0, .long te, .int w0] : List Value).toArray below meth c H lo0 0 0 (MQ below (yy_QR D cA ro sz H0 a vL (spBY zi.toInt t0.toInt te.toInt w0.toInt L (Z, R))) ([.ref a, .int zi, .long t0, .long te, .int w0] : List Value).toArray s 0 0 (zy_fr sz)) (F0 m 149 ls []) := by
                          intro n9
                          induction n9 with
                          | zero =>
                            intro dv ls H lo0 hdn hdv hdi hh0 kpl jyl fth hl
                            refine lv_lload hx hb (eX12_between (149, .lload 9, 2) (List.mem_of_getElem? (i := 81) rfl)) (lv_at hl 0 rfl) ?_
                            refine ff_lconst hx hb (eX12_between (151, .lconst 0, 1) (List.mem_of_getElem? (i := 82) rfl)) rfl (fun v122 e122 => ?_)
                            refine ff_lcmp hx hb (eX12_between (152, .lcmp, 1) (List.mem_of_getElem? (i := 83) rfl)) (fun v123 e123 => ?_)
                            refine ff_if_le hx hb (eX12_between (153, .ifCond .le 27, 3) (List.mem_of_getElem? (i := 84) rfl)) (tgt := 180) rfl (fun c124 => ?_) (fun c124 => (by exfalso; omega))
                            have hbd9 : bdR L ze rr t0.toInt te.toInt mv.toInt dv.toInt := ⟨hdv.1, Or.inl (by omega), fun k9 q1 => by by_cases q2 : k9 ≤ 70; exact hdi k9 q1 q2; exact r2_no hjL hnd hwr hoA hoB hmv.1 yn1 yn2 (by omega)⟩
                            refine lv_iload hx hb (eX12_between (180, .iload 6, 2) (List.mem_of_getElem? (i := 98) rfl)) (lv_at hl 6 rfl) ?_
                            refine ff_if_ne hx hb (eX12_between (182, .ifCond .ne 8, 3) (List.mem_of_getElem? (i := 99) rfl)) (tgt := 190) rfl (fun c125 => ?_) (fun c125 => ?_)
                            · skip
                              refine lv_iload hx hb (eX12_between (190, .iload 6, 2) (List.mem_of_getElem? (i := 102) rfl)) (lv_at hl 6 rfl) ?_
                              refine ff_iconst hx hb (eX12_between (192, .iconst 1, 1) (List.mem_of_getElem? (i := 103) rfl)) (by decide) (by decide) (fun v126 e126 => ?_)
                              refine ff_icmp_ne hx hb (eX12_between (193, .if_icmp .ne 8, 3) (List.mem_of_getElem? (i := 104) rfl)) (tgt := 201) rfl (fun c127 => ?_) (fun c127 => ?_)
                              · skip
                                refine lv_lload hx hb (eX12_between (201, .lload 4, 2) (List.mem_of_getElem? (i := 107) rfl)) (lv_at hl 5 rfl) ?_
                                refine lv_aload_n hx hb (eX12_between (203, .aload_n 0, 1) (List.mem_of_getElem? (i := 108) rfl)) rfl (lv_at hl 2 rfl) ?_
                                refine lv_iload_n hx hb (eX12_between (204, .iload_n 1, 1) (List.mem_of_getElem? (i := 109) rfl)) rfl (lv_at hl 3 rfl) ?_
                                refine lv_lload_n hx hb (eX12_between (205, .lload_n 2, 1) (List.mem_of_getElem? (i := 110) rfl)) rfl (lv_at hl 4 rfl) ?_
                                refine lv_lload hx hb (eX12_between (206, .lload 7, 2) (List.mem_of_getElem? (i := 111) rfl)) (lv_at hl 1 rfl) ?_
                                refine lv_lload hx hb (eX12_between (208, .lload 9, 2) (List.mem_of_getElem? (i := 112) rfl)) (lv_at hl 0 rfl) ?_
                                refine tz_rowV (As := [.int zi, .long t0, .long mv, .long dv]) (st := [.long te]) (b := a) (C := RX12) (Ts := gT) hx hb hml hown h2 (fun _ h => h) (hX12_on l D cA ro sz H0 a zi t0 mv dv L Z R zi.toInt.toNat ze rr ha (by omega) hze hrr hoA hoB htk (by omega) (by omega) (by omega) (by omega)) ⟨rfl, rfl⟩ ⟨by decide, by decide⟩ ⟨by decide, by decide⟩ (tb_7 219 rfl rfl) (tb_1 12 rfl rfl) (tb_7 216 rfl rfl) (tb_7 218 rfl rfl) (tb_0 25 rfl rfl) (show yX12_on.cls ≠ "java/lang/invoke/MethodHandle" ∧ yX12_on.cls ≠ "java/lang/invoke/VarHandle" ∧ (parseMethodDescriptor yX12_on.desc).map (fun d => d.parameters.length) = some 4 by decide +kernel) zs_blind (zs_ob hh0 ha (show RTg[11]? = some (0, 11, 0, fsX12) from rfl) (zCX12 hKn.1)) (fun U hU hW => ⟨rfl, by rw [hU]; exact hh0.l0, zKb s U hW.alike hKn, by rw [hU]; exact jyl⟩) hh0.2.2.1 hl.1 (Nat.le_of_ble_eq_true rfl) (eX12_between (210, .invokevirtual 277, 3) (List.mem_of_getElem? (i := 113) rfl)) (fun r128 s128 t128 lo128 g128 f128 l128 => ?_)
                                obtain ⟨v128, q128, e128, z128, c128⟩ := f128
                                cases q128
                                rw [g128] at c128
                                have mf128_a_0 := (c128.1 a 11 0 11 0 fsX12 ha rfl (by decide) (by decide)).trans fth
                                have hh128 : zh_ok D cA RTg ro sz H0 t128.heap lo128 := ⟨z128.1, z128.2.1, l128, z128.2.2.2⟩
                                have kp128 := kpl.trans (c128.mono (ms' := yMr) (by decide))
                                have jy128 := jyl.kept ha c128 (by decide)
                                refine W.eq (g2 := F0 m 213 ls [.long v128, .long te]) rfl ?_
                                have hn9 := go_ne (t1 := te.toInt) hjL hnd hwr hoA hoB htk hM9 ha8 hbm9.2.1 hbd9.2.1 e128
                                have hb8 := go_b hjL hnd hwr hoA hoB e128 hn9
                                refine ff_lsub hx hb (eX12_between (213, .lsub, 1) (List.mem_of_getElem? (i := 114) rfl)) (by omega) (by omega) (fun v129 e129 => ?_)
                                exact W.lret hx hb hr (fun t ht hW => ⟨_, _, _, L, (Z, R), rfl, ⟨_, rfl, rfl⟩, by rw [ht]; exact hh128.l0, by rw [ht]; exact kp128, by rw [ht]; exact mf128_a_0, by rw [ht]; exact jy128, rfl, rfl, Or.inr ⟨by omega, hgb9, ze, rr, hze, hrr, mv.toInt, hbm9, Or.inr (Or.inr ⟨by omega, _, _, hbd9, e128, by omega⟩)⟩⟩) hh128.2.2.1 (eX12_between (214, .lreturn, 1) (List.mem_of_getElem? (i := 115) rfl))
                              · skip
                                refine lv_lload hx hb (eX12_between (196, .lload 9, 2) (List.mem_of_getElem? (i := 105) rfl)) (lv_at hl 0 rfl) ?_
                                refine lv_goto hx hb (eX12_between (198, .goto 16, 3) (List.mem_of_getElem? (i := 106) rfl)) (tgt := 214) rfl ?_
                                exact W.lret hx hb hr (fun t ht hW => ⟨_, _, _, L, (Z, R), rfl, ⟨_, rfl, rfl⟩, by rw [ht]; exact hh0.l0, by rw [ht]; exact kpl, by rw [ht]; exact fth, by rw [ht]; exact jyl, rfl, rfl, Or.inr ⟨by omega, hgb9, ze, rr, hze, hrr, mv.toInt, hbm9, Or.inr (Or.inl ⟨by omega, hbd9⟩)⟩⟩) hh0.2.2.1 (eX12_between (214, .lreturn, 1) (List.mem_of_getElem? (i := 115) rfl))
                            · skip
                              refine lv_lload hx hb (eX12_between (185, .lload 7, 2) (List.mem_of_getElem? (i := 100) rfl)) (lv_at hl 1 rfl) ?_
                              refine lv_goto hx hb (eX12_between (187, .goto 27, 3) (List.mem_of_getElem? (i := 101) rfl)) (tgt := 214) rfl ?_
                              exact W.lret hx hb hr (fun t ht hW => ⟨_, _, _, L, (Z, R), rfl, ⟨_, rfl, rfl⟩, by rw [ht]; exact hh0.l0, by rw [ht]; exact kpl, by rw [ht]; exact fth, by rw [ht]; exact jyl, rfl, rfl, Or.inr ⟨by omega, hgb9, ze, rr, hze, hrr, mv.toInt, hbm9, Or.inl ⟨by omega, rfl⟩⟩⟩) hh0.2.2.1 (eX12_between (214, .lreturn, 1) (List.mem_of_getElem? (i := 115) rfl))
                          | succ n9 ih2 =>
                            intro dv ls H lo0 hdn hdv hdi hh0 kpl jyl fth hl
                            refine lv_lload hx hb (eX12_between (149, .lload 9, 2) (List.mem_of_getElem? (i := 81) rfl)) (lv_at hl 0 rfl) ?_
                            refine ff_lconst hx hb (eX12_between (151, .lconst 0, 1) (List.mem_of_getElem? (i := 82) rfl)) rfl (fun v130 e130 => ?_)
                            refine ff_lcmp hx hb (eX12_between (152, .lcmp, 1) (List.mem_of_getElem? (i := 83) rfl)) (fun v131 e131 => ?_)
                            refine ff_if_le hx hb (eX12_between (153, .ifCond .le 27, 3) (List.mem_of_getElem? (i := 84) rfl)) (tgt := 180) rfl (fun c132 => ?_) (fun c132 => ?_)
                            · skip
                              have hbd9 : bdR L ze rr t0.toInt te.toInt mv.toInt dv.toInt := ⟨hdv.1, Or.inl (by omega), fun k9 q1 => by by_cases q2 : k9 ≤ 70; exact hdi k9 q1 q2; exact r2_no hjL hnd hwr hoA hoB hmv.1 yn1 yn2 (by omega)⟩
                              refine lv_iload hx hb (eX12_between (180, .iload 6, 2) (List.mem_of_getElem? (i := 98) rfl)) (lv_at hl 6 rfl) ?_
                              refine ff_if_ne hx hb (eX12_between (182, .ifCond .ne 8, 3) (List.mem_of_getElem? (i := 99) rfl)) (tgt := 190) rfl (fun c133 => ?_) (fun c133 => ?_)
                              · skip
                                refine lv_iload hx hb (eX12_between (190, .iload 6, 2) (List.mem_of_getElem? (i := 102) rfl)) (lv_at hl 6 rfl) ?_
                                refine ff_iconst hx hb (eX12_between (192, .iconst 1, 1) (List.mem_of_getElem? (i := 103) rfl)) (by decide) (by decide) (fun v134 e134 => ?_)
                                refine ff_icmp_ne hx hb (eX12_between (193, .if_icmp .ne 8, 3) (List.mem_of_getElem? (i := 104) rfl)) (tgt := 201) rfl (fun c135 => ?_) (fun c135 => ?_)
                                · skip
                                  refine lv_lload hx hb (eX12_between (201, .lload 4, 2) (List.mem_of_getElem? (i := 107) rfl)) (lv_at hl 5 rfl) ?_
                                  refine lv_aload_n hx hb (eX12_between (203, .aload_n 0, 1) (List.mem_of_getElem? (i := 108) rfl)) rfl (lv_at hl 2 rfl) ?_
                                  refine lv_iload_n hx hb (eX12_between (204, .iload_n 1, 1) (List.mem_of_getElem? (i := 109) rfl)) rfl (lv_at hl 3 rfl) ?_
                                  refine lv_lload_n hx hb (eX12_between (205, .lload_n 2, 1) (List.mem_of_getElem? (i := 110) rfl)) rfl (lv_at hl 4 rfl) ?_
                                  refine lv_lload hx hb (eX12_between (206, .lload 7, 2) (List.mem_of_getElem? (i := 111) rfl)) (lv_at hl 1 rfl) ?_
                                  refine lv_lload hx hb (eX12_between (208, .lload 9, 2) (List.mem_of_getElem? (i := 112) rfl)) (lv_at hl 0 rfl) ?_
                                  refine tz_rowV (As := [.int zi, .long t0, .long mv, .long dv]) (st := [.long te]) (b := a) (C := RX12) (Ts := gT) hx hb hml hown h2 (fun _ h => h) (hX12_on l D cA ro sz H0 a zi t0 mv dv L Z R zi.toInt.toNat ze rr ha (by omega) hze hrr hoA hoB htk (by omega) (by omega) (by omega) (by omega)) ⟨rfl, rfl⟩ ⟨by decide, by decide⟩ ⟨by decide, by decide⟩ (tb_7 219 rfl rfl) (tb_1 12 rfl rfl) (tb_7 216 rfl rfl) (tb_7 218 rfl rfl) (tb_0 25 rfl rfl) (show yX12_on.cls ≠ "java/lang/invoke/MethodHandle" ∧ yX12_on.cls ≠ "java/lang/invoke/VarHandle" ∧ (parseMethodDescriptor yX12_on.desc).map (fun d => d.parameters.length) = some 4 by decide +kernel) zs_blind (zs_ob hh0 ha (show RTg[11]? = some (0, 11, 0, fsX12) from rfl) (zCX12 hKn.1)) (fun U hU hW => ⟨rfl, by rw [hU]; exact hh0.l0, zKb s U hW.alike hKn, by rw [hU]; exact jyl⟩) hh0.2.2.1 hl.1 (Nat.le_of_ble_eq_true rfl) (eX12_between (210, .invokevirtual 277, 3) (List.mem_of_getElem? (i := 113) rfl)) (fun r136 s136 t136 lo136 g136 f136 l136 => ?_)
                                  obtain ⟨v136, q136, e136, z136, c136⟩ := f136
                                  cases q136
                                  rw [g136] at c136
                                  have mf136_a_0 := (c136.1 a 11 0 11 0 fsX12 ha rfl (by decide) (by decide)).trans fth
                                  have hh136 : zh_ok D cA RTg ro sz H0 t136.heap lo136 := ⟨z136.1, z136.2.1, l136, z136.2.2.2⟩
                                  have kp136 := kpl.trans (c136.mono (ms' := yMr) (by decide))
                                  have jy136 := jyl.kept ha c136 (by decide)
                                  refine W.eq (g2 := F0 m 213 ls [.long v136, .long te]) rfl ?_
                                  have hn9 := go_ne (t1 := te.toInt) hjL hnd hwr hoA hoB htk hM9 ha8 hbm9.2.1 hbd9.2.1 e136
                                  have hb8 := go_b hjL hnd hwr hoA hoB e136 hn9
                                  refine ff_lsub hx hb (eX12_between (213, .lsub, 1) (List.mem_of_getElem? (i := 114) rfl)) (by omega) (by omega) (fun v137 e137 => ?_)
                                  exact W.lret hx hb hr (fun t ht hW => ⟨_, _, _, L, (Z, R), rfl, ⟨_, rfl, rfl⟩, by rw [ht]; exact hh136.l0, by rw [ht]; exact kp136, by rw [ht]; exact mf136_a_0, by rw [ht]; exact jy136, rfl, rfl, Or.inr ⟨by omega, hgb9, ze, rr, hze, hrr, mv.toInt, hbm9, Or.inr (Or.inr ⟨by omega, _, _, hbd9, e136, by omega⟩)⟩⟩) hh136.2.2.1 (eX12_between (214, .lreturn, 1) (List.mem_of_getElem? (i := 115) rfl))
                                · skip
                                  refine lv_lload hx hb (eX12_between (196, .lload 9, 2) (List.mem_of_getElem? (i := 105) rfl)) (lv_at hl 0 rfl) ?_
                                  refine lv_goto hx hb (eX12_between (198, .goto 16, 3) (List.mem_of_getElem? (i := 106) rfl)) (tgt := 214) rfl ?_
                                  exact W.lret hx hb hr (fun t ht hW => ⟨_, _, _, L, (Z, R), rfl, ⟨_, rfl, rfl⟩, by rw [ht]; exact hh0.l0, by rw [ht]; exact kpl, by rw [ht]; exact fth, by rw [ht]; exact jyl, rfl, rfl, Or.inr ⟨by omega, hgb9, ze, rr, hze, hrr, mv.toInt, hbm9, Or.inr (Or.inl ⟨by omega, hbd9⟩)⟩⟩) hh0.2.2.1 (eX12_between (214, .lreturn, 1) (List.mem_of_getElem? (i := 115) rfl))
                              · skip
                                refine lv_lload hx hb (eX12_between (185, .lload 7, 2) (List.mem_of_getElem? (i := 100) rfl)) (lv_at hl 1 rfl) ?_
                                refine lv_goto hx hb (eX12_between (187, .goto 27, 3) (List.mem_of_getElem? (i := 101) rfl)) (tgt := 214) rfl ?_
                                exact W.lret hx hb hr (fun t ht hW => ⟨_, _, _, L, (Z, R), rfl, ⟨_, rfl, rfl⟩, by rw [ht]; exact hh0.l0, by rw [ht]; exact kpl, by rw [ht]; exact fth, by rw [ht]; exact jyl, rfl, rfl, Or.inr ⟨by omega, hgb9, ze, rr, hze, hrr, mv.toInt, hbm9, Or.inl ⟨by omega, rfl⟩⟩⟩) hh0.2.2.1 (eX12_between (214, .lreturn, 1) (List.mem_of_getElem? (i := 115) rfl))
                            · skip
                              refine lv_aload_n hx hb (eX12_between (156, .aload_n 0, 1) (List.mem_of_getElem? (i := 85) rfl)) rfl (lv_at hl 2 rfl) ?_
                              refine lv_iload_n hx hb (eX12_between (157, .iload_n 1, 1) (List.mem_of_getElem? (i := 86) rfl)) rfl (lv_at hl 3 rfl) ?_
                              refine lv_lload_n hx hb (eX12_between (158, .lload_n 2, 1) (List.mem_of_getElem? (i := 87) rfl)) rfl (lv_at hl 4 rfl) ?_
                              refine lv_lload hx hb (eX12_between (159, .lload 7, 2) (List.mem_of_getElem? (i := 88) rfl)) (lv_at hl 1 rfl) ?_
                              refine lv_lload hx hb (eX12_between (161, .lload 9, 2) (List.mem_of_getElem? (i := 89) rfl)) (lv_at hl 0 rfl) ?_
                              refine lv_lload hx hb (eX12_between (163, .lload 4, 2) (List.mem_of_getElem? (i := 90) rfl)) (lv_at hl 5 rfl) ?_
                              refine tz_rowV (As := [.int zi, .long t0, .long mv, .long dv, .long te]) (st := []) (b := a) (C := RX12) (Ts := gT) hx hb hml hown h2 (fun _ h => h) (hX12_isNotBehind l D cA ro sz H0 a zi t0 mv dv te L Z R zi.toInt.toNat ze rr ha (by omega) hze hrr hoA hoB htk (by omega) (by omega) (by omega) (by omega)) ⟨rfl, rfl⟩ ⟨by decide, by decide⟩ ⟨by decide, by decide⟩ (tb_7 236 rfl rfl) (tb_1 12 rfl rfl) (tb_7 233 rfl rfl) (tb_7 235 rfl rfl) (tb_0 27 rfl rfl) (show yX12_isNotBehind.cls ≠ "java/lang/invoke/MethodHandle" ∧ yX12_isNotBehind.cls ≠ "java/lang/invoke/VarHandle" ∧ (parseMethodDescriptor yX12_isNotBehind.desc).map (fun d => d.parameters.length) = some 5 by decide +kernel) zs_blind (zs_ob hh0 ha (show RTg[11]? = some (0, 11, 0, fsX12) from rfl) (zCX12 hKn.1)) (fun U hU hW => ⟨rfl, by rw [hU]; exact hh0.l0, zKb s U hW.alike hKn, by rw [hU]; exact jyl⟩) hh0.2.2.1 hl.1 (Nat.le_of_ble_eq_true rfl) (eX12_between (165, .invokevirtual 287, 3) (List.mem_of_getElem? (i := 91) rfl)) (fun r138 s138 t138 lo138 g138 f138 l138 => ?_)
                              obtain ⟨v138, q138, e138, z138, c138⟩ := f138
                              cases q138
                              rw [g138] at c138
                              have mf138_a_0 := (c138.1 a 11 0 11 0 fsX12 ha rfl (by decide) (by decide)).trans fth
                              have hh138 : zh_ok D cA RTg ro sz H0 t138.heap lo138 := ⟨z138.1, z138.2.1, l138, z138.2.2.2⟩
                              have kp138 := kpl.trans (c138.mono (ms' := yMr) (by decide))
                              have jy138 := jyl.kept ha c138 (by decide)
                              refine W.eq (g2 := F0 m 168 ls [.int v138]) rfl ?_
                              refine ff_if_ne hx hb (eX12_between (168, .ifCond .ne 12, 3) (List.mem_of_getElem? (i := 92) rfl)) (tgt := 180) rfl (fun c139 => ?_) (fun c139 => ?_)
                              · skip
                                have hbd9 : bdR L ze rr t0.toInt te.toInt mv.toInt dv.toInt := ⟨hdv.1, Or.inr (by rcases e138 with h | h; exact h.2; (exfalso; omega)), fun k9 q1 => by by_cases q2 : k9 ≤ 70; exact hdi k9 q1 q2; exact r2_no hjL hnd hwr hoA hoB hmv.1 yn1 yn2 (by omega)⟩
                                refine lv_iload hx hb (eX12_between (180, .iload 6, 2) (List.mem_of_getElem? (i := 98) rfl)) (lv_at hl 6 rfl) ?_
                                refine ff_if_ne hx hb (eX12_between (182, .ifCond .ne 8, 3) (List.mem_of_getElem? (i := 99) rfl)) (tgt := 190) rfl (fun c140 => ?_) (fun c140 => ?_)
                                · skip
                                  refine lv_iload hx hb (eX12_between (190, .iload 6, 2) (List.mem_of_getElem? (i := 102) rfl)) (lv_at hl 6 rfl) ?_
                                  refine ff_iconst hx hb (eX12_between (192, .iconst 1, 1) (List.mem_of_getElem? (i := 103) rfl)) (by decide) (by decide) (fun v141 e141 => ?_)
                                  refine ff_icmp_ne hx hb (eX12_between (193, .if_icmp .ne 8, 3) (List.mem_of_getElem? (i := 104) rfl)) (tgt := 201) rfl (fun c142 => ?_) (fun c142 => ?_)
                                  · skip
                                    refine lv_lload hx hb (eX12_between (201, .lload 4, 2) (List.mem_of_getElem? (i := 107) rfl)) (lv_at hl 5 rfl) ?_
                                    refine lv_aload_n hx hb (eX12_between (203, .aload_n 0, 1) (List.mem_of_getElem? (i := 108) rfl)) rfl (lv_at hl 2 rfl) ?_
                                    refine lv_iload_n hx hb (eX12_between (204, .iload_n 1, 1) (List.mem_of_getElem? (i := 109) rfl)) rfl (lv_at hl 3 rfl) ?_
                                    refine lv_lload_n hx hb (eX12_between (205, .lload_n 2, 1) (List.mem_of_getElem? (i := 110) rfl)) rfl (lv_at hl 4 rfl) ?_
                                    refine lv_lload hx hb (eX12_between (206, .lload 7, 2) (List.mem_of_getElem? (i := 111) rfl)) (lv_at hl 1 rfl) ?_
                                    refine lv_lload hx hb (eX12_between (208, .lload 9, 2) (List.mem_of_getElem? (i := 112) rfl)) (lv_at hl 0 rfl) ?_
                                    refine tz_rowV (As := [.int zi, .long t0, .long mv, .long dv]) (st := [.long te]) (b := a) (C := RX12) (Ts := gT) hx hb hml hown h2 (fun _ h => h) (hX12_on l D cA ro sz H0 a zi t0 mv dv L Z R zi.toInt.toNat ze rr ha (by omega) hze hrr hoA hoB htk (by omega) (by omega) (by omega) (by omega)) ⟨rfl, rfl⟩ ⟨by decide, by decide⟩ ⟨by decide, by decide⟩ (tb_7 219 rfl rfl) (tb_1 12 rfl rfl) (tb_7 216 rfl rfl) (tb_7 218 rfl rfl) (tb_0 25 rfl rfl) (show yX12_on.cls ≠ "java/lang/invoke/MethodHandle" ∧ yX12_on.cls ≠ "java/lang/invoke/VarHandle" ∧ (parseMethodDescriptor yX12_on.desc).map (fun d => d.parameters.length) = some 4 by decide +kernel) zs_blind (zs_ob hh138 ha (show RTg[11]? = some (0, 11, 0, fsX12) from rfl) (zCX12 hKn.1)) (fun U hU hW => ⟨rfl, by rw [hU]; exact hh138.l0, zKb s U hW.alike hKn, by rw [hU]; exact jy138⟩) hh138.2.2.1 hl.1 (Nat.le_of_ble_eq_true rfl) (eX12_between (210, .invokevirtual 277, 3) (List.mem_of_getElem? (i := 113) rfl)) (fun r143 s143 t143 lo143 g143 f143 l143 => ?_)
                                    obtain ⟨v143, q143, e143, z143, c143⟩ := f143
                                    cases q143
                                    rw [g143] at c143
                                    have mf143_a_0 := (c143.1 a 11 0 11 0 fsX12 ha rfl (by decide) (by decide)).trans mf138_a_0
                                    have hh143 : zh_ok D cA RTg ro sz H0 t143.heap lo143 := ⟨z143.1, z143.2.1, l143, z143.2.2.2⟩
                                    have kp143 := kp138.trans (c143.mono (ms' := yMr) (by decide))
                                    have jy143 := jy138.kept ha c143 (by decide)
                                    refine W.eq (g2 := F0 m 213 ls [.long v143, .long te]) rfl ?_
                                    have hn9 := go_ne (t1 := te.toInt) hjL hnd hwr hoA hoB htk hM9 ha8 hbm9.2.1 hbd9.2.1 e143
                                    have hb8 := go_b hjL hnd hwr hoA hoB e143 hn9
                                    refine ff_lsub hx hb (eX12_between (213, .lsub, 1) (List.mem_of_getElem? (i := 114) rfl)) (by omega) (by omega) (fun v144 e144 => ?_)
                                    exact W.lret hx hb hr (fun t ht hW => ⟨_, _, _, L, (Z, R), rfl, ⟨_, rfl, rfl⟩, by rw [ht]; exact hh143.l0, by rw [ht]; exact kp143, by rw [ht]; exact mf143_a_0, by rw [ht]; exact jy143, rfl, rfl, Or.inr ⟨by omega, hgb9, ze, rr, hze, hrr, mv.toInt, hbm9, Or.inr (Or.inr ⟨by omega, _, _, hbd9, e143, by omega⟩)⟩⟩) hh143.2.2.1 (eX12_between (214, .lreturn, 1) (List.mem_of_getElem? (i := 115) rfl))
                                  · skip
                                    refine lv_lload hx hb (eX12_between (196, .lload 9, 2) (List.mem_of_getElem? (i := 105) rfl)) (lv_at hl 0 rfl) ?_
                                    refine lv_goto hx hb (eX12_between (198, .goto 16, 3) (List.mem_of_getElem? (i := 106) rfl)) (tgt := 214) rfl ?_
                                    exact W.lret hx hb hr (fun t ht hW => ⟨_, _, _, L, (Z, R), rfl, ⟨_, rfl, rfl⟩, by rw [ht]; exact hh138.l0, by rw [ht]; exact kp138, by rw [ht]; exact mf138_a_0, by rw [ht]; exact jy138, rfl, rfl, Or.inr ⟨by omega, hgb9, ze, rr, hze, hrr, mv.toInt, hbm9, Or.inr (Or.inl ⟨by omega, hbd9⟩)⟩⟩) hh138.2.2.1 (eX12_between (214, .lreturn, 1) (List.mem_of_getElem? (i := 115) rfl))
                                · skip
                                  refine lv_lload hx hb (eX12_between (185, .lload 7, 2) (List.mem_of_getElem? (i := 100) rfl)) (lv_at hl 1 rfl) ?_
                                  refine lv_goto hx hb (eX12_between (187, .goto 27, 3) (List.mem_of_getElem? (i := 101) rfl)) (tgt := 214) rfl ?_
                                  exact W.lret hx hb hr (fun t ht hW => ⟨_, _, _, L, (Z, R), rfl, ⟨_, rfl, rfl⟩, by rw [ht]; exact hh138.l0, by rw [ht]; exact kp138, by rw [ht]; exact mf138_a_0, by rw [ht]; exact jy138, rfl, rfl, Or.inr ⟨by omega, hgb9, ze, rr, hze, hrr, mv.toInt, hbm9, Or.inl ⟨by omega, rfl⟩⟩⟩) hh138.2.2.1 (eX12_between (214, .lreturn, 1) (List.mem_of_getElem? (i := 115) rfl))
                              · skip
                                refine lv_lload hx hb (eX12_between (171, .lload 9, 2) (List.mem_of_getElem? (i := 93) rfl)) (lv_at hl 0 rfl) ?_
                                refine ff_lconst hx hb (eX12_between (173, .lconst 1, 1) (List.mem_of_getElem? (i := 94) rfl)) rfl (fun v145 e145 => ?_)
                                refine ff_lsub hx hb (eX12_between (174, .lsub, 1) (List.mem_of_getElem? (i := 95) rfl)) (by omega) (by omega) (fun v146 e146 => ?_)
                                refine lv_lstore hx hb (eX12_between (175, .lstore 9, 2) (List.mem_of_getElem? (i := 96) rfl)) hl (by decide) rfl (fun ls147 hl147 => ?_)
                                refine lv_goto hx hb (eX12_between (177, .goto (-28), 3) (List.mem_of_getElem? (i := 97) rfl)) (tgt := 149) rfl ?_
                                exact ih2 v146 ls147 _ _ (by omega) (by omega) (fun k9 q1 q2 => by by_cases e9 : k9 = dv.toInt; (rw [e9]; rcases e138 with h | h; (exfalso; omega); (obtain ⟨y, y1, y2⟩ := h.2; rintro ⟨x9, x1, x2, x3⟩; have x4 := goR_one x1 y1; rcases y2 with w | w; exact x2 (by omega); omega)); exact hdi k9 (by omega) q2) hh138 kp138 jy138 mf138_a_0 (lv_sub hl147 [0, 1, 2, 3, 4, 5, 6] rfl)
                        exact lp2 70 v120 ls121 _ _ (by omega) (by omega) (fun k9 q1 q2 => by exfalso; omega) hh118 kp118 jy118 mf118_a_0 (lv_sub hl121 [0, 1, 2, 3, 4, 5, 6] rfl)
                      · skip
                        refine lv_lload hx hb (eX12_between (135, .lload 7, 2) (List.mem_of_getElem? (i := 74) rfl)) (lv_at hl 0 rfl) ?_
                        refine ff_lconst hx hb (eX12_between (137, .lconst 1, 1) (List.mem_of_getElem? (i := 75) rfl)) rfl (fun v148 e148 => ?_)
                        refine ff_lsub hx hb (eX12_between (138, .lsub, 1) (List.mem_of_getElem? (i := 76) rfl)) (by omega) (by omega) (fun v149 e149 => ?_)
                        refine lv_lstore hx hb (eX12_between (139, .lstore 7, 2) (List.mem_of_getElem? (i := 77) rfl)) hl (by decide) rfl (fun ls150 hl150 => ?_)
                        refine lv_goto hx hb (eX12_between (141, .goto (-27), 3) (List.mem_of_getElem? (i := 78) rfl)) (tgt := 114) rfl ?_
                        exact ih v149 ls150 _ _ (by omega) (by omega) (fun k9 q1 q2 => by by_cases e9 : k9 = mv.toInt; (rw [e9]; rcases e118 with h | h; (exfalso; omega); (obtain ⟨y, y1, y2⟩ := h.2; rw [show v117.toInt = 0 by omega] at y1; exact ⟨y, y1, y2⟩)); exact hmi k9 (by omega) q2) hh118 kp118 jy118 mf118_a_0 (lv_sub hl150 [0, 1, 2, 3, 4, 5] rfl)
                exact lp1 v53.toInt.toNat v53 ls54 _ _ (by omega) (by omega) (fun k9 q1 q2 => by exfalso; omega) hh43 kp43 jy43 mf43_a_0 (lv_sub hl54 [0, 1, 2, 3, 4, 5] rfl)
              · skip
                have hnm : ¬ mOK (lmM L ze rr t0.toInt) := fun q9 => by obtain ⟨a9, ha9⟩ := ex_inM (lmM L ze rr t0.toInt / 1440); exact go_00 hjL hnd hwr hoA hoB htk q9 ha9 h00 (by unfold NONEI; omega)
                refine lv_aload_n hx hb (eX12_between (89, .aload_n 0, 1) (List.mem_of_getElem? (i := 47) rfl)) rfl (lv_at hl 0 rfl) ?_
                refine ff_iconst hx hb (eX12_between (90, .iconst 1, 1) (List.mem_of_getElem? (i := 48) rfl)) (by decide) (by decide) (fun v151 e151 => ?_)
                refine tz_put (r := 11) (k := 0) (t := (0, 0, 2)) hx hb hD hh43 ha rfl rfl ((hcl11 85 0 (0, 0, 2) (by decide) rfl).2 (by decide)) (tz_i (by omega) (by omega)) (eX12_between (91, .putfield 85, 3) (List.mem_of_getElem? (i := 49) rfl)) (fun H152 lo152 hh152 hf152 hk152 _ hq152 => ?_)
                have kp152 := kp43.trans (hk152.mono (ms' := yMr) (fun x hx => by cases List.mem_singleton.mp hx; decide))
                have jy152 := jy43.kept ha hk152 (by decide)
                refine ff_lconst hx hb (eX12_between (94, .lconst 0, 1) (List.mem_of_getElem? (i := 50) rfl)) rfl (fun v153 e153 => ?_)
                exact W.lret hx hb hr (fun t ht hW => ⟨_, _, _, L, (Z, R), rfl, ⟨_, rfl, rfl⟩, by rw [ht]; exact hh152.l0, by rw [ht]; exact kp152, by rw [ht]; exact hf152, by rw [ht]; exact jy152, rfl, rfl, Or.inl ⟨by omega, hgf hnm⟩⟩) hh152.2.2.1 (eX12_between (95, .lreturn, 1) (List.mem_of_getElem? (i := 51) rfl))
            · skip
              refine ff_iconst hx hb (eX12_between (57, .iconst 1, 1) (List.mem_of_getElem? (i := 29) rfl)) (by decide) (by decide) (fun v154 e154 => ?_)
              refine lv_goto hx hb (eX12_between (58, .goto 4, 3) (List.mem_of_getElem? (i := 30) rfl)) (tgt := 62) rfl ?_
              refine tz_put (r := 11) (k := 0) (t := (0, 0, 2)) hx hb hD hh13 ha rfl rfl ((hcl11 85 0 (0, 0, 2) (by decide) rfl).2 (by decide)) (tz_i (by omega) (by omega)) (eX12_between (62, .putfield 85, 3) (List.mem_of_getElem? (i := 32) rfl)) (fun H155 lo155 hh155 hf155 hk155 _ hq155 => ?_)
              have mf155_a_2 := (hk155.1 a 11 2 11 0 fsX12 ha rfl (by decide) (by decide)).trans fq2
              have mf155_a_1 := (hk155.1 a 11 1 11 0 fsX12 ha rfl (by decide) (by decide)).trans fq1
              have mf155_a_3 := (hk155.1 a 11 3 11 0 fsX12 ha rfl (by decide) (by decide)).trans fq3
              have mf155_a_4 := (hk155.1 a 11 4 11 0 fsX12 ha rfl (by decide) (by decide)).trans fq4
              have mf155_a_5 := (hk155.1 a 11 5 11 0 fsX12 ha rfl (by decide) (by decide)).trans fq5
              have mf155_a_6 := (hk155.1 a 11 6 11 0 fsX12 ha rfl (by decide) (by decide)).trans fq6
              have mf155_a_7 := (hk155.1 a 11 7 11 0 fsX12 ha rfl (by decide) (by decide)).trans fq7
              have mf155_a_8 := (hk155.1 a 11 8 11 0 fsX12 ha rfl (by decide) (by decide)).trans fq8
              have mf155_a_9 := (hk155.1 a 11 9 11 0 fsX12 ha rfl (by decide) (by decide)).trans fq9
              have mf155_a_10 := (hk155.1 a 11 10 11 0 fsX12 ha rfl (by decide) (by decide)).trans fqA
              have mf155_a_11 := (hk155.1 a 11 11 11 0 fsX12 ha rfl (by decide) (by decide)).trans fqB
              have mc155_la := (hk155.2 la 21 0 1 40 _ r0 rfl (by decide)).trans hc
              have mc155_a4 := (hk155.2 a4 22 0 0 8 _ rq4 rfl (by decide)).trans cq4
              have mc155_a5 := (hk155.2 a5 23 0 0 8 _ rq5 rfl (by decide)).trans cq5
              have mc155_a6 := (hk155.2 a6 24 0 1 480 _ rq6 rfl (by decide)).trans cq6
              have mc155_a7 := (hk155.2 a7 25 0 0 480 _ rq7 rfl (by decide)).trans cq7
              have mc155_b8 := (hk155.2 b8 26 0 0 8 _ rq8 rfl (by decide)).trans cq8
              have mc155_b9 := (hk155.2 b9 27 0 0 8 _ rq9 rfl (by decide)).trans cq9
              have mc155_bA := (hk155.2 bA 28 0 0 8 _ rqA rfl (by decide)).trans cqA
              have mc155_bB := (hk155.2 bB 29 0 0 80 _ rqB rfl (by decide)).trans cqB
              have kp155 := kp0.trans (hk155.mono (ms' := yMr) (fun x hx => by cases List.mem_singleton.mp hx; decide))
              have jy155 := hJ.kept ha hk155 (by decide)
              refine lv_aload_n hx hb (eX12_between (65, .aload_n 0, 1) (List.mem_of_getElem? (i := 33) rfl)) rfl (lv_at hl 0 rfl) ?_
              refine tz_get (r := 11) (k := 0) (t := (0, 0, 2)) hx hb hh155 ha rfl rfl (hcl11 85 0 (0, 0, 2) (by decide) rfl).1 hf155 (eX12_between (66, .getfield 85, 3) (List.mem_of_getElem? (i := 34) rfl)) ?_
              refine ff_if_le hx hb (eX12_between (69, .ifCond .le 5, 3) (List.mem_of_getElem? (i := 35) rfl)) (tgt := 74) rfl (fun c156 => (by exfalso; omega)) (fun c156 => ?_)
              refine ff_lconst hx hb (eX12_between (72, .lconst 0, 1) (List.mem_of_getElem? (i := 36) rfl)) rfl (fun v157 e157 => ?_)
              exact W.lret hx hb hr (fun t ht hW => ⟨_, _, _, L, (Z, R), rfl, ⟨_, rfl, rfl⟩, by rw [ht]; exact hh155.l0, by rw [ht]; exact kp155, by rw [ht]; exact hf155, by rw [ht]; exact jy155, rfl, rfl, Or.inl ⟨by omega, fun g => by have g1 := g.1; have g2 : zi.toInt < (Z.length : Int) := g.2.1; have g3 := g.2.2.1; have g4 := g.2.2.2.1; have g5 := g.2.2.2.2.1; have g6 := g.2.2.2.2.2.1; have g7 := g.2.2.2.2.2.2.1; have g8 := g.2.2.2.2.2.2.2.1; first | omega | (rcases e7 with h | h; (exfalso; omega); exact h.2 g3) | (rcases e13 with h | h; (exfalso; omega); exact h.2 g4)⟩⟩) hh155.2.2.1 (eX12_between (73, .lreturn, 1) (List.mem_of_getElem? (i := 37) rfl))
