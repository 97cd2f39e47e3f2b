theorem mn_take {B : List Int} {k : Nat} {x : Int} (h : B[k]? = some x) : mnF (B.take (k + 1)) = if mnF (B.take k) = NONEI ∨ x < mnF (B.take k) then x else mnF (B.take k) := by
  unfold mnF
  rw [fold_take h]
set_option maxRecDepth 100000 in
set_option maxHeartbeats 4000000 in
theorem hX12_next (l : Launch) (D : va_G) (cA : Nat → ClassId) (ro : Nat → Option Nat) (sz : Nat) (H0 : Heap) (a : Nat) (zi : Int32) (t0 : Int64) (L : List Int) (Z : List zE) (R : List rU) (ha : ro a = some 11) (hzp : zP Z) (hzt : ∀ e ∈ Z, ∀ c ∈ e.2, tOK c.1 L) : Met l yX12_next (gW yX12_next cX12_next 7 (some .long)) { frames := 8, cells := 0, slots := 0, locals := 220 } (zs_P D cA ro sz H0 (fun H => jRY D cA ro H a L (Z, R)) [.ref a, .int zi, .long t0]) (yy_QR D cA ro sz H0 a vL (spNY zi.toInt t0.toInt L (Z, R))) 0 0 (zy_fr sz) := by
  refine zy_ofW (cc := cX12_next) (maxL := 7) (ret := (some .long)) (by decide +kernel) rfl ?_
  intro p e s m args below meth c s1 B hml hv
  obtain ⟨rfl, hh, hKn, hJ⟩ := hv
  have hx := B.exec
  have hb := B.bytes
  have hr := B.returns
  have hlk := B.notSynchronized
  have hts0 := atoms_spec (ws := gW yX12_next cX12_next 7 (some .long)) B.pre
  have h2 : ∀ w ∈ gT, w.before ([.ref a, .int zi, .long t0] : List Value).toArray s = true := fun w hw => hts0 w (List.mem_cons_of_mem _ hw)
  have hown : s.vm.findClass RX12 = some m.cls := findClass_of_methodNamed B.named
  have hl := lv_entry [.ref a, .int zi, .long t0] (n := 7) (Nat.le_of_ble_eq_true rfl)
  rw [lg_entry_eq]
  generalize (lg_sl [.ref a, .int zi, .long t0] ++ List.replicate (7 - (lg_sl [.ref a, .int zi, .long t0]).length) Slot.unset).toArray = ls at hl ⊢
  have b_zi := zn_i32 zi
  have b_t0 := zn_i64 t0
  have hD := zD_all h2 hKn.1
  have hcl11 := fun (idx k : Nat) (t : zt_T) (h : (idx, 11, k) ∈ gfX12) (hk : fsX12[k]? = some t) => zf_clause (ro := ro) (ms := yMr) h2 hown hKn.1 gfX12_ok (by decide +kernel) idx 11 k 11 0 fsX12 t h rfl hk
  have kp0 : zc_kept D RTg ro yMr s.heap s.heap := zc_kept.refl
  obtain ⟨hJz, hJq, hRl, hsr⟩ := id hJ
  have hJz : jRZ D cA ro s.heap a L Z := hJz
  have hJq : jRQ D cA ro s.heap a R := hJq
  have hRl : R.length = Z.length := hRl
  have hsr : ∀ e ∈ Z, srt e.2 := hsr
  obtain ⟨⟨la, n, z, fq2, r0, fq1, hn, hc, hz⟩, ⟨a4, a5, a6, a7, zq4, zq5, zq6, zq7, nz, ⟨fq4, rq4, cq4⟩, ⟨fq5, rq5, cq5⟩, ⟨fq6, rq6, cq6⟩, ⟨fq7, rq7, cq7⟩, fq3, hnz, hp⟩, hjl, hzw⟩ := id hJz
  have hjr := hJz.1
  have hjL := hjl.2.1
  have hzw1 := hzw.1
  obtain ⟨n9, g9, n1, n2⟩ := zh_fT (k := 1) (t := (0, 0, 40)) hh ha (show RTg[11]? = some (0, 11, 0, fsX12) from rfl) rfl
  cases fq1.symm.trans g9
  dsimp only at n1 n2
  clear g9
  obtain ⟨n9, g9, nz1, nz2⟩ := zh_fT (k := 3) (t := (0, 0, 8)) hh ha (show RTg[11]? = some (0, 11, 0, fsX12) from rfl) rfl
  cases fq3.symm.trans g9
  dsimp only at nz1 nz2
  clear g9
  obtain ⟨-, xla, dla, hla⟩ := zh_arr hh r0 (show RTg[21]? = some (1, 1, 40, [(1, (-9223372036854775808), 9223372036854775807)]) from rfl)
  have hyla : ∀ i, i < 40 → zt_ok ro (z i) (1, (-9223372036854775808), 9223372036854775807) := zs_arr (hc.symm.trans dla) hla
  obtain ⟨-, xa4, da4, ha4⟩ := zh_arr hh rq4 (show RTg[22]? = some (1, 0, 8, [(0, (-1439), 1439)]) from rfl)
  have hya4 : ∀ i, i < 8 → zt_ok ro (zq4 i) (0, (-1439), 1439) := zs_arr (cq4.symm.trans da4) ha4
  obtain ⟨-, xa5, da5, ha5⟩ := zh_arr hh rq5 (show RTg[23]? = some (1, 0, 8, [(0, 0, 60)]) from rfl)
  have hya5 : ∀ i, i < 8 → zt_ok ro (zq5 i) (0, 0, 60) := zs_arr (cq5.symm.trans da5) ha5
  obtain ⟨-, xa6, da6, ha6⟩ := zh_arr hh rq6 (show RTg[24]? = some (1, 1, 480, [(1, (-100000000000000), 100000000000000)]) from rfl)
  have hya6 : ∀ i, i < 480 → zt_ok ro (zq6 i) (1, (-100000000000000), 100000000000000) := zs_arr (cq6.symm.trans da6) ha6
  obtain ⟨-, xa7, da7, ha7⟩ := zh_arr hh rq7 (show RTg[25]? = some (1, 0, 480, [(0, (-1439), 1439)]) from rfl)
  have hya7 : ∀ i, i < 480 → zt_ok ro (zq7 i) (0, (-1439), 1439) := zs_arr (cq7.symm.trans da7) ha7
  obtain ⟨b8, b9, bA, bB, z8, z9, zA, zB, ⟨fq8, rq8, cq8⟩, ⟨fq9, rq9, cq9⟩, ⟨fqA, rqA, cqA⟩, ⟨fqB, rqB, cqB⟩, hrp, hrw⟩ := id hJq
  obtain ⟨-, xb8, db8, hb8⟩ := zh_arr hh rq8 (show RTg[26]? = some (1, 0, 8, [(0, 0, 2)]) from rfl)
  have hyb8 : ∀ i, i < 8 → zt_ok ro (z8 i) (0, 0, 2) := zs_arr (cq8.symm.trans db8) hb8
  obtain ⟨-, xb9, db9, hb9⟩ := zh_arr hh rq9 (show RTg[27]? = some (1, 0, 8, [(0, (-1000000), 1000000)]) from rfl)
  have hyb9 : ∀ i, i < 8 → zt_ok ro (z9 i) (0, (-1000000), 1000000) := zs_arr (cq9.symm.trans db9) hb9
  obtain ⟨-, xbA, dbA, hbA⟩ := zh_arr hh rqA (show RTg[28]? = some (1, 0, 8, [(0, (-1000000), 1000000)]) from rfl)
  have hybA : ∀ i, i < 8 → zt_ok ro (zA i) (0, (-1000000), 1000000) := zs_arr (cqA.symm.trans dbA) hbA
  obtain ⟨-, xbB, dbB, hbB⟩ := zh_arr hh rqB (show RTg[29]? = some (1, 0, 80, [(0, (-1000000), 1000000)]) from rfl)
  have hybB : ∀ i, i < 80 → zt_ok ro (zB i) (0, (-1000000), 1000000) := zs_arr (cqB.symm.trans dbB) hbB
  refine lv_aload_n hx hb (eX12_next (0, .aload_n 0, 1) (List.mem_of_getElem? (i := 0) rfl)) rfl (lv_at hl 0 rfl) ?_
  refine lv_aload_n hx hb (eX12_next (1, .aload_n 0, 1) (List.mem_of_getElem? (i := 1) rfl)) rfl (lv_at hl 0 rfl) ?_
  refine lv_iload_n hx hb (eX12_next (2, .iload_n 1, 1) (List.mem_of_getElem? (i := 2) rfl)) rfl (lv_at hl 1 rfl) ?_
  refine tz_rowV (As := [.int zi]) (st := [.ref a]) (b := a) (C := RX12) (Ts := gT) hx hb hml hown h2 (fun _ h => h) (hX12_isZone l D cA ro sz H0 a zi nz ha) ⟨rfl, rfl⟩ ⟨by decide, by decide⟩ ⟨by decide, by decide⟩ (tb_7 162 rfl rfl) (tb_1 12 rfl rfl) (tb_7 159 rfl rfl) (tb_7 161 rfl rfl) (tb_0 15 rfl rfl) (show yX12_isZone.cls ≠ "java/lang/invoke/MethodHandle" ∧ yX12_isZone.cls ≠ "java/lang/invoke/VarHandle" ∧ (parseMethodDescriptor yX12_isZone.desc).map (fun d => d.parameters.length) = some 1 by decide +kernel) zs_blind (zs_ob hh ha (show RTg[11]? = some (0, 11, 0, fsX12) from rfl) (zCX12 hKn.1)) (fun U hU hW => ⟨rfl, by rw [hU]; exact hh.l0, zKb s U hW.alike hKn, by rw [hU]; exact fq3⟩) hh.2.2.1 hl.1 (Nat.le_of_ble_eq_true rfl) (eX12_next (3, .invokevirtual 221, 3) (List.mem_of_getElem? (i := 3) rfl)) (fun r1 s1 t1 lo1 g1 f1 l1 => ?_)
  obtain ⟨z1, v1, q1, e1⟩ := f1
  cases q1
  rw [z1, g1]
  have hh1 : zh_ok D cA RTg ro sz H0 s.heap lo1 := ⟨hh.1, hh.2.1, l1, hh.2.2.2⟩
  refine W.eq (g2 := F0 m 6 ls [.int v1, .ref a]) rfl ?_
  refine ff_if_eq hx hb (eX12_next (6, .ifCond .eq 11, 3) (List.mem_of_getElem? (i := 4) rfl)) (tgt := 17) rfl (fun c2 => ?_) (fun c2 => ?_)
  · skip
    refine ff_iconst hx hb (eX12_next (17, .iconst 1, 1) (List.mem_of_getElem? (i := 9) rfl)) (by decide) (by decide) (fun v3 e3 => ?_)
    refine lv_goto hx hb (eX12_next (18, .goto 4, 3) (List.mem_of_getElem? (i := 10) rfl)) (tgt := 22) rfl ?_
    refine tz_put (r := 11) (k := 0) (t := (0, 0, 2)) hx hb hD hh1 ha rfl rfl ((hcl11 85 0 (0, 0, 2) (by decide) rfl).2 (by decide)) (tz_i (by omega) (by omega)) (eX12_next (22, .putfield 85, 3) (List.mem_of_getElem? (i := 12) rfl)) (fun H4 lo4 hh4 hf4 hk4 _ hq4 => ?_)
    have mf4_a_2 := (hk4.1 a 11 2 11 0 fsX12 ha rfl (by decide) (by decide)).trans fq2
    have mf4_a_1 := (hk4.1 a 11 1 11 0 fsX12 ha rfl (by decide) (by decide)).trans fq1
    have mf4_a_3 := (hk4.1 a 11 3 11 0 fsX12 ha rfl (by decide) (by decide)).trans fq3
    have mf4_a_4 := (hk4.1 a 11 4 11 0 fsX12 ha rfl (by decide) (by decide)).trans fq4
    have mf4_a_5 := (hk4.1 a 11 5 11 0 fsX12 ha rfl (by decide) (by decide)).trans fq5
    have mf4_a_6 := (hk4.1 a 11 6 11 0 fsX12 ha rfl (by decide) (by decide)).trans fq6
    have mf4_a_7 := (hk4.1 a 11 7 11 0 fsX12 ha rfl (by decide) (by decide)).trans fq7
    have mf4_a_8 := (hk4.1 a 11 8 11 0 fsX12 ha rfl (by decide) (by decide)).trans fq8
    have mf4_a_9 := (hk4.1 a 11 9 11 0 fsX12 ha rfl (by decide) (by decide)).trans fq9
    have mf4_a_10 := (hk4.1 a 11 10 11 0 fsX12 ha rfl (by decide) (by decide)).trans fqA
    have mf4_a_11 := (hk4.1 a 11 11 11 0 fsX12 ha rfl (by decide) (by decide)).trans fqB
    have mc4_la := (hk4.2 la 21 0 1 40 _ r0 rfl (by decide)).trans hc
    have mc4_a4 := (hk4.2 a4 22 0 0 8 _ rq4 rfl (by decide)).trans cq4
    have mc4_a5 := (hk4.2 a5 23 0 0 8 _ rq5 rfl (by decide)).trans cq5
    have mc4_a6 := (hk4.2 a6 24 0 1 480 _ rq6 rfl (by decide)).trans cq6
    have mc4_a7 := (hk4.2 a7 25 0 0 480 _ rq7 rfl (by decide)).trans cq7
    have mc4_b8 := (hk4.2 b8 26 0 0 8 _ rq8 rfl (by decide)).trans cq8
    have mc4_b9 := (hk4.2 b9 27 0 0 8 _ rq9 rfl (by decide)).trans cq9
    have mc4_bA := (hk4.2 bA 28 0 0 8 _ rqA rfl (by decide)).trans cqA
    have mc4_bB := (hk4.2 bB 29 0 0 80 _ rqB rfl (by decide)).trans cqB
    have kp4 := kp0.trans (hk4.mono (ms' := yMr) (fun x hx => by cases List.mem_singleton.mp hx; decide))
    have jm4 := (hJ).kept ha hk4 (by decide)
    refine lv_aload_n hx hb (eX12_next (25, .aload_n 0, 1) (List.mem_of_getElem? (i := 13) rfl)) rfl (lv_at hl 0 rfl) ?_
    refine tz_get (r := 11) (k := 0) (t := (0, 0, 2)) hx hb hh4 ha rfl rfl (hcl11 85 0 (0, 0, 2) (by decide) rfl).1 hf4 (eX12_next (26, .getfield 85, 3) (List.mem_of_getElem? (i := 14) rfl)) ?_
    refine ff_if_le hx hb (eX12_next (29, .ifCond .le 5, 3) (List.mem_of_getElem? (i := 15) rfl)) (tgt := 34) rfl (fun c5 => (by exfalso; omega)) (fun c5 => ?_)
    refine ff_lconst hx hb (eX12_next (32, .lconst 0, 1) (List.mem_of_getElem? (i := 16) rfl)) rfl (fun v6 e6 => ?_)
    exact W.lret hx hb hr (fun t ht hW => ⟨_, _, _, L, (Z, R), rfl, ⟨_, rfl, rfl⟩, by rw [ht]; exact hh4.l0, by rw [ht]; exact kp4, by rw [ht]; exact hf4, by rw [ht]; exact jm4, rfl, rfl, Or.inl ⟨by omega, fun g => by have g1 := g.1; have g2 : zi.toInt < (Z.length : Int) := g.2.1; omega⟩⟩) hh4.2.2.1 (eX12_next (33, .lreturn, 1) (List.mem_of_getElem? (i := 17) rfl))
  · skip
    refine lv_aload_n hx hb (eX12_next (9, .aload_n 0, 1) (List.mem_of_getElem? (i := 5) rfl)) rfl (lv_at hl 0 rfl) ?_
    refine lv_lload_n hx hb (eX12_next (10, .lload_n 2, 1) (List.mem_of_getElem? (i := 6) rfl)) rfl (lv_at hl 2 rfl) ?_
    refine tz_rowV (As := [.long t0]) (st := [.ref a]) (b := a) (C := RX12) (Ts := gT) hx hb hml hown h2 (fun _ h => h) (hX12_isInstant l D cA ro sz H0 a t0 L ha) ⟨rfl, rfl⟩ ⟨by decide, by decide⟩ ⟨by decide, by decide⟩ (tb_7 141 rfl rfl) (tb_1 12 rfl rfl) (tb_7 138 rfl rfl) (tb_7 140 rfl rfl) (tb_0 13 rfl rfl) (show yX12_isInstant.cls ≠ "java/lang/invoke/MethodHandle" ∧ yX12_isInstant.cls ≠ "java/lang/invoke/VarHandle" ∧ (parseMethodDescriptor yX12_isInstant.desc).map (fun d => d.parameters.length) = some 1 by decide +kernel) zs_blind (zs_ob hh1 ha (show RTg[11]? = some (0, 11, 0, fsX12) from rfl) (zCX12 hKn.1)) (fun U hU hW => ⟨rfl, by rw [hU]; exact hh1.l0, zKb s U hW.alike hKn, by rw [hU]; exact hjr⟩) hh1.2.2.1 hl.1 (Nat.le_of_ble_eq_true rfl) (eX12_next (11, .invokevirtual 207, 3) (List.mem_of_getElem? (i := 7) rfl)) (fun r7 s7 t7 lo7 g7 f7 l7 => ?_)
    obtain ⟨z7, v7, q7, e7⟩ := f7
    cases q7
    rw [z7, g7]
    have hh7 : zh_ok D cA RTg ro sz H0 s.heap lo7 := ⟨hh1.1, hh1.2.1, l7, hh1.2.2.2⟩
    refine W.eq (g2 := F0 m 14 ls [.int v7, .ref a]) rfl ?_
    refine ff_if_ne hx hb (eX12_next (14, .ifCond .ne 7, 3) (List.mem_of_getElem? (i := 8) rfl)) (tgt := 21) rfl (fun c8 => ?_) (fun c8 => ?_)
    · skip
      refine ff_iconst hx hb (eX12_next (21, .iconst 0, 1) (List.mem_of_getElem? (i := 11) rfl)) (by decide) (by decide) (fun v9 e9 => ?_)
      refine tz_put (r := 11) (k := 0) (t := (0, 0, 2)) hx hb hD hh7 ha rfl rfl ((hcl11 85 0 (0, 0, 2) (by decide) rfl).2 (by decide)) (tz_i (by omega) (by omega)) (eX12_next (22, .putfield 85, 3) (List.mem_of_getElem? (i := 12) rfl)) (fun H10 lo10 hh10 hf10 hk10 _ hq10 => ?_)
      have mf10_a_2 := (hk10.1 a 11 2 11 0 fsX12 ha rfl (by decide) (by decide)).trans fq2
      have mf10_a_1 := (hk10.1 a 11 1 11 0 fsX12 ha rfl (by decide) (by decide)).trans fq1
      have mf10_a_3 := (hk10.1 a 11 3 11 0 fsX12 ha rfl (by decide) (by decide)).trans fq3
      have mf10_a_4 := (hk10.1 a 11 4 11 0 fsX12 ha rfl (by decide) (by decide)).trans fq4
      have mf10_a_5 := (hk10.1 a 11 5 11 0 fsX12 ha rfl (by decide) (by decide)).trans fq5
      have mf10_a_6 := (hk10.1 a 11 6 11 0 fsX12 ha rfl (by decide) (by decide)).trans fq6
      have mf10_a_7 := (hk10.1 a 11 7 11 0 fsX12 ha rfl (by decide) (by decide)).trans fq7
      have mf10_a_8 := (hk10.1 a 11 8 11 0 fsX12 ha rfl (by decide) (by decide)).trans fq8
      have mf10_a_9 := (hk10.1 a 11 9 11 0 fsX12 ha rfl (by decide) (by decide)).trans fq9
      have mf10_a_10 := (hk10.1 a 11 10 11 0 fsX12 ha rfl (by decide) (by decide)).trans fqA
      have mf10_a_11 := (hk10.1 a 11 11 11 0 fsX12 ha rfl (by decide) (by decide)).trans fqB
      have mc10_la := (hk10.2 la 21 0 1 40 _ r0 rfl (by decide)).trans hc
      have mc10_a4 := (hk10.2 a4 22 0 0 8 _ rq4 rfl (by decide)).trans cq4
      have mc10_a5 := (hk10.2 a5 23 0 0 8 _ rq5 rfl (by decide)).trans cq5
      have mc10_a6 := (hk10.2 a6 24 0 1 480 _ rq6 rfl (by decide)).trans cq6
      have mc10_a7 := (hk10.2 a7 25 0 0 480 _ rq7 rfl (by decide)).trans cq7
      have mc10_b8 := (hk10.2 b8 26 0 0 8 _ rq8 rfl (by decide)).trans cq8
      have mc10_b9 := (hk10.2 b9 27 0 0 8 _ rq9 rfl (by decide)).trans cq9
      have mc10_bA := (hk10.2 bA 28 0 0 8 _ rqA rfl (by decide)).trans cqA
      have mc10_bB := (hk10.2 bB 29 0 0 80 _ rqB rfl (by decide)).trans cqB
      have kp10 := kp0.trans (hk10.mono (ms' := yMr) (fun x hx => by cases List.mem_singleton.mp hx; decide))
      have jm10 := (hJ).kept ha hk10 (by decide)
      refine lv_aload_n hx hb (eX12_next (25, .aload_n 0, 1) (List.mem_of_getElem? (i := 13) rfl)) rfl (lv_at hl 0 rfl) ?_
      refine tz_get (r := 11) (k := 0) (t := (0, 0, 2)) hx hb hh10 ha rfl rfl (hcl11 85 0 (0, 0, 2) (by decide) rfl).1 hf10 (eX12_next (26, .getfield 85, 3) (List.mem_of_getElem? (i := 14) rfl)) ?_
      refine ff_if_le hx hb (eX12_next (29, .ifCond .le 5, 3) (List.mem_of_getElem? (i := 15) rfl)) (tgt := 34) rfl (fun c11 => ?_) (fun c11 => (by exfalso; omega))
      have htk : tOK t0.toInt L := by rcases e7 with h | h; exact h.2; exfalso; omega
      have htb : -32000000000000 ≤ t0.toInt ∧ t0.toInt ≤ 32000000000000 := by have h8 := lsI_b hjL (-365961662); have h9 := lsI_b hjL 364522972; have h7 := htk; unfold tOK at h7; omega
      have hlt : zi.toInt.toNat < Z.length := by omega
      obtain ⟨ze, hze⟩ : ∃ e9, Z[zi.toInt.toNat]? = some e9 := ⟨_, List.getElem?_eq_getElem hlt⟩
      obtain ⟨rr, hrr⟩ : ∃ e9, R[zi.toInt.toNat]? = some e9 := ⟨_, List.getElem?_eq_getElem (by omega)⟩
      have hwr := hrw rr (List.mem_of_getElem? hrr)
      have hst := hsr ze (List.mem_of_getElem? hze)
      have hzz := hzp ze (List.mem_of_getElem? hze)
      have hzt9 := hzt ze (List.mem_of_getElem? hze)
      refine lv_aload_n hx hb (eX12_next (34, .aload_n 0, 1) (List.mem_of_getElem? (i := 18) rfl)) rfl (lv_at hl 0 rfl) ?_
      refine lv_iload_n hx hb (eX12_next (35, .iload_n 1, 1) (List.mem_of_getElem? (i := 19) rfl)) rfl (lv_at hl 1 rfl) ?_
      refine lv_lload_n hx hb (eX12_next (36, .lload_n 2, 1) (List.mem_of_getElem? (i := 20) rfl)) rfl (lv_at hl 2 rfl) ?_
      refine lv_lload_n hx hb (eX12_next (37, .lload_n 2, 1) (List.mem_of_getElem? (i := 21) rfl)) rfl (lv_at hl 2 rfl) ?_
      refine ff_ldc2 (n := 172800000) hx hb hown h2 (clX12_ok 263 172800000 (List.mem_of_getElem? (i := 25) rfl)) (eX12_next (38, .ldc2_w 263, 3) (List.mem_of_getElem? (i := 22) rfl)) (fun v12 e12 => ?_)
      refine ff_ladd hx hb (eX12_next (41, .ladd, 1) (List.mem_of_getElem? (i := 23) rfl)) (by omega) (by omega) (fun v13 e13 => ?_)
      refine tz_rowV (As := [.int zi, .long t0, .long v13]) (st := []) (b := a) (C := RX12) (Ts := gT) hx hb hml hown h2 (fun _ h => h) (hX12_listBegins l D cA ro sz H0 a zi t0 v13 L Z R zi.toInt.toNat ze rr ha (by omega) hze hrr (by omega) (by omega)) ⟨rfl, rfl⟩ ⟨by decide, by decide⟩ ⟨by decide, by decide⟩ (tb_7 203 rfl rfl) (tb_1 12 rfl rfl) (tb_7 200 rfl rfl) (tb_7 202 rfl rfl) (tb_0 22 rfl rfl) (show yX12_listBegins.cls ≠ "java/lang/invoke/MethodHandle" ∧ yX12_listBegins.cls ≠ "java/lang/invoke/VarHandle" ∧ (parseMethodDescriptor yX12_listBegins.desc).map (fun d => d.parameters.length) = some 3 by decide +kernel) zs_blind (zs_ob hh10 ha (show RTg[11]? = some (0, 11, 0, fsX12) from rfl) (zCX12 hKn.1)) (fun U hU hW => ⟨rfl, by rw [hU]; exact hh10.l0, zKb s U hW.alike hKn, by rw [hU]; exact jm10⟩) hh10.2.2.1 hl.1 (Nat.le_of_ble_eq_true rfl) (eX12_next (42, .invokevirtual 265, 3) (List.mem_of_getElem? (i := 24) rfl)) (fun r14 s14 t14 lo14 g14 f14 l14 => ?_)
      obtain ⟨q14, z14, c14, B, jb, hBl, hBm⟩ := f14
      cases q14
      rw [g14] at c14
      have hh14 : zh_ok D cA RTg ro sz H0 t14.heap lo14 := ⟨z14.1, z14.2.1, l14, z14.2.2.2⟩
      have kp14 := kp10.trans (c14.mono (ms' := yMr) (by decide))
      have jy14 := jm10.kept ha c14 (by decide)
      have f014 := (c14.1 a 11 0 11 0 fsX12 ha rfl (by decide) (by decide)).trans hf10
      rw [show v13.toInt = t0.toInt + 172800000 by omega] at hBm
      have hnx := nx_ref hjL hwr hst hzz.2.1 hzt9 htk hBm
      obtain ⟨ag, zg, bn, f26, rag, cag, f27, hbn, hjg⟩ := id jb
      have hN : NONEI = -9223372036854775808 := rfl
      refine W.eq (g2 := F0 m 45 ls []) rfl ?_
      refine ff_ldc2 (n := (-9223372036854775808)) hx hb hown h2 (clX12_ok 83 (-9223372036854775808) (List.mem_of_getElem? (i := 2) rfl)) (eX12_next (45, .ldc2_w 83, 3) (List.mem_of_getElem? (i := 25) rfl)) (fun v15 e15 => ?_)
      refine lv_lstore hx hb (eX12_next (48, .lstore 4, 2) (List.mem_of_getElem? (i := 26) rfl)) hl (by decide) rfl (fun ls16 hl16 => ?_)
      refine ff_iconst hx hb (eX12_next (50, .iconst 0, 1) (List.mem_of_getElem? (i := 27) rfl)) (by decide) (by decide) (fun v17 e17 => ?_)
      refine lv_istore hx hb (eX12_next (51, .istore 6, 2) (List.mem_of_getElem? (i := 28) rfl)) hl16 (by decide) rfl (fun ls18 hl18 => ?_)
      have loop : ∀ (n9 k0 : Nat) (iv : Int32) (bv : Int64) (ls : Array Slot) (lo0 : List Loc), k0 + n9 = B.length → iv.toInt = (k0 : Int) → bv.toInt = mnF (B.take k0) → zh_ok D cA RTg ro sz H0 t14.heap lo0 → lv_has ls 7 [(6, .int iv), (4, .long bv), (0, .ref a), (1, .int zi), (2, .long t0)] → W p l e (headSpec (gW yX12_next cX12_next 7 (some .long)) { frames := 8, cells := 0, slots := 0, locals := 220 }).room s m ([.ref a, .int zi, .long t0] : List Value).toArray below meth c t14.heap lo0 0 0 (MQ below (yy_QR D cA ro sz H0 a vL (spNY zi.toInt t0.toInt L (Z, R))) ([.ref a, .int zi, .long t0] : List Value).toArray s 0 0 (zy_fr sz)) (F0 m 53 ls []) := by
        intro n9
        induction n9 with
        | zero =>
          intro k0 iv bv ls lo0 hk hiv hbv hh0 hl
          refine lv_iload hx hb (eX12_next (53, .iload 6, 2) (List.mem_of_getElem? (i := 29) rfl)) (lv_at hl 0 rfl) ?_
          refine lv_aload_n hx hb (eX12_next (55, .aload_n 0, 1) (List.mem_of_getElem? (i := 30) rfl)) rfl (lv_at hl 2 rfl) ?_
          refine tz_get (r := 11) (k := 27) (t := (0, 0, 128)) hx hb hh0 ha rfl rfl (hcl11 253 27 (0, 0, 128) (by decide) rfl).1 f27 (eX12_next (56, .getfield 253, 3) (List.mem_of_getElem? (i := 31) rfl)) ?_
          refine ff_icmp_ge hx hb (eX12_next (59, .if_icmp .ge 45, 3) (List.mem_of_getElem? (i := 32) rfl)) (tgt := 104) rfl (fun c19 => ?_) (fun c19 => (by exfalso; omega))
          refine lv_lload hx hb (eX12_next (104, .lload 4, 2) (List.mem_of_getElem? (i := 53) rfl)) (lv_at hl 1 rfl) ?_
          rw [List.take_of_length_le (by omega), hnx] at hbv
          exact W.lret hx hb hr (fun t ht hW => ⟨_, _, _, L, (Z, R), rfl, ⟨_, rfl, rfl⟩, by rw [ht]; exact hh0.l0, by rw [ht]; exact kp14, by rw [ht]; exact f014, by rw [ht]; exact jy14, rfl, rfl, Or.inr ⟨by omega, ⟨by omega, by show _ < (Z.length : Int); omega, htk⟩, ze, rr, hze, hrr, hbv⟩⟩) hh0.2.2.1 (eX12_next (106, .lreturn, 1) (List.mem_of_getElem? (i := 54) rfl))
        | succ n9 ih =>
          intro k0 iv bv ls lo0 hk hiv hbv hh0 hl
          obtain ⟨xv, hzx, hBx⟩ := hjg k0 (by omega)
          refine lv_iload hx hb (eX12_next (53, .iload 6, 2) (List.mem_of_getElem? (i := 29) rfl)) (lv_at hl 0 rfl) ?_
          refine lv_aload_n hx hb (eX12_next (55, .aload_n 0, 1) (List.mem_of_getElem? (i := 30) rfl)) rfl (lv_at hl 2 rfl) ?_
          refine tz_get (r := 11) (k := 27) (t := (0, 0, 128)) hx hb hh0 ha rfl rfl (hcl11 253 27 (0, 0, 128) (by decide) rfl).1 f27 (eX12_next (56, .getfield 253, 3) (List.mem_of_getElem? (i := 31) rfl)) ?_
          refine ff_icmp_ge hx hb (eX12_next (59, .if_icmp .ge 45, 3) (List.mem_of_getElem? (i := 32) rfl)) (tgt := 104) rfl (fun c20 => (by exfalso; omega)) (fun c20 => ?_)
          refine lv_lload hx hb (eX12_next (62, .lload 4, 2) (List.mem_of_getElem? (i := 33) rfl)) (lv_at hl 1 rfl) ?_
          refine ff_ldc2 (n := (-9223372036854775808)) hx hb hown h2 (clX12_ok 83 (-9223372036854775808) (List.mem_of_getElem? (i := 2) rfl)) (eX12_next (64, .ldc2_w 83, 3) (List.mem_of_getElem? (i := 34) rfl)) (fun v21 e21 => ?_)
          refine ff_lcmp hx hb (eX12_next (67, .lcmp, 1) (List.mem_of_getElem? (i := 35) rfl)) (fun v22 e22 => ?_)
          refine ff_if_eq hx hb (eX12_next (68, .ifCond .eq 16, 3) (List.mem_of_getElem? (i := 36) rfl)) (tgt := 84) rfl (fun c23 => ?_) (fun c23 => ?_)
          · skip
            refine lv_aload_n hx hb (eX12_next (84, .aload_n 0, 1) (List.mem_of_getElem? (i := 44) rfl)) rfl (lv_at hl 2 rfl) ?_
            refine tz_get (r := 11) (k := 26) (t := (72, 0, 0)) hx hb hh0 ha rfl rfl (hcl11 53 26 (72, 0, 0) (by decide) rfl).1 f26 (eX12_next (85, .getfield 53, 3) (List.mem_of_getElem? (i := 45) rfl)) ?_
            refine lv_iload hx hb (eX12_next (88, .iload 6, 2) (List.mem_of_getElem? (i := 46) rfl)) (lv_at hl 0 rfl) ?_
            refine tz_lald hx hb (zAr hKn.1 1 (by decide)) cag (by omega) (by omega) (eX12_next (90, .laload, 1) (List.mem_of_getElem? (i := 47) rfl)) ?_
            rw [show iv.toNatClampNeg = k0 by show iv.toInt.toNat = _; omega, hzx]
            refine lv_goto hx hb (eX12_next (91, .goto 5, 3) (List.mem_of_getElem? (i := 48) rfl)) (tgt := 96) rfl ?_
            refine lv_lstore hx hb (eX12_next (96, .lstore 4, 2) (List.mem_of_getElem? (i := 50) rfl)) hl (by decide) rfl (fun ls24 hl24 => ?_)
            refine ff_iinc (k := 1) hx hb (eX12_next (98, .iinc 6 1, 3) (List.mem_of_getElem? (i := 51) rfl)) hl24 rfl (by decide) (by decide) (by decide) (by omega) (by omega) (fun v25 e25 ls25 hl25 => ?_)
            refine lv_goto hx hb (eX12_next (101, .goto (-48), 3) (List.mem_of_getElem? (i := 52) rfl)) (tgt := 53) rfl ?_
            exact ih (k0 + 1) v25 xv ls25 _ (by omega) (by omega) (by rw [mn_take hBx, ← hbv]; first | (rw [if_pos (by omega)]; done) | (rw [if_neg (by omega)]; done)) hh0 (lv_sub hl25 [0, 1, 2, 3, 4] rfl)
          · skip
            refine lv_aload_n hx hb (eX12_next (71, .aload_n 0, 1) (List.mem_of_getElem? (i := 37) rfl)) rfl (lv_at hl 2 rfl) ?_
            refine tz_get (r := 11) (k := 26) (t := (72, 0, 0)) hx hb hh0 ha rfl rfl (hcl11 53 26 (72, 0, 0) (by decide) rfl).1 f26 (eX12_next (72, .getfield 53, 3) (List.mem_of_getElem? (i := 38) rfl)) ?_
            refine lv_iload hx hb (eX12_next (75, .iload 6, 2) (List.mem_of_getElem? (i := 39) rfl)) (lv_at hl 0 rfl) ?_
            refine tz_lald hx hb (zAr hKn.1 1 (by decide)) cag (by omega) (by omega) (eX12_next (77, .laload, 1) (List.mem_of_getElem? (i := 40) rfl)) ?_
            rw [show iv.toNatClampNeg = k0 by show iv.toInt.toNat = _; omega, hzx]
            refine lv_lload hx hb (eX12_next (78, .lload 4, 2) (List.mem_of_getElem? (i := 41) rfl)) (lv_at hl 1 rfl) ?_
            refine ff_lcmp hx hb (eX12_next (80, .lcmp, 1) (List.mem_of_getElem? (i := 42) rfl)) (fun v26 e26 => ?_)
            refine ff_if_ge hx hb (eX12_next (81, .ifCond .ge 13, 3) (List.mem_of_getElem? (i := 43) rfl)) (tgt := 94) rfl (fun c27 => ?_) (fun c27 => ?_)
            · skip
              refine lv_lload hx hb (eX12_next (94, .lload 4, 2) (List.mem_of_getElem? (i := 49) rfl)) (lv_at hl 1 rfl) ?_
              refine lv_lstore hx hb (eX12_next (96, .lstore 4, 2) (List.mem_of_getElem? (i := 50) rfl)) hl (by decide) rfl (fun ls28 hl28 => ?_)
              refine ff_iinc (k := 1) hx hb (eX12_next (98, .iinc 6 1, 3) (List.mem_of_getElem? (i := 51) rfl)) hl28 rfl (by decide) (by decide) (by decide) (by omega) (by omega) (fun v29 e29 ls29 hl29 => ?_)
              refine lv_goto hx hb (eX12_next (101, .goto (-48), 3) (List.mem_of_getElem? (i := 52) rfl)) (tgt := 53) rfl ?_
              exact ih (k0 + 1) v29 bv ls29 _ (by omega) (by omega) (by rw [mn_take hBx, ← hbv]; first | (rw [if_pos (by omega)]; done) | (rw [if_neg (by omega)]; done)) hh0 (lv_sub hl29 [0, 1, 2, 3, 4] rfl)
            · skip
              refine lv_aload_n hx hb (eX12_next (84, .aload_n 0, 1) (List.mem_of_getElem? (i := 44) rfl)) rfl (lv_at hl 2 rfl) ?_
              refine tz_get (r := 11) (k := 26) (t := (72, 0, 0)) hx hb hh0 ha rfl rfl (hcl11 53 26 (72, 0, 0) (by decide) rfl).1 f26 (eX12_next (85, .getfield 53, 3) (List.mem_of_getElem? (i := 45) rfl)) ?_
              refine lv_iload hx hb (eX12_next (88, .iload 6, 2) (List.mem_of_getElem? (i := 46) rfl)) (lv_at hl 0 rfl) ?_
              refine tz_lald hx hb (zAr hKn.1 1 (by decide)) cag (by omega) (by omega) (eX12_next (90, .laload, 1) (List.mem_of_getElem? (i := 47) rfl)) ?_
              rw [show iv.toNatClampNeg = k0 by show iv.toInt.toNat = _; omega, hzx]
              refine lv_goto hx hb (eX12_next (91, .goto 5, 3) (List.mem_of_getElem? (i := 48) rfl)) (tgt := 96) rfl ?_
              refine lv_lstore hx hb (eX12_next (96, .lstore 4, 2) (List.mem_of_getElem? (i := 50) rfl)) hl (by decide) rfl (fun ls30 hl30 => ?_)
              refine ff_iinc (k := 1) hx hb (eX12_next (98, .iinc 6 1, 3) (List.mem_of_getElem? (i := 51) rfl)) hl30 rfl (by decide) (by decide) (by decide) (by omega) (by omega) (fun v31 e31 ls31 hl31 => ?_)
              refine lv_goto hx hb (eX12_next (101, .goto (-48), 3) (List.mem_of_getElem? (i := 52) rfl)) (tgt := 53) rfl ?_
              exact ih (k0 + 1) v31 xv ls31 _ (by omega) (by omega) (by rw [mn_take hBx, ← hbv]; first | (rw [if_pos (by omega)]; done) | (rw [if_neg (by omega)]; done)) hh0 (lv_sub hl31 [0, 1, 2, 3, 4] rfl)
      exact loop B.length 0 v17 v15 ls18 _ (by omega) (by omega) (by rw [List.take_zero]; show _ = NONEI; omega) hh14 (lv_sub hl18 [0, 1, 2, 3, 4] rfl)
    · skip
      refine ff_iconst hx hb (eX12_next (17, .iconst 1, 1) (List.mem_of_getElem? (i := 9) rfl)) (by decide) (by decide) (fun v32 e32 => ?_)
      refine lv_goto hx hb (eX12_next (18, .goto 4, 3) (List.mem_of_getElem? (i := 10) rfl)) (tgt := 22) rfl ?_
      refine tz_put (r := 11) (k := 0) (t := (0, 0, 2)) hx hb hD hh7 ha rfl rfl ((hcl11 85 0 (0, 0, 2) (by decide) rfl).2 (by decide)) (tz_i (by omega) (by omega)) (eX12_next (22, .putfield 85, 3) (List.mem_of_getElem? (i := 12) rfl)) (fun H33 lo33 hh33 hf33 hk33 _ hq33 => ?_)
      have mf33_a_2 := (hk33.1 a 11 2 11 0 fsX12 ha rfl (by decide) (by decide)).trans fq2
      have mf33_a_1 := (hk33.1 a 11 1 11 0 fsX12 ha rfl (by decide) (by decide)).trans fq1
      have mf33_a_3 := (hk33.1 a 11 3 11 0 fsX12 ha rfl (by decide) (by decide)).trans fq3
      have mf33_a_4 := (hk33.1 a 11 4 11 0 fsX12 ha rfl (by decide) (by decide)).trans fq4
      have mf33_a_5 := (hk33.1 a 11 5 11 0 fsX12 ha rfl (by decide) (by decide)).trans fq5
      have mf33_a_6 := (hk33.1 a 11 6 11 0 fsX12 ha rfl (by decide) (by decide)).trans fq6
      have mf33_a_7 := (hk33.1 a 11 7 11 0 fsX12 ha rfl (by decide) (by decide)).trans fq7
      have mf33_a_8 := (hk33.1 a 11 8 11 0 fsX12 ha rfl (by decide) (by decide)).trans fq8
      have mf33_a_9 := (hk33.1 a 11 9 11 0 fsX12 ha rfl (by decide) (by decide)).trans fq9
      have mf33_a_10 := (hk33.1 a 11 10 11 0 fsX12 ha rfl (by decide) (by decide)).trans fqA
      have mf33_a_11 := (hk33.1 a 11 11 11 0 fsX12 ha rfl (by decide) (by decide)).trans fqB
      have mc33_la := (hk33.2 la 21 0 1 40 _ r0 rfl (by decide)).trans hc
      have mc33_a4 := (hk33.2 a4 22 0 0 8 _ rq4 rfl (by decide)).trans cq4
      have mc33_a5 := (hk33.2 a5 23 0 0 8 _ rq5 rfl (by decide)).trans cq5
      have mc33_a6 := (hk33.2 a6 24 0 1 480 _ rq6 rfl (by decide)).trans cq6
      have mc33_a7 := (hk33.2 a7 25 0 0 480 _ rq7 rfl (by decide)).trans cq7
      have mc33_b8 := (hk33.2 b8 26 0 0 8 _ rq8 rfl (by decide)).trans cq8
      have mc33_b9 := (hk33.2 b9 27 0 0 8 _ rq9 rfl (by decide)).trans cq9
      have mc33_bA := (hk33.2 bA 28 0 0 8 _ rqA rfl (by decide)).trans cqA
      have mc33_bB := (hk33.2 bB 29 0 0 80 _ rqB rfl (by decide)).trans cqB
      have kp33 := kp0.trans (hk33.mono (ms' := yMr) (fun x hx => by cases List.mem_singleton.mp hx; decide))
      have jm33 := (hJ).kept ha hk33 (by decide)
      refine lv_aload_n hx hb (eX12_next (25, .aload_n 0, 1) (List.mem_of_getElem? (i := 13) rfl)) rfl (lv_at hl 0 rfl) ?_
      refine tz_get (r := 11) (k := 0) (t := (0, 0, 2)) hx hb hh33 ha rfl rfl (hcl11 85 0 (0, 0, 2) (by decide) rfl).1 hf33 (eX12_next (26, .getfield 85, 3) (List.mem_of_getElem? (i := 14) rfl)) ?_
      refine ff_if_le hx hb (eX12_next (29, .ifCond .le 5, 3) (List.mem_of_getElem? (i := 15) rfl)) (tgt := 34) rfl (fun c34 => (by exfalso; omega)) (fun c34 => ?_)
      refine ff_lconst hx hb (eX12_next (32, .lconst 0, 1) (List.mem_of_getElem? (i := 16) rfl)) rfl (fun v35 e35 => ?_)
      exact W.lret hx hb hr (fun t ht hW => ⟨_, _, _, L, (Z, R), rfl, ⟨_, rfl, rfl⟩, by rw [ht]; exact hh33.l0, by rw [ht]; exact kp33, by rw [ht]; exact hf33, by rw [ht]; exact jm33, rfl, rfl, Or.inl ⟨by omega, fun g => by rcases e7 with h | h; exfalso; omega; exact h.2 g.2.2⟩⟩) hh33.2.2.1 (eX12_next (33, .lreturn, 1) (List.mem_of_getElem? (i := 17) rfl))
