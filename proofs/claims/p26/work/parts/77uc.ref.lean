theorem hX12_isDayZ (l : Launch) (D : va_G) (cA : Nat → ClassId) (ro : Nat → Option Nat) (sz : Nat) (H0 : Heap) (a : Nat) (n : Int64) (L : List Int) (Z : List zE) (ha : ro a = some 11) : Met l yX12_isDay (gW yX12_isDay cX12_isDay 3 (some .boolean)) { frames := 1, cells := 0, slots := 0, locals := 25 } (zs_P D cA ro sz H0 (fun H => jRZ D cA ro H a L Z) [.ref a, .long n]) (zg_idQ n.toInt) 0 0 (zy_fr sz) := met_weak (hX12_isDay l D cA ro sz H0 a n ha) (fun _ _ h => ⟨h.1, h.2.1, h.2.2.1⟩)
theorem hX12_isLeapDayZ (l : Launch) (D : va_G) (cA : Nat → ClassId) (ro : Nat → Option Nat) (sz : Nat) (H0 : Heap) (a : Nat) (d : Int64) (L : List Int) (Z : List zE) (ha : ro a = some 11) : Met l yX12_isLeapDay (gW yX12_isLeapDay cX12_isLeapDay 4 (some .boolean)) { frames := 0, cells := 0, slots := 0, locals := 0 } (zs_P D cA ro sz H0 (fun H => jRZ D cA ro H a L Z) [.ref a, .long d]) (fun _ st oc t => t.heap = st.heap ∧ ∃ r : Int32, oc = .returned (some (.int r)) ∧ ((r.toInt = 1 ∧ d.toInt ∈ L) ∨ (r.toInt = 0 ∧ d.toInt ∉ L))) 0 0 (zy_fr sz) := met_weak (hX12_isLeapDay l D cA ro sz H0 a d L ha) (fun _ _ h => ⟨h.1, h.2.1, h.2.2.1, h.2.2.2.1⟩)
set_option maxRecDepth 100000 in
set_option maxHeartbeats 4000000 in
theorem hX12_leapZ (l : Launch) (D : va_G) (cA : Nat → ClassId) (ro : Nat → Option Nat) (sz : Nat) (H0 : Heap) (a : Nat) (d : Int64) (L : List Int) (Z : List zE) (ha : ro a = some 11)  : Met l yX12_leap (gW yX12_leap cX12_leap 3 (some .int)) { frames := 2, cells := 0, slots := 0, locals := 47 } (zs_P D cA ro sz H0 (fun H => jRZ D cA ro H a L Z) [.ref a, .long d]) (zz_QR D cA ro sz H0 a vI (spLZ d.toInt L Z)) 0 0 (zy_fr sz) := by
  refine zy_ofW (cc := cX12_leap) (maxL := 3) (ret := (some .int)) (by decide +kernel) rfl ?_
  intro p e s m args below meth c s1 B hml hv
  obtain ⟨rfl, hh, hKn, hJ⟩ := hv
  have hx := B.exec
  have hb := B.bytes
  have hr := B.returns
  have hlk := B.notSynchronized
  have hts0 := atoms_spec (ws := gW yX12_leap cX12_leap 3 (some .int)) B.pre
  have h2 : ∀ w ∈ gT, w.before ([.ref a, .long d] : List Value).toArray s = true := fun w hw => hts0 w (List.mem_cons_of_mem _ hw)
  have hown : s.vm.findClass RX12 = some m.cls := findClass_of_methodNamed B.named
  have hl := lv_entry [.ref a, .long d] (n := 3) (Nat.le_of_ble_eq_true rfl)
  rw [lg_entry_eq]
  generalize (lg_sl [.ref a, .long d] ++ List.replicate (3 - (lg_sl [.ref a, .long d]).length) Slot.unset).toArray = ls at hl ⊢
  have b_d := zn_i64 d
  have hD := zD_all h2 hKn.1
  have hcl11 := fun (idx k : Nat) (t : zt_T) (h : (idx, 11, k) ∈ gfX12) (hk : fsX12[k]? = some t) => zf_clause (ro := ro) (ms := zMr) h2 hown hKn.1 gfX12_ok (by decide +kernel) idx 11 k 11 0 fsX12 t h rfl hk
  have kp0 : zc_kept D RTg ro zMr s.heap s.heap := zc_kept.refl
  obtain ⟨⟨la, n, z, fq2, r0, fq1, hn, hc, hz⟩, ⟨a4, a5, a6, a7, zq4, zq5, zq6, zq7, nz, ⟨fq4, rq4, cq4⟩, ⟨fq5, rq5, cq5⟩, ⟨fq6, rq6, cq6⟩, ⟨fq7, rq7, cq7⟩, fq3, hnz, hp⟩, hjl, hzw⟩ := id hJ
  have hjr := hJ.1
  have hjL := hjl.2.1
  have hzw1 := hzw.1
  obtain ⟨n9, g9, n1, n2⟩ := zh_fT (k := 1) (t := (0, 0, 40)) hh ha (show RTg[11]? = some (0, 11, 0, fsX12) from rfl) rfl
  cases fq1.symm.trans g9
  dsimp only at n1 n2
  clear g9
  obtain ⟨n9, g9, nz1, nz2⟩ := zh_fT (k := 3) (t := (0, 0, 8)) hh ha (show RTg[11]? = some (0, 11, 0, fsX12) from rfl) rfl
  cases fq3.symm.trans g9
  dsimp only at nz1 nz2
  clear g9
  obtain ⟨-, xla, dla, hla⟩ := zh_arr hh r0 (show RTg[21]? = some (1, 1, 40, [(1, (-9223372036854775808), 9223372036854775807)]) from rfl)
  have hyla : ∀ i, i < 40 → zt_ok ro (z i) (1, (-9223372036854775808), 9223372036854775807) := zs_arr (hc.symm.trans dla) hla
  obtain ⟨-, xa4, da4, ha4⟩ := zh_arr hh rq4 (show RTg[22]? = some (1, 0, 8, [(0, (-1439), 1439)]) from rfl)
  have hya4 : ∀ i, i < 8 → zt_ok ro (zq4 i) (0, (-1439), 1439) := zs_arr (cq4.symm.trans da4) ha4
  obtain ⟨-, xa5, da5, ha5⟩ := zh_arr hh rq5 (show RTg[23]? = some (1, 0, 8, [(0, 0, 60)]) from rfl)
  have hya5 : ∀ i, i < 8 → zt_ok ro (zq5 i) (0, 0, 60) := zs_arr (cq5.symm.trans da5) ha5
  obtain ⟨-, xa6, da6, ha6⟩ := zh_arr hh rq6 (show RTg[24]? = some (1, 1, 480, [(1, (-100000000000000), 100000000000000)]) from rfl)
  have hya6 : ∀ i, i < 480 → zt_ok ro (zq6 i) (1, (-100000000000000), 100000000000000) := zs_arr (cq6.symm.trans da6) ha6
  obtain ⟨-, xa7, da7, ha7⟩ := zh_arr hh rq7 (show RTg[25]? = some (1, 0, 480, [(0, (-1439), 1439)]) from rfl)
  have hya7 : ∀ i, i < 480 → zt_ok ro (zq7 i) (0, (-1439), 1439) := zs_arr (cq7.symm.trans da7) ha7
  refine lv_aload_n hx hb (eX12_leap (0, .aload_n 0, 1) (List.mem_of_getElem? (i := 0) rfl)) rfl (lv_at hl 0 rfl) ?_
  refine lv_aload_n hx hb (eX12_leap (1, .aload_n 0, 1) (List.mem_of_getElem? (i := 1) rfl)) rfl (lv_at hl 0 rfl) ?_
  refine lv_lload_n hx hb (eX12_leap (2, .lload_n 1, 1) (List.mem_of_getElem? (i := 2) rfl)) rfl (lv_at hl 1 rfl) ?_
  refine tz_rowV (As := [.long d]) (st := [.ref a]) (b := a) (C := RX12) (Ts := gT) hx hb hml hown h2 (fun _ h => h) (hX12_isDayZ l D cA ro sz H0 a d L Z ha) ⟨rfl, rfl⟩ ⟨by decide, by decide⟩ ⟨by decide, by decide⟩ (tb_7 62 rfl rfl) (tb_1 12 rfl rfl) (tb_7 59 rfl rfl) (tb_7 61 rfl rfl) (tb_0 4 rfl rfl) (show yX12_isDay.cls ≠ "java/lang/invoke/MethodHandle" ∧ yX12_isDay.cls ≠ "java/lang/invoke/VarHandle" ∧ (parseMethodDescriptor yX12_isDay.desc).map (fun d => d.parameters.length) = some 1 by decide +kernel) zs_blind (zs_ob hh ha (show RTg[11]? = some (0, 11, 0, fsX12) from rfl) (zCX12 hKn.1)) (fun U hU hW => ⟨rfl, by rw [hU]; exact hh.l0, zKb s U hW.alike hKn, by rw [hU]; exact hJ⟩) hh.2.2.1 hl.1 (Nat.le_of_ble_eq_true rfl) (eX12_leap (3, .invokevirtual 159, 3) (List.mem_of_getElem? (i := 3) rfl)) (fun r1 s1 t1 lo1 g1 f1 l1 => ?_)
  obtain ⟨z1, v1, q1, e1⟩ := f1
  cases q1
  rw [z1, g1]
  have hh1 : zh_ok D cA RTg ro sz H0 s.heap lo1 := ⟨hh.1, hh.2.1, l1, hh.2.2.2⟩
  refine W.eq (g2 := F0 m 6 ls [.int v1, .ref a]) rfl ?_
  refine ff_if_eq hx hb (eX12_leap (6, .ifCond .eq 11, 3) (List.mem_of_getElem? (i := 4) rfl)) (tgt := 17) rfl (fun c2 => ?_) (fun c2 => ?_)
  · skip
    refine ff_iconst hx hb (eX12_leap (17, .iconst 1, 1) (List.mem_of_getElem? (i := 9) rfl)) (by decide) (by decide) (fun v3 e3 => ?_)
    refine lv_goto hx hb (eX12_leap (18, .goto 17, 3) (List.mem_of_getElem? (i := 10) rfl)) (tgt := 35) rfl ?_
    refine tz_put (r := 11) (k := 0) (t := (0, 0, 2)) hx hb hD hh1 ha rfl rfl ((hcl11 85 0 (0, 0, 2) (by decide) rfl).2 (by decide)) (tz_i (by omega) (by omega)) (eX12_leap (35, .putfield 85, 3) (List.mem_of_getElem? (i := 18) rfl)) (fun H4 lo4 hh4 hf4 hk4 _ hq4 => ?_)
    have mf4_a_2 := (hk4.1 a 11 2 11 0 fsX12 ha rfl (by decide) (by decide)).trans fq2
    have mf4_a_1 := (hk4.1 a 11 1 11 0 fsX12 ha rfl (by decide) (by decide)).trans fq1
    have mf4_a_3 := (hk4.1 a 11 3 11 0 fsX12 ha rfl (by decide) (by decide)).trans fq3
    have mf4_a_4 := (hk4.1 a 11 4 11 0 fsX12 ha rfl (by decide) (by decide)).trans fq4
    have mf4_a_5 := (hk4.1 a 11 5 11 0 fsX12 ha rfl (by decide) (by decide)).trans fq5
    have mf4_a_6 := (hk4.1 a 11 6 11 0 fsX12 ha rfl (by decide) (by decide)).trans fq6
    have mf4_a_7 := (hk4.1 a 11 7 11 0 fsX12 ha rfl (by decide) (by decide)).trans fq7
    have mc4_la := (hk4.2 la 21 0 1 40 _ r0 rfl (by decide)).trans hc
    have mc4_a4 := (hk4.2 a4 22 0 0 8 _ rq4 rfl (by decide)).trans cq4
    have mc4_a5 := (hk4.2 a5 23 0 0 8 _ rq5 rfl (by decide)).trans cq5
    have mc4_a6 := (hk4.2 a6 24 0 1 480 _ rq6 rfl (by decide)).trans cq6
    have mc4_a7 := (hk4.2 a7 25 0 0 480 _ rq7 rfl (by decide)).trans cq7
    have kp4 := kp0.trans (hk4.mono (ms' := zMr) (fun x hx => by cases List.mem_singleton.mp hx; decide))
    refine lv_aload_n hx hb (eX12_leap (38, .aload_n 0, 1) (List.mem_of_getElem? (i := 19) rfl)) rfl (lv_at hl 0 rfl) ?_
    refine tz_get (r := 11) (k := 0) (t := (0, 0, 2)) hx hb hh4 ha rfl rfl (hcl11 85 0 (0, 0, 2) (by decide) rfl).1 hf4 (eX12_leap (39, .getfield 85, 3) (List.mem_of_getElem? (i := 20) rfl)) ?_
    refine ff_if_le hx hb (eX12_leap (42, .ifCond .le 5, 3) (List.mem_of_getElem? (i := 21) rfl)) (tgt := 47) rfl (fun c5 => (by exfalso; omega)) (fun c5 => ?_)
    refine ff_iconst hx hb (eX12_leap (45, .iconst 0, 1) (List.mem_of_getElem? (i := 22) rfl)) (by decide) (by decide) (fun v6 e6 => ?_)
    exact W.zret hx hb hr rfl (fun t ht hW => ⟨_, _, _, L, Z, rfl, ⟨_, rfl, rfl⟩, by rw [ht]; exact hh4.l0, by rw [ht]; exact kp4, by rw [ht]; exact hf4, by rw [ht]; exact ⟨⟨la, _, _, mf4_a_2, r0, mf4_a_1, hn, mc4_la, hz⟩, ⟨a4, a5, a6, a7, _, _, _, _, _, ⟨mf4_a_4, rq4, mc4_a4⟩, ⟨mf4_a_5, rq5, mc4_a5⟩, ⟨mf4_a_6, rq6, mc4_a6⟩, ⟨mf4_a_7, rq7, mc4_a7⟩, mf4_a_3, hnz, hp⟩, hjl, hzw⟩, rfl, Or.inl ⟨by omega, rfl, Or.inl (by unfold dOK; omega)⟩⟩) hh4.2.2.1 (eX12_leap (46, .ireturn, 1) (List.mem_of_getElem? (i := 23) rfl))
  · skip
    refine lv_aload_n hx hb (eX12_leap (9, .aload_n 0, 1) (List.mem_of_getElem? (i := 5) rfl)) rfl (lv_at hl 0 rfl) ?_
    refine lv_lload_n hx hb (eX12_leap (10, .lload_n 1, 1) (List.mem_of_getElem? (i := 6) rfl)) rfl (lv_at hl 1 rfl) ?_
    refine tz_rowV (As := [.long d]) (st := [.ref a]) (b := a) (C := RX12) (Ts := gT) hx hb hml hown h2 (fun _ h => h) (hX12_isLeapDayZ l D cA ro sz H0 a d L Z ha) ⟨rfl, rfl⟩ ⟨by decide, by decide⟩ ⟨by decide, by decide⟩ (tb_7 109 rfl rfl) (tb_1 12 rfl rfl) (tb_7 106 rfl rfl) (tb_7 108 rfl rfl) (tb_0 8 rfl rfl) (show yX12_isLeapDay.cls ≠ "java/lang/invoke/MethodHandle" ∧ yX12_isLeapDay.cls ≠ "java/lang/invoke/VarHandle" ∧ (parseMethodDescriptor yX12_isLeapDay.desc).map (fun d => d.parameters.length) = some 1 by decide +kernel) zs_blind (zs_ob hh1 ha (show RTg[11]? = some (0, 11, 0, fsX12) from rfl) (zCX12 hKn.1)) (fun U hU hW => ⟨rfl, by rw [hU]; exact hh1.l0, zKb s U hW.alike hKn, by rw [hU]; exact hJ⟩) hh1.2.2.1 hl.1 (Nat.le_of_ble_eq_true rfl) (eX12_leap (11, .invokevirtual 187, 3) (List.mem_of_getElem? (i := 7) rfl)) (fun r7 s7 t7 lo7 g7 f7 l7 => ?_)
    obtain ⟨z7, v7, q7, e7⟩ := f7
    cases q7
    rw [z7, g7]
    have hh7 : zh_ok D cA RTg ro sz H0 s.heap lo7 := ⟨hh1.1, hh1.2.1, l7, hh1.2.2.2⟩
    refine W.eq (g2 := F0 m 14 ls [.int v7, .ref a]) rfl ?_
    refine ff_if_eq hx hb (eX12_leap (14, .ifCond .eq 7, 3) (List.mem_of_getElem? (i := 8) rfl)) (tgt := 21) rfl (fun c8 => ?_) (fun c8 => ?_)
    · skip
      refine lv_aload_n hx hb (eX12_leap (21, .aload_n 0, 1) (List.mem_of_getElem? (i := 11) rfl)) rfl (lv_at hl 0 rfl) ?_
      refine tz_get (r := 11) (k := 1) (t := (0, 0, 40)) hx hb hh7 ha rfl rfl (hcl11 173 1 (0, 0, 40) (by decide) rfl).1 fq1 (eX12_leap (22, .getfield 173, 3) (List.mem_of_getElem? (i := 12) rfl)) ?_
      refine ff_bipush hx hb (eX12_leap (25, .bipush 40, 2) (List.mem_of_getElem? (i := 13) rfl)) (by decide) (by decide) (fun v9 e9 => ?_)
      refine ff_icmp_ne hx hb (eX12_leap (27, .if_icmp .ne 7, 3) (List.mem_of_getElem? (i := 14) rfl)) (tgt := 34) rfl (fun c10 => ?_) (fun c10 => ?_)
      · skip
        refine ff_iconst hx hb (eX12_leap (34, .iconst 0, 1) (List.mem_of_getElem? (i := 17) rfl)) (by decide) (by decide) (fun v11 e11 => ?_)
        refine tz_put (r := 11) (k := 0) (t := (0, 0, 2)) hx hb hD hh7 ha rfl rfl ((hcl11 85 0 (0, 0, 2) (by decide) rfl).2 (by decide)) (tz_i (by omega) (by omega)) (eX12_leap (35, .putfield 85, 3) (List.mem_of_getElem? (i := 18) rfl)) (fun H12 lo12 hh12 hf12 hk12 _ hq12 => ?_)
        have mf12_a_2 := (hk12.1 a 11 2 11 0 fsX12 ha rfl (by decide) (by decide)).trans fq2
        have mf12_a_1 := (hk12.1 a 11 1 11 0 fsX12 ha rfl (by decide) (by decide)).trans fq1
        have mf12_a_3 := (hk12.1 a 11 3 11 0 fsX12 ha rfl (by decide) (by decide)).trans fq3
        have mf12_a_4 := (hk12.1 a 11 4 11 0 fsX12 ha rfl (by decide) (by decide)).trans fq4
        have mf12_a_5 := (hk12.1 a 11 5 11 0 fsX12 ha rfl (by decide) (by decide)).trans fq5
        have mf12_a_6 := (hk12.1 a 11 6 11 0 fsX12 ha rfl (by decide) (by decide)).trans fq6
        have mf12_a_7 := (hk12.1 a 11 7 11 0 fsX12 ha rfl (by decide) (by decide)).trans fq7
        have mc12_la := (hk12.2 la 21 0 1 40 _ r0 rfl (by decide)).trans hc
        have mc12_a4 := (hk12.2 a4 22 0 0 8 _ rq4 rfl (by decide)).trans cq4
        have mc12_a5 := (hk12.2 a5 23 0 0 8 _ rq5 rfl (by decide)).trans cq5
        have mc12_a6 := (hk12.2 a6 24 0 1 480 _ rq6 rfl (by decide)).trans cq6
        have mc12_a7 := (hk12.2 a7 25 0 0 480 _ rq7 rfl (by decide)).trans cq7
        have kp12 := kp0.trans (hk12.mono (ms' := zMr) (fun x hx => by cases List.mem_singleton.mp hx; decide))
        refine lv_aload_n hx hb (eX12_leap (38, .aload_n 0, 1) (List.mem_of_getElem? (i := 19) rfl)) rfl (lv_at hl 0 rfl) ?_
        refine tz_get (r := 11) (k := 0) (t := (0, 0, 2)) hx hb hh12 ha rfl rfl (hcl11 85 0 (0, 0, 2) (by decide) rfl).1 hf12 (eX12_leap (39, .getfield 85, 3) (List.mem_of_getElem? (i := 20) rfl)) ?_
        refine ff_if_le hx hb (eX12_leap (42, .ifCond .le 5, 3) (List.mem_of_getElem? (i := 21) rfl)) (tgt := 47) rfl (fun c13 => ?_) (fun c13 => (by exfalso; omega))
        refine lv_aload_n hx hb (eX12_leap (47, .aload_n 0, 1) (List.mem_of_getElem? (i := 24) rfl)) rfl (lv_at hl 0 rfl) ?_
        refine tz_get (r := 11) (k := 2) (t := (46, 0, 0)) hx hb hh12 ha rfl rfl (hcl11 9 2 (46, 0, 0) (by decide) rfl).1 mf12_a_2 (eX12_leap (48, .getfield 9, 3) (List.mem_of_getElem? (i := 25) rfl)) ?_
        refine lv_aload_n hx hb (eX12_leap (51, .aload_n 0, 1) (List.mem_of_getElem? (i := 26) rfl)) rfl (lv_at hl 0 rfl) ?_
        refine tz_get (r := 11) (k := 1) (t := (0, 0, 40)) hx hb hh12 ha rfl rfl (hcl11 173 1 (0, 0, 40) (by decide) rfl).1 mf12_a_1 (eX12_leap (52, .getfield 173, 3) (List.mem_of_getElem? (i := 27) rfl)) ?_
        refine lv_lload_n hx hb (eX12_leap (55, .lload_n 1, 1) (List.mem_of_getElem? (i := 28) rfl)) rfl (lv_at hl 1 rfl) ?_
        have hzz := jN_app (d := d) hz
        rw [← show n.toNatClampNeg = L.length by show n.toInt.toNat = L.length; omega] at hzz
        have hjl9 : jL (L ++ [d.toInt]) := jL_app hjl (by rcases e7 with g | g; exfalso; omega; exact g.2) (by omega) (by unfold dOK; omega)
        refine tz_last hx hb (zAr hKn.1 1 (by decide)) hh12 r0 (show RTg[21]? = some (1, 1, 40, [(1, (-9223372036854775808), 9223372036854775807)]) from rfl) mc12_la hyla (by omega) (by omega) (tz_l (zn_i64 _).1 (zn_i64 _).2) (eX12_leap (56, .lastore, 1) (List.mem_of_getElem? (i := 29) rfl)) (fun H14 lo14 hh14 hc14 hk14 hq14 _ => ?_)
        have mf14_a_2 := (hk14.1 a 11 2 11 0 fsX12 ha rfl (by decide) (by decide)).trans mf12_a_2
        have mf14_a_1 := (hk14.1 a 11 1 11 0 fsX12 ha rfl (by decide) (by decide)).trans mf12_a_1
        have mf14_a_3 := (hk14.1 a 11 3 11 0 fsX12 ha rfl (by decide) (by decide)).trans mf12_a_3
        have mf14_a_4 := (hk14.1 a 11 4 11 0 fsX12 ha rfl (by decide) (by decide)).trans mf12_a_4
        have mf14_a_5 := (hk14.1 a 11 5 11 0 fsX12 ha rfl (by decide) (by decide)).trans mf12_a_5
        have mf14_a_6 := (hk14.1 a 11 6 11 0 fsX12 ha rfl (by decide) (by decide)).trans mf12_a_6
        have mf14_a_7 := (hk14.1 a 11 7 11 0 fsX12 ha rfl (by decide) (by decide)).trans mf12_a_7
        have mf14_a_0 := (hk14.1 a 11 0 11 0 fsX12 ha rfl (by decide) (by decide)).trans hf12
        have mc14_a4 := (hk14.2 a4 22 0 0 8 _ rq4 rfl (by decide)).trans mc12_a4
        have mc14_a5 := (hk14.2 a5 23 0 0 8 _ rq5 rfl (by decide)).trans mc12_a5
        have mc14_a6 := (hk14.2 a6 24 0 1 480 _ rq6 rfl (by decide)).trans mc12_a6
        have mc14_a7 := (hk14.2 a7 25 0 0 480 _ rq7 rfl (by decide)).trans mc12_a7
        have kp14 := kp12.trans (hk14.mono (ms' := zMr) (fun x hx => by cases List.mem_singleton.mp hx; decide))
        refine lv_aload_n hx hb (eX12_leap (57, .aload_n 0, 1) (List.mem_of_getElem? (i := 30) rfl)) rfl (lv_at hl 0 rfl) ?_
        refine lv_dup hx hb (eX12_leap (58, .dup, 1) (List.mem_of_getElem? (i := 31) rfl)) rfl ?_
        refine tz_get (r := 11) (k := 1) (t := (0, 0, 40)) hx hb hh14 ha rfl rfl (hcl11 173 1 (0, 0, 40) (by decide) rfl).1 mf14_a_1 (eX12_leap (59, .getfield 173, 3) (List.mem_of_getElem? (i := 32) rfl)) ?_
        refine ff_iconst hx hb (eX12_leap (62, .iconst 1, 1) (List.mem_of_getElem? (i := 33) rfl)) (by decide) (by decide) (fun v15 e15 => ?_)
        refine ff_iadd hx hb (eX12_leap (63, .iadd, 1) (List.mem_of_getElem? (i := 34) rfl)) (by omega) (by omega) (fun v16 e16 => ?_)
        refine tz_put (r := 11) (k := 1) (t := (0, 0, 40)) hx hb hD hh14 ha rfl rfl ((hcl11 173 1 (0, 0, 40) (by decide) rfl).2 (by decide)) (tz_i (by omega) (by omega)) (eX12_leap (64, .putfield 173, 3) (List.mem_of_getElem? (i := 35) rfl)) (fun H17 lo17 hh17 hf17 hk17 _ hq17 => ?_)
        have mf17_a_2 := (hk17.1 a 11 2 11 0 fsX12 ha rfl (by decide) (by decide)).trans mf14_a_2
        have mf17_a_3 := (hk17.1 a 11 3 11 0 fsX12 ha rfl (by decide) (by decide)).trans mf14_a_3
        have mf17_a_4 := (hk17.1 a 11 4 11 0 fsX12 ha rfl (by decide) (by decide)).trans mf14_a_4
        have mf17_a_5 := (hk17.1 a 11 5 11 0 fsX12 ha rfl (by decide) (by decide)).trans mf14_a_5
        have mf17_a_6 := (hk17.1 a 11 6 11 0 fsX12 ha rfl (by decide) (by decide)).trans mf14_a_6
        have mf17_a_7 := (hk17.1 a 11 7 11 0 fsX12 ha rfl (by decide) (by decide)).trans mf14_a_7
        have mf17_a_0 := (hk17.1 a 11 0 11 0 fsX12 ha rfl (by decide) (by decide)).trans mf14_a_0
        have mc17_a4 := (hk17.2 a4 22 0 0 8 _ rq4 rfl (by decide)).trans mc14_a4
        have mc17_a5 := (hk17.2 a5 23 0 0 8 _ rq5 rfl (by decide)).trans mc14_a5
        have mc17_a6 := (hk17.2 a6 24 0 1 480 _ rq6 rfl (by decide)).trans mc14_a6
        have mc17_a7 := (hk17.2 a7 25 0 0 480 _ rq7 rfl (by decide)).trans mc14_a7
        have mc17_la := (hk17.2 la 21 0 1 40 _ r0 rfl (by decide)).trans hc14
        have kp17 := kp14.trans (hk17.mono (ms' := zMr) (fun x hx => by cases List.mem_singleton.mp hx; decide))
        refine lv_aload_n hx hb (eX12_leap (67, .aload_n 0, 1) (List.mem_of_getElem? (i := 36) rfl)) rfl (lv_at hl 0 rfl) ?_
        refine tz_get (r := 11) (k := 1) (t := (0, 0, 40)) hx hb hh17 ha rfl rfl (hcl11 173 1 (0, 0, 40) (by decide) rfl).1 hf17 (eX12_leap (68, .getfield 173, 3) (List.mem_of_getElem? (i := 37) rfl)) ?_
        exact W.zret hx hb hr rfl (fun t ht hW => ⟨_, _, _, L ++ [d.toInt], Z, rfl, ⟨_, rfl, rfl⟩, by rw [ht]; exact hh17.l0, by rw [ht]; exact kp17, by rw [ht]; exact mf17_a_0, by rw [ht]; exact ⟨⟨la, _, _, mf17_a_2, r0, hf17, (by rw [List.length_append]; show _ = ((L.length + 1 : Nat) : Int); omega), mc17_la, hzz⟩, ⟨a4, a5, a6, a7, _, _, _, _, _, ⟨mf17_a_4, rq4, mc17_a4⟩, ⟨mf17_a_5, rq5, mc17_a5⟩, ⟨mf17_a_6, rq6, mc17_a6⟩, ⟨mf17_a_7, rq7, mc17_a7⟩, mf17_a_3, hnz, hp⟩, hjl9, hzw⟩, rfl, Or.inr (Or.inr ⟨by omega, by unfold dOK; omega, by rcases e7 with g | g; exfalso; omega; exact g.2, by omega, by omega, rfl⟩)⟩) hh17.2.2.1 (eX12_leap (71, .ireturn, 1) (List.mem_of_getElem? (i := 38) rfl))
      · skip
        refine ff_iconst hx hb (eX12_leap (30, .iconst 2, 1) (List.mem_of_getElem? (i := 15) rfl)) (by decide) (by decide) (fun v18 e18 => ?_)
        refine lv_goto hx hb (eX12_leap (31, .goto 4, 3) (List.mem_of_getElem? (i := 16) rfl)) (tgt := 35) rfl ?_
        refine tz_put (r := 11) (k := 0) (t := (0, 0, 2)) hx hb hD hh7 ha rfl rfl ((hcl11 85 0 (0, 0, 2) (by decide) rfl).2 (by decide)) (tz_i (by omega) (by omega)) (eX12_leap (35, .putfield 85, 3) (List.mem_of_getElem? (i := 18) rfl)) (fun H19 lo19 hh19 hf19 hk19 _ hq19 => ?_)
        have mf19_a_2 := (hk19.1 a 11 2 11 0 fsX12 ha rfl (by decide) (by decide)).trans fq2
        have mf19_a_1 := (hk19.1 a 11 1 11 0 fsX12 ha rfl (by decide) (by decide)).trans fq1
        have mf19_a_3 := (hk19.1 a 11 3 11 0 fsX12 ha rfl (by decide) (by decide)).trans fq3
        have mf19_a_4 := (hk19.1 a 11 4 11 0 fsX12 ha rfl (by decide) (by decide)).trans fq4
        have mf19_a_5 := (hk19.1 a 11 5 11 0 fsX12 ha rfl (by decide) (by decide)).trans fq5
        have mf19_a_6 := (hk19.1 a 11 6 11 0 fsX12 ha rfl (by decide) (by decide)).trans fq6
        have mf19_a_7 := (hk19.1 a 11 7 11 0 fsX12 ha rfl (by decide) (by decide)).trans fq7
        have mc19_la := (hk19.2 la 21 0 1 40 _ r0 rfl (by decide)).trans hc
        have mc19_a4 := (hk19.2 a4 22 0 0 8 _ rq4 rfl (by decide)).trans cq4
        have mc19_a5 := (hk19.2 a5 23 0 0 8 _ rq5 rfl (by decide)).trans cq5
        have mc19_a6 := (hk19.2 a6 24 0 1 480 _ rq6 rfl (by decide)).trans cq6
        have mc19_a7 := (hk19.2 a7 25 0 0 480 _ rq7 rfl (by decide)).trans cq7
        have kp19 := kp0.trans (hk19.mono (ms' := zMr) (fun x hx => by cases List.mem_singleton.mp hx; decide))
        refine lv_aload_n hx hb (eX12_leap (38, .aload_n 0, 1) (List.mem_of_getElem? (i := 19) rfl)) rfl (lv_at hl 0 rfl) ?_
        refine tz_get (r := 11) (k := 0) (t := (0, 0, 2)) hx hb hh19 ha rfl rfl (hcl11 85 0 (0, 0, 2) (by decide) rfl).1 hf19 (eX12_leap (39, .getfield 85, 3) (List.mem_of_getElem? (i := 20) rfl)) ?_
        refine ff_if_le hx hb (eX12_leap (42, .ifCond .le 5, 3) (List.mem_of_getElem? (i := 21) rfl)) (tgt := 47) rfl (fun c20 => (by exfalso; omega)) (fun c20 => ?_)
        refine ff_iconst hx hb (eX12_leap (45, .iconst 0, 1) (List.mem_of_getElem? (i := 22) rfl)) (by decide) (by decide) (fun v21 e21 => ?_)
        exact W.zret hx hb hr rfl (fun t ht hW => ⟨_, _, _, L, Z, rfl, ⟨_, rfl, rfl⟩, by rw [ht]; exact hh19.l0, by rw [ht]; exact kp19, by rw [ht]; exact hf19, by rw [ht]; exact ⟨⟨la, _, _, mf19_a_2, r0, mf19_a_1, hn, mc19_la, hz⟩, ⟨a4, a5, a6, a7, _, _, _, _, _, ⟨mf19_a_4, rq4, mc19_a4⟩, ⟨mf19_a_5, rq5, mc19_a5⟩, ⟨mf19_a_6, rq6, mc19_a6⟩, ⟨mf19_a_7, rq7, mc19_a7⟩, mf19_a_3, hnz, hp⟩, hjl, hzw⟩, rfl, Or.inr (Or.inl ⟨by omega, rfl, by unfold dOK; omega, by rcases e7 with g | g; exfalso; omega; exact g.2, by omega⟩)⟩) hh19.2.2.1 (eX12_leap (46, .ireturn, 1) (List.mem_of_getElem? (i := 23) rfl))
    · skip
      refine ff_iconst hx hb (eX12_leap (17, .iconst 1, 1) (List.mem_of_getElem? (i := 9) rfl)) (by decide) (by decide) (fun v22 e22 => ?_)
      refine lv_goto hx hb (eX12_leap (18, .goto 17, 3) (List.mem_of_getElem? (i := 10) rfl)) (tgt := 35) rfl ?_
      refine tz_put (r := 11) (k := 0) (t := (0, 0, 2)) hx hb hD hh7 ha rfl rfl ((hcl11 85 0 (0, 0, 2) (by decide) rfl).2 (by decide)) (tz_i (by omega) (by omega)) (eX12_leap (35, .putfield 85, 3) (List.mem_of_getElem? (i := 18) rfl)) (fun H23 lo23 hh23 hf23 hk23 _ hq23 => ?_)
      have mf23_a_2 := (hk23.1 a 11 2 11 0 fsX12 ha rfl (by decide) (by decide)).trans fq2
      have mf23_a_1 := (hk23.1 a 11 1 11 0 fsX12 ha rfl (by decide) (by decide)).trans fq1
      have mf23_a_3 := (hk23.1 a 11 3 11 0 fsX12 ha rfl (by decide) (by decide)).trans fq3
      have mf23_a_4 := (hk23.1 a 11 4 11 0 fsX12 ha rfl (by decide) (by decide)).trans fq4
      have mf23_a_5 := (hk23.1 a 11 5 11 0 fsX12 ha rfl (by decide) (by decide)).trans fq5
      have mf23_a_6 := (hk23.1 a 11 6 11 0 fsX12 ha rfl (by decide) (by decide)).trans fq6
      have mf23_a_7 := (hk23.1 a 11 7 11 0 fsX12 ha rfl (by decide) (by decide)).trans fq7
      have mc23_la := (hk23.2 la 21 0 1 40 _ r0 rfl (by decide)).trans hc
      have mc23_a4 := (hk23.2 a4 22 0 0 8 _ rq4 rfl (by decide)).trans cq4
      have mc23_a5 := (hk23.2 a5 23 0 0 8 _ rq5 rfl (by decide)).trans cq5
      have mc23_a6 := (hk23.2 a6 24 0 1 480 _ rq6 rfl (by decide)).trans cq6
      have mc23_a7 := (hk23.2 a7 25 0 0 480 _ rq7 rfl (by decide)).trans cq7
      have kp23 := kp0.trans (hk23.mono (ms' := zMr) (fun x hx => by cases List.mem_singleton.mp hx; decide))
      refine lv_aload_n hx hb (eX12_leap (38, .aload_n 0, 1) (List.mem_of_getElem? (i := 19) rfl)) rfl (lv_at hl 0 rfl) ?_
      refine tz_get (r := 11) (k := 0) (t := (0, 0, 2)) hx hb hh23 ha rfl rfl (hcl11 85 0 (0, 0, 2) (by decide) rfl).1 hf23 (eX12_leap (39, .getfield 85, 3) (List.mem_of_getElem? (i := 20) rfl)) ?_
      refine ff_if_le hx hb (eX12_leap (42, .ifCond .le 5, 3) (List.mem_of_getElem? (i := 21) rfl)) (tgt := 47) rfl (fun c24 => (by exfalso; omega)) (fun c24 => ?_)
      refine ff_iconst hx hb (eX12_leap (45, .iconst 0, 1) (List.mem_of_getElem? (i := 22) rfl)) (by decide) (by decide) (fun v25 e25 => ?_)
      exact W.zret hx hb hr rfl (fun t ht hW => ⟨_, _, _, L, Z, rfl, ⟨_, rfl, rfl⟩, by rw [ht]; exact hh23.l0, by rw [ht]; exact kp23, by rw [ht]; exact hf23, by rw [ht]; exact ⟨⟨la, _, _, mf23_a_2, r0, mf23_a_1, hn, mc23_la, hz⟩, ⟨a4, a5, a6, a7, _, _, _, _, _, ⟨mf23_a_4, rq4, mc23_a4⟩, ⟨mf23_a_5, rq5, mc23_a5⟩, ⟨mf23_a_6, rq6, mc23_a6⟩, ⟨mf23_a_7, rq7, mc23_a7⟩, mf23_a_3, hnz, hp⟩, hjl, hzw⟩, rfl, Or.inl ⟨by omega, rfl, Or.inr (by rcases e7 with g | g; exact g.2; exfalso; omega)⟩⟩) hh23.2.2.1 (eX12_leap (46, .ireturn, 1) (List.mem_of_getElem? (i := 23) rfl))
set_option maxRecDepth 100000 in
set_option maxHeartbeats 4000000 in
theorem hX12_zoneZ (l : Launch) (D : va_G) (cA : Nat → ClassId) (ro : Nat → Option Nat) (sz : Nat) (H0 : Heap) (a : Nat) (o : Int32) (L : List Int) (Z : List zE) (ha : ro a = some 11)  : Met l yX12_zone (gW yX12_zone cX12_zone 2 (some .int)) { frames := 2, cells := 0, slots := 0, locals := 46 } (zs_P D cA ro sz H0 (fun H => jRZ D cA ro H a L Z) [.ref a, .int o]) (zz_QR D cA ro sz H0 a vI (spZZ o.toInt L Z)) 0 0 (zy_fr sz) := by
  refine zy_ofW (cc := cX12_zone) (maxL := 2) (ret := (some .int)) (by decide +kernel) rfl ?_
  intro p e s m args below meth c s1 B hml hv
  obtain ⟨rfl, hh, hKn, hJ⟩ := hv
  have hx := B.exec
  have hb := B.bytes
  have hr := B.returns
  have hlk := B.notSynchronized
  have hts0 := atoms_spec (ws := gW yX12_zone cX12_zone 2 (some .int)) B.pre
  have h2 : ∀ w ∈ gT, w.before ([.ref a, .int o] : List Value).toArray s = true := fun w hw => hts0 w (List.mem_cons_of_mem _ hw)
  have hown : s.vm.findClass RX12 = some m.cls := findClass_of_methodNamed B.named
  have hl := lv_entry [.ref a, .int o] (n := 2) (Nat.le_of_ble_eq_true rfl)
  rw [lg_entry_eq]
  generalize (lg_sl [.ref a, .int o] ++ List.replicate (2 - (lg_sl [.ref a, .int o]).length) Slot.unset).toArray = ls at hl ⊢
  have b_o := zn_i32 o
  have hD := zD_all h2 hKn.1
  have hcl11 := fun (idx k : Nat) (t : zt_T) (h : (idx, 11, k) ∈ gfX12) (hk : fsX12[k]? = some t) => zf_clause (ro := ro) (ms := zMr) h2 hown hKn.1 gfX12_ok (by decide +kernel) idx 11 k 11 0 fsX12 t h rfl hk
  have kp0 : zc_kept D RTg ro zMr s.heap s.heap := zc_kept.refl
  obtain ⟨⟨la, n, z, fq2, r0, fq1, hn, hc, hz⟩, ⟨a4, a5, a6, a7, zq4, zq5, zq6, zq7, nz, ⟨fq4, rq4, cq4⟩, ⟨fq5, rq5, cq5⟩, ⟨fq6, rq6, cq6⟩, ⟨fq7, rq7, cq7⟩, fq3, hnz, hp⟩, hjl, hzw⟩ := id hJ
  have hjr := hJ.1
  have hjL := hjl.2.1
  have hzw1 := hzw.1
  obtain ⟨n9, g9, n1, n2⟩ := zh_fT (k := 1) (t := (0, 0, 40)) hh ha (show RTg[11]? = some (0, 11, 0, fsX12) from rfl) rfl
  cases fq1.symm.trans g9
  dsimp only at n1 n2
  clear g9
  obtain ⟨n9, g9, nz1, nz2⟩ := zh_fT (k := 3) (t := (0, 0, 8)) hh ha (show RTg[11]? = some (0, 11, 0, fsX12) from rfl) rfl
  cases fq3.symm.trans g9
  dsimp only at nz1 nz2
  clear g9
  obtain ⟨-, xla, dla, hla⟩ := zh_arr hh r0 (show RTg[21]? = some (1, 1, 40, [(1, (-9223372036854775808), 9223372036854775807)]) from rfl)
  have hyla : ∀ i, i < 40 → zt_ok ro (z i) (1, (-9223372036854775808), 9223372036854775807) := zs_arr (hc.symm.trans dla) hla
  obtain ⟨-, xa4, da4, ha4⟩ := zh_arr hh rq4 (show RTg[22]? = some (1, 0, 8, [(0, (-1439), 1439)]) from rfl)
  have hya4 : ∀ i, i < 8 → zt_ok ro (zq4 i) (0, (-1439), 1439) := zs_arr (cq4.symm.trans da4) ha4
  obtain ⟨-, xa5, da5, ha5⟩ := zh_arr hh rq5 (show RTg[23]? = some (1, 0, 8, [(0, 0, 60)]) from rfl)
  have hya5 : ∀ i, i < 8 → zt_ok ro (zq5 i) (0, 0, 60) := zs_arr (cq5.symm.trans da5) ha5
  obtain ⟨-, xa6, da6, ha6⟩ := zh_arr hh rq6 (show RTg[24]? = some (1, 1, 480, [(1, (-100000000000000), 100000000000000)]) from rfl)
  have hya6 : ∀ i, i < 480 → zt_ok ro (zq6 i) (1, (-100000000000000), 100000000000000) := zs_arr (cq6.symm.trans da6) ha6
  obtain ⟨-, xa7, da7, ha7⟩ := zh_arr hh rq7 (show RTg[25]? = some (1, 0, 480, [(0, (-1439), 1439)]) from rfl)
  have hya7 : ∀ i, i < 480 → zt_ok ro (zq7 i) (0, (-1439), 1439) := zs_arr (cq7.symm.trans da7) ha7
  refine lv_aload_n hx hb (eX12_zone (0, .aload_n 0, 1) (List.mem_of_getElem? (i := 0) rfl)) rfl (lv_at hl 0 rfl) ?_
  refine lv_iload_n hx hb (eX12_zone (1, .iload_n 1, 1) (List.mem_of_getElem? (i := 1) rfl)) rfl (lv_at hl 1 rfl) ?_
  refine ff_i2l hx hb (eX12_zone (2, .i2l, 1) (List.mem_of_getElem? (i := 2) rfl)) (fun v1 e1 => ?_)
  refine zu_S (vs := [.long v1]) (rest := [.ref a]) hx hb hml hown hts0 zu_BT (hX12_isOffset l v1) ⟨rfl, rfl⟩ ⟨by decide, by decide⟩ ⟨by decide, by decide⟩ (tb_7 153 rfl rfl) (tb_1 12 rfl rfl) (tb_7 151 rfl rfl) (tb_7 152 rfl rfl) (show yX12_isOffset.cls ≠ "java/lang/invoke/MethodHandle" ∧ yX12_isOffset.cls ≠ "java/lang/invoke/VarHandle" ∧ (parseMethodDescriptor yX12_isOffset.desc).map (fun d => d.parameters.length) = some 1 by decide +kernel) rfl (fun _ _ _ => trivial) hl.1 (Nat.le_of_ble_eq_true rfl) (eX12_zone (3, .invokestatic 218, 3) (List.mem_of_getElem? (i := 3) rfl)) (fun w2 f2 => ?_)
  obtain ⟨v2, rfl, e2⟩ := f2
  refine ff_if_ne hx hb (eX12_zone (6, .ifCond .ne 7, 3) (List.mem_of_getElem? (i := 4) rfl)) (tgt := 13) rfl (fun c3 => ?_) (fun c3 => ?_)
  · skip
    refine lv_aload_n hx hb (eX12_zone (13, .aload_n 0, 1) (List.mem_of_getElem? (i := 7) rfl)) rfl (lv_at hl 0 rfl) ?_
    refine tz_get (r := 11) (k := 3) (t := (0, 0, 8)) hx hb hh ha rfl rfl (hcl11 215 3 (0, 0, 8) (by decide) rfl).1 fq3 (eX12_zone (14, .getfield 215, 3) (List.mem_of_getElem? (i := 8) rfl)) ?_
    refine ff_bipush hx hb (eX12_zone (17, .bipush 8, 2) (List.mem_of_getElem? (i := 9) rfl)) (by decide) (by decide) (fun v4 e4 => ?_)
    refine ff_icmp_ne hx hb (eX12_zone (19, .if_icmp .ne 7, 3) (List.mem_of_getElem? (i := 10) rfl)) (tgt := 26) rfl (fun c5 => ?_) (fun c5 => ?_)
    · skip
      refine ff_iconst hx hb (eX12_zone (26, .iconst 0, 1) (List.mem_of_getElem? (i := 13) rfl)) (by decide) (by decide) (fun v6 e6 => ?_)
      refine tz_put (r := 11) (k := 0) (t := (0, 0, 2)) hx hb hD hh ha rfl rfl ((hcl11 85 0 (0, 0, 2) (by decide) rfl).2 (by decide)) (tz_i (by omega) (by omega)) (eX12_zone (27, .putfield 85, 3) (List.mem_of_getElem? (i := 14) rfl)) (fun H7 lo7 hh7 hf7 hk7 _ hq7 => ?_)
      have mf7_a_2 := (hk7.1 a 11 2 11 0 fsX12 ha rfl (by decide) (by decide)).trans fq2
      have mf7_a_1 := (hk7.1 a 11 1 11 0 fsX12 ha rfl (by decide) (by decide)).trans fq1
      have mf7_a_3 := (hk7.1 a 11 3 11 0 fsX12 ha rfl (by decide) (by decide)).trans fq3
      have mf7_a_4 := (hk7.1 a 11 4 11 0 fsX12 ha rfl (by decide) (by decide)).trans fq4
      have mf7_a_5 := (hk7.1 a 11 5 11 0 fsX12 ha rfl (by decide) (by decide)).trans fq5
      have mf7_a_6 := (hk7.1 a 11 6 11 0 fsX12 ha rfl (by decide) (by decide)).trans fq6
      have mf7_a_7 := (hk7.1 a 11 7 11 0 fsX12 ha rfl (by decide) (by decide)).trans fq7
      have mc7_la := (hk7.2 la 21 0 1 40 _ r0 rfl (by decide)).trans hc
      have mc7_a4 := (hk7.2 a4 22 0 0 8 _ rq4 rfl (by decide)).trans cq4
      have mc7_a5 := (hk7.2 a5 23 0 0 8 _ rq5 rfl (by decide)).trans cq5
      have mc7_a6 := (hk7.2 a6 24 0 1 480 _ rq6 rfl (by decide)).trans cq6
      have mc7_a7 := (hk7.2 a7 25 0 0 480 _ rq7 rfl (by decide)).trans cq7
      have kp7 := kp0.trans (hk7.mono (ms' := zMr) (fun x hx => by cases List.mem_singleton.mp hx; decide))
      refine lv_aload_n hx hb (eX12_zone (30, .aload_n 0, 1) (List.mem_of_getElem? (i := 15) rfl)) rfl (lv_at hl 0 rfl) ?_
      refine tz_get (r := 11) (k := 0) (t := (0, 0, 2)) hx hb hh7 ha rfl rfl (hcl11 85 0 (0, 0, 2) (by decide) rfl).1 hf7 (eX12_zone (31, .getfield 85, 3) (List.mem_of_getElem? (i := 16) rfl)) ?_
      refine ff_if_le hx hb (eX12_zone (34, .ifCond .le 5, 3) (List.mem_of_getElem? (i := 17) rfl)) (tgt := 39) rfl (fun c8 => ?_) (fun c8 => (by exfalso; omega))
      refine lv_aload_n hx hb (eX12_zone (39, .aload_n 0, 1) (List.mem_of_getElem? (i := 20) rfl)) rfl (lv_at hl 0 rfl) ?_
      refine tz_get (r := 11) (k := 4) (t := (48, 0, 0)) hx hb hh7 ha rfl rfl (hcl11 15 4 (48, 0, 0) (by decide) rfl).1 mf7_a_4 (eX12_zone (40, .getfield 15, 3) (List.mem_of_getElem? (i := 21) rfl)) ?_
      refine lv_aload_n hx hb (eX12_zone (43, .aload_n 0, 1) (List.mem_of_getElem? (i := 22) rfl)) rfl (lv_at hl 0 rfl) ?_
      refine tz_get (r := 11) (k := 3) (t := (0, 0, 8)) hx hb hh7 ha rfl rfl (hcl11 215 3 (0, 0, 8) (by decide) rfl).1 mf7_a_3 (eX12_zone (44, .getfield 215, 3) (List.mem_of_getElem? (i := 23) rfl)) ?_
      refine lv_iload_n hx hb (eX12_zone (47, .iload_n 1, 1) (List.mem_of_getElem? (i := 24) rfl)) rfl (lv_at hl 1 rfl) ?_
      refine tz_iast hx hb (zAr hKn.1 0 (by decide)) hh7 rq4 (show RTg[22]? = some (1, 0, 8, [(0, (-1439), 1439)]) from rfl) mc7_a4 hya4 (by omega) (by omega) (tz_i (by omega) (by omega)) (eX12_zone (48, .iastore, 1) (List.mem_of_getElem? (i := 25) rfl)) (fun H9 lo9 hh9 hc9 hk9 hq9 _ => ?_)
      have mf9_a_2 := (hk9.1 a 11 2 11 0 fsX12 ha rfl (by decide) (by decide)).trans mf7_a_2
      have mf9_a_1 := (hk9.1 a 11 1 11 0 fsX12 ha rfl (by decide) (by decide)).trans mf7_a_1
      have mf9_a_3 := (hk9.1 a 11 3 11 0 fsX12 ha rfl (by decide) (by decide)).trans mf7_a_3
      have mf9_a_4 := (hk9.1 a 11 4 11 0 fsX12 ha rfl (by decide) (by decide)).trans mf7_a_4
      have mf9_a_5 := (hk9.1 a 11 5 11 0 fsX12 ha rfl (by decide) (by decide)).trans mf7_a_5
      have mf9_a_6 := (hk9.1 a 11 6 11 0 fsX12 ha rfl (by decide) (by decide)).trans mf7_a_6
      have mf9_a_7 := (hk9.1 a 11 7 11 0 fsX12 ha rfl (by decide) (by decide)).trans mf7_a_7
      have mf9_a_0 := (hk9.1 a 11 0 11 0 fsX12 ha rfl (by decide) (by decide)).trans hf7
      have mc9_la := (hk9.2 la 21 0 1 40 _ r0 rfl (by decide)).trans mc7_la
      have mc9_a5 := (hk9.2 a5 23 0 0 8 _ rq5 rfl (by decide)).trans mc7_a5
      have mc9_a6 := (hk9.2 a6 24 0 1 480 _ rq6 rfl (by decide)).trans mc7_a6
      have mc9_a7 := (hk9.2 a7 25 0 0 480 _ rq7 rfl (by decide)).trans mc7_a7
      have kp9 := kp7.trans (hk9.mono (ms' := zMr) (fun x hx => by cases List.mem_singleton.mp hx; decide))
      refine lv_aload_n hx hb (eX12_zone (49, .aload_n 0, 1) (List.mem_of_getElem? (i := 26) rfl)) rfl (lv_at hl 0 rfl) ?_
      refine tz_get (r := 11) (k := 5) (t := (50, 0, 0)) hx hb hh9 ha rfl rfl (hcl11 19 5 (50, 0, 0) (by decide) rfl).1 mf9_a_5 (eX12_zone (50, .getfield 19, 3) (List.mem_of_getElem? (i := 27) rfl)) ?_
      refine lv_aload_n hx hb (eX12_zone (53, .aload_n 0, 1) (List.mem_of_getElem? (i := 28) rfl)) rfl (lv_at hl 0 rfl) ?_
      refine tz_get (r := 11) (k := 3) (t := (0, 0, 8)) hx hb hh9 ha rfl rfl (hcl11 215 3 (0, 0, 8) (by decide) rfl).1 mf9_a_3 (eX12_zone (54, .getfield 215, 3) (List.mem_of_getElem? (i := 29) rfl)) ?_
      refine ff_iconst hx hb (eX12_zone (57, .iconst 0, 1) (List.mem_of_getElem? (i := 30) rfl)) (by decide) (by decide) (fun v10 e10 => ?_)
      refine tz_iast hx hb (zAr hKn.1 0 (by decide)) hh9 rq5 (show RTg[23]? = some (1, 0, 8, [(0, 0, 60)]) from rfl) mc9_a5 hya5 (by omega) (by omega) (tz_i (by omega) (by omega)) (eX12_zone (58, .iastore, 1) (List.mem_of_getElem? (i := 31) rfl)) (fun H11 lo11 hh11 hc11 hk11 hq11 _ => ?_)
      have mf11_a_2 := (hk11.1 a 11 2 11 0 fsX12 ha rfl (by decide) (by decide)).trans mf9_a_2
      have mf11_a_1 := (hk11.1 a 11 1 11 0 fsX12 ha rfl (by decide) (by decide)).trans mf9_a_1
      have mf11_a_3 := (hk11.1 a 11 3 11 0 fsX12 ha rfl (by decide) (by decide)).trans mf9_a_3
      have mf11_a_4 := (hk11.1 a 11 4 11 0 fsX12 ha rfl (by decide) (by decide)).trans mf9_a_4
      have mf11_a_5 := (hk11.1 a 11 5 11 0 fsX12 ha rfl (by decide) (by decide)).trans mf9_a_5
      have mf11_a_6 := (hk11.1 a 11 6 11 0 fsX12 ha rfl (by decide) (by decide)).trans mf9_a_6
      have mf11_a_7 := (hk11.1 a 11 7 11 0 fsX12 ha rfl (by decide) (by decide)).trans mf9_a_7
      have mf11_a_0 := (hk11.1 a 11 0 11 0 fsX12 ha rfl (by decide) (by decide)).trans mf9_a_0
      have mc11_la := (hk11.2 la 21 0 1 40 _ r0 rfl (by decide)).trans mc9_la
      have mc11_a6 := (hk11.2 a6 24 0 1 480 _ rq6 rfl (by decide)).trans mc9_a6
      have mc11_a7 := (hk11.2 a7 25 0 0 480 _ rq7 rfl (by decide)).trans mc9_a7
      have mc11_a4 := (hk11.2 a4 22 0 0 8 _ rq4 rfl (by decide)).trans hc9
      have kp11 := kp9.trans (hk11.mono (ms' := zMr) (fun x hx => by cases List.mem_singleton.mp hx; decide))
      refine lv_aload_n hx hb (eX12_zone (59, .aload_n 0, 1) (List.mem_of_getElem? (i := 32) rfl)) rfl (lv_at hl 0 rfl) ?_
      obtain ⟨a12, fa12, ra12⟩ := tz_ref (k := 8) (rr := 26) hh11 ha (show RTg[11]? = some (0, 11, 0, fsX12) from rfl) rfl
      refine tz_get (r := 11) (k := 8) (t := (56, 0, 0)) hx hb hh11 ha rfl rfl (hcl11 28 8 (56, 0, 0) (by decide) rfl).1 fa12 (eX12_zone (60, .getfield 28, 3) (List.mem_of_getElem? (i := 33) rfl)) ?_
      refine lv_aload_n hx hb (eX12_zone (63, .aload_n 0, 1) (List.mem_of_getElem? (i := 34) rfl)) rfl (lv_at hl 0 rfl) ?_
      refine tz_get (r := 11) (k := 3) (t := (0, 0, 8)) hx hb hh11 ha rfl rfl (hcl11 215 3 (0, 0, 8) (by decide) rfl).1 mf11_a_3 (eX12_zone (64, .getfield 215, 3) (List.mem_of_getElem? (i := 35) rfl)) ?_
      refine ff_iconst hx hb (eX12_zone (67, .iconst 0, 1) (List.mem_of_getElem? (i := 36) rfl)) (by decide) (by decide) (fun v13 e13 => ?_)
      obtain ⟨-, z14, hc14, hy14⟩ := zh_arr hh11 ra12 (show RTg[26]? = some (1, 0, 8, [(0, 0, 2)]) from rfl)
      refine tz_iast hx hb (zAr hKn.1 0 (by decide)) hh11 ra12 (show RTg[26]? = some (1, 0, 8, [(0, 0, 2)]) from rfl) hc14 hy14 (by omega) (by omega) (tz_i (by omega) (by omega)) (eX12_zone (68, .iastore, 1) (List.mem_of_getElem? (i := 37) rfl)) (fun H15 lo15 hh15 hc15 hk15 hq15 _ => ?_)
      have mf15_a_2 := (hk15.1 a 11 2 11 0 fsX12 ha rfl (by decide) (by decide)).trans mf11_a_2
      have mf15_a_1 := (hk15.1 a 11 1 11 0 fsX12 ha rfl (by decide) (by decide)).trans mf11_a_1
      have mf15_a_3 := (hk15.1 a 11 3 11 0 fsX12 ha rfl (by decide) (by decide)).trans mf11_a_3
      have mf15_a_4 := (hk15.1 a 11 4 11 0 fsX12 ha rfl (by decide) (by decide)).trans mf11_a_4
      have mf15_a_5 := (hk15.1 a 11 5 11 0 fsX12 ha rfl (by decide) (by decide)).trans mf11_a_5
      have mf15_a_6 := (hk15.1 a 11 6 11 0 fsX12 ha rfl (by decide) (by decide)).trans mf11_a_6
      have mf15_a_7 := (hk15.1 a 11 7 11 0 fsX12 ha rfl (by decide) (by decide)).trans mf11_a_7
      have mf15_a_0 := (hk15.1 a 11 0 11 0 fsX12 ha rfl (by decide) (by decide)).trans mf11_a_0
      have mf15_a_8 := (hk15.1 a 11 8 11 0 fsX12 ha rfl (by decide) (by decide)).trans fa12
      have mc15_la := (hk15.2 la 21 0 1 40 _ r0 rfl (by decide)).trans mc11_la
      have mc15_a6 := (hk15.2 a6 24 0 1 480 _ rq6 rfl (by decide)).trans mc11_a6
      have mc15_a7 := (hk15.2 a7 25 0 0 480 _ rq7 rfl (by decide)).trans mc11_a7
      have mc15_a4 := (hk15.2 a4 22 0 0 8 _ rq4 rfl (by decide)).trans mc11_a4
      have mc15_a5 := (hk15.2 a5 23 0 0 8 _ rq5 rfl (by decide)).trans hc11
      have kp15 := kp11.trans (hk15.mono (ms' := zMr) (fun x hx => by cases List.mem_singleton.mp hx; decide))
      refine lv_aload_n hx hb (eX12_zone (69, .aload_n 0, 1) (List.mem_of_getElem? (i := 38) rfl)) rfl (lv_at hl 0 rfl) ?_
      refine lv_dup hx hb (eX12_zone (70, .dup, 1) (List.mem_of_getElem? (i := 39) rfl)) rfl ?_
      refine tz_get (r := 11) (k := 3) (t := (0, 0, 8)) hx hb hh15 ha rfl rfl (hcl11 215 3 (0, 0, 8) (by decide) rfl).1 mf15_a_3 (eX12_zone (71, .getfield 215, 3) (List.mem_of_getElem? (i := 40) rfl)) ?_
      refine ff_iconst hx hb (eX12_zone (74, .iconst 1, 1) (List.mem_of_getElem? (i := 41) rfl)) (by decide) (by decide) (fun v16 e16 => ?_)
      refine ff_iadd hx hb (eX12_zone (75, .iadd, 1) (List.mem_of_getElem? (i := 42) rfl)) (by omega) (by omega) (fun v17 e17 => ?_)
      refine tz_put (r := 11) (k := 3) (t := (0, 0, 8)) hx hb hD hh15 ha rfl rfl ((hcl11 215 3 (0, 0, 8) (by decide) rfl).2 (by decide)) (tz_i (by omega) (by omega)) (eX12_zone (76, .putfield 215, 3) (List.mem_of_getElem? (i := 43) rfl)) (fun H18 lo18 hh18 hf18 hk18 _ hq18 => ?_)
      have mf18_a_2 := (hk18.1 a 11 2 11 0 fsX12 ha rfl (by decide) (by decide)).trans mf15_a_2
      have mf18_a_1 := (hk18.1 a 11 1 11 0 fsX12 ha rfl (by decide) (by decide)).trans mf15_a_1
      have mf18_a_4 := (hk18.1 a 11 4 11 0 fsX12 ha rfl (by decide) (by decide)).trans mf15_a_4
      have mf18_a_5 := (hk18.1 a 11 5 11 0 fsX12 ha rfl (by decide) (by decide)).trans mf15_a_5
      have mf18_a_6 := (hk18.1 a 11 6 11 0 fsX12 ha rfl (by decide) (by decide)).trans mf15_a_6
      have mf18_a_7 := (hk18.1 a 11 7 11 0 fsX12 ha rfl (by decide) (by decide)).trans mf15_a_7
      have mf18_a_0 := (hk18.1 a 11 0 11 0 fsX12 ha rfl (by decide) (by decide)).trans mf15_a_0
      have mf18_a_8 := (hk18.1 a 11 8 11 0 fsX12 ha rfl (by decide) (by decide)).trans mf15_a_8
      have mc18_la := (hk18.2 la 21 0 1 40 _ r0 rfl (by decide)).trans mc15_la
      have mc18_a6 := (hk18.2 a6 24 0 1 480 _ rq6 rfl (by decide)).trans mc15_a6
      have mc18_a7 := (hk18.2 a7 25 0 0 480 _ rq7 rfl (by decide)).trans mc15_a7
      have mc18_a4 := (hk18.2 a4 22 0 0 8 _ rq4 rfl (by decide)).trans mc15_a4
      have mc18_a5 := (hk18.2 a5 23 0 0 8 _ rq5 rfl (by decide)).trans mc15_a5
      have mc18_a12 := (hk18.2 a12 26 0 0 8 _ ra12 rfl (by decide)).trans hc15
      have kp18 := kp15.trans (hk18.mono (ms' := zMr) (fun x hx => by cases List.mem_singleton.mp hx; decide))
      refine lv_aload_n hx hb (eX12_zone (79, .aload_n 0, 1) (List.mem_of_getElem? (i := 44) rfl)) rfl (lv_at hl 0 rfl) ?_
      refine tz_get (r := 11) (k := 3) (t := (0, 0, 8)) hx hb hh18 ha rfl rfl (hcl11 215 3 (0, 0, 8) (by decide) rfl).1 hf18 (eX12_zone (80, .getfield 215, 3) (List.mem_of_getElem? (i := 45) rfl)) ?_
      refine ff_iconst hx hb (eX12_zone (83, .iconst 1, 1) (List.mem_of_getElem? (i := 46) rfl)) (by decide) (by decide) (fun v19 e19 => ?_)
      refine ff_isub hx hb (eX12_zone (84, .isub, 1) (List.mem_of_getElem? (i := 47) rfl)) (by omega) (by omega) (fun v20 e20 => ?_)
      have hpp := jZp_app (o := o) (k0 := v10) (by omega) hp
      rw [← show nz.toNatClampNeg = Z.length by show nz.toInt.toNat = _; omega] at hpp
      exact W.zret hx hb hr rfl (fun t ht hW => ⟨_, _, _, L, Z ++ [(o.toInt, [])], rfl, ⟨_, rfl, rfl⟩, by rw [ht]; exact hh18.l0, by rw [ht]; exact kp18, by rw [ht]; exact mf18_a_0, by rw [ht]; exact ⟨⟨la, _, _, mf18_a_2, r0, mf18_a_1, hn, mc18_la, hz⟩, ⟨a4, a5, a6, a7, _, _, _, _, _, ⟨mf18_a_4, rq4, mc18_a4⟩, ⟨mf18_a_5, rq5, mc18_a5⟩, ⟨mf18_a_6, rq6, mc18_a6⟩, ⟨mf18_a_7, rq7, mc18_a7⟩, hf18, (by rw [List.length_append]; show _ = ((Z.length + 1 : Nat) : Int); omega), hpp⟩, hjl, jZw_app hzw (by omega)⟩, rfl, Or.inr (Or.inr ⟨by omega, by unfold oOK; omega, by omega, by omega, rfl⟩)⟩) hh18.2.2.1 (eX12_zone (85, .ireturn, 1) (List.mem_of_getElem? (i := 48) rfl))
    · skip
      refine ff_iconst hx hb (eX12_zone (22, .iconst 2, 1) (List.mem_of_getElem? (i := 11) rfl)) (by decide) (by decide) (fun v21 e21 => ?_)
      refine lv_goto hx hb (eX12_zone (23, .goto 4, 3) (List.mem_of_getElem? (i := 12) rfl)) (tgt := 27) rfl ?_
      refine tz_put (r := 11) (k := 0) (t := (0, 0, 2)) hx hb hD hh ha rfl rfl ((hcl11 85 0 (0, 0, 2) (by decide) rfl).2 (by decide)) (tz_i (by omega) (by omega)) (eX12_zone (27, .putfield 85, 3) (List.mem_of_getElem? (i := 14) rfl)) (fun H22 lo22 hh22 hf22 hk22 _ hq22 => ?_)
      have mf22_a_2 := (hk22.1 a 11 2 11 0 fsX12 ha rfl (by decide) (by decide)).trans fq2
      have mf22_a_1 := (hk22.1 a 11 1 11 0 fsX12 ha rfl (by decide) (by decide)).trans fq1
      have mf22_a_3 := (hk22.1 a 11 3 11 0 fsX12 ha rfl (by decide) (by decide)).trans fq3
      have mf22_a_4 := (hk22.1 a 11 4 11 0 fsX12 ha rfl (by decide) (by decide)).trans fq4
      have mf22_a_5 := (hk22.1 a 11 5 11 0 fsX12 ha rfl (by decide) (by decide)).trans fq5
      have mf22_a_6 := (hk22.1 a 11 6 11 0 fsX12 ha rfl (by decide) (by decide)).trans fq6
      have mf22_a_7 := (hk22.1 a 11 7 11 0 fsX12 ha rfl (by decide) (by decide)).trans fq7
      have mc22_la := (hk22.2 la 21 0 1 40 _ r0 rfl (by decide)).trans hc
      have mc22_a4 := (hk22.2 a4 22 0 0 8 _ rq4 rfl (by decide)).trans cq4
      have mc22_a5 := (hk22.2 a5 23 0 0 8 _ rq5 rfl (by decide)).trans cq5
      have mc22_a6 := (hk22.2 a6 24 0 1 480 _ rq6 rfl (by decide)).trans cq6
      have mc22_a7 := (hk22.2 a7 25 0 0 480 _ rq7 rfl (by decide)).trans cq7
      have kp22 := kp0.trans (hk22.mono (ms' := zMr) (fun x hx => by cases List.mem_singleton.mp hx; decide))
      refine lv_aload_n hx hb (eX12_zone (30, .aload_n 0, 1) (List.mem_of_getElem? (i := 15) rfl)) rfl (lv_at hl 0 rfl) ?_
      refine tz_get (r := 11) (k := 0) (t := (0, 0, 2)) hx hb hh22 ha rfl rfl (hcl11 85 0 (0, 0, 2) (by decide) rfl).1 hf22 (eX12_zone (31, .getfield 85, 3) (List.mem_of_getElem? (i := 16) rfl)) ?_
      refine ff_if_le hx hb (eX12_zone (34, .ifCond .le 5, 3) (List.mem_of_getElem? (i := 17) rfl)) (tgt := 39) rfl (fun c23 => (by exfalso; omega)) (fun c23 => ?_)
      refine ff_iconst hx hb (eX12_zone (37, .iconst 0, 1) (List.mem_of_getElem? (i := 18) rfl)) (by decide) (by decide) (fun v24 e24 => ?_)
      exact W.zret hx hb hr rfl (fun t ht hW => ⟨_, _, _, L, Z, rfl, ⟨_, rfl, rfl⟩, by rw [ht]; exact hh22.l0, by rw [ht]; exact kp22, by rw [ht]; exact hf22, by rw [ht]; exact ⟨⟨la, _, _, mf22_a_2, r0, mf22_a_1, hn, mc22_la, hz⟩, ⟨a4, a5, a6, a7, _, _, _, _, _, ⟨mf22_a_4, rq4, mc22_a4⟩, ⟨mf22_a_5, rq5, mc22_a5⟩, ⟨mf22_a_6, rq6, mc22_a6⟩, ⟨mf22_a_7, rq7, mc22_a7⟩, mf22_a_3, hnz, hp⟩, hjl, hzw⟩, rfl, Or.inr (Or.inl ⟨by omega, rfl, by unfold oOK; omega, by omega⟩)⟩) hh22.2.2.1 (eX12_zone (38, .ireturn, 1) (List.mem_of_getElem? (i := 19) rfl))
  · skip
    refine ff_iconst hx hb (eX12_zone (9, .iconst 1, 1) (List.mem_of_getElem? (i := 5) rfl)) (by decide) (by decide) (fun v25 e25 => ?_)
    refine lv_goto hx hb (eX12_zone (10, .goto 17, 3) (List.mem_of_getElem? (i := 6) rfl)) (tgt := 27) rfl ?_
    refine tz_put (r := 11) (k := 0) (t := (0, 0, 2)) hx hb hD hh ha rfl rfl ((hcl11 85 0 (0, 0, 2) (by decide) rfl).2 (by decide)) (tz_i (by omega) (by omega)) (eX12_zone (27, .putfield 85, 3) (List.mem_of_getElem? (i := 14) rfl)) (fun H26 lo26 hh26 hf26 hk26 _ hq26 => ?_)
    have mf26_a_2 := (hk26.1 a 11 2 11 0 fsX12 ha rfl (by decide) (by decide)).trans fq2
    have mf26_a_1 := (hk26.1 a 11 1 11 0 fsX12 ha rfl (by decide) (by decide)).trans fq1
    have mf26_a_3 := (hk26.1 a 11 3 11 0 fsX12 ha rfl (by decide) (by decide)).trans fq3
    have mf26_a_4 := (hk26.1 a 11 4 11 0 fsX12 ha rfl (by decide) (by decide)).trans fq4
    have mf26_a_5 := (hk26.1 a 11 5 11 0 fsX12 ha rfl (by decide) (by decide)).trans fq5
    have mf26_a_6 := (hk26.1 a 11 6 11 0 fsX12 ha rfl (by decide) (by decide)).trans fq6
    have mf26_a_7 := (hk26.1 a 11 7 11 0 fsX12 ha rfl (by decide) (by decide)).trans fq7
    have mc26_la := (hk26.2 la 21 0 1 40 _ r0 rfl (by decide)).trans hc
    have mc26_a4 := (hk26.2 a4 22 0 0 8 _ rq4 rfl (by decide)).trans cq4
    have mc26_a5 := (hk26.2 a5 23 0 0 8 _ rq5 rfl (by decide)).trans cq5
    have mc26_a6 := (hk26.2 a6 24 0 1 480 _ rq6 rfl (by decide)).trans cq6
    have mc26_a7 := (hk26.2 a7 25 0 0 480 _ rq7 rfl (by decide)).trans cq7
    have kp26 := kp0.trans (hk26.mono (ms' := zMr) (fun x hx => by cases List.mem_singleton.mp hx; decide))
    refine lv_aload_n hx hb (eX12_zone (30, .aload_n 0, 1) (List.mem_of_getElem? (i := 15) rfl)) rfl (lv_at hl 0 rfl) ?_
    refine tz_get (r := 11) (k := 0) (t := (0, 0, 2)) hx hb hh26 ha rfl rfl (hcl11 85 0 (0, 0, 2) (by decide) rfl).1 hf26 (eX12_zone (31, .getfield 85, 3) (List.mem_of_getElem? (i := 16) rfl)) ?_
    refine ff_if_le hx hb (eX12_zone (34, .ifCond .le 5, 3) (List.mem_of_getElem? (i := 17) rfl)) (tgt := 39) rfl (fun c27 => (by exfalso; omega)) (fun c27 => ?_)
    refine ff_iconst hx hb (eX12_zone (37, .iconst 0, 1) (List.mem_of_getElem? (i := 18) rfl)) (by decide) (by decide) (fun v28 e28 => ?_)
    exact W.zret hx hb hr rfl (fun t ht hW => ⟨_, _, _, L, Z, rfl, ⟨_, rfl, rfl⟩, by rw [ht]; exact hh26.l0, by rw [ht]; exact kp26, by rw [ht]; exact hf26, by rw [ht]; exact ⟨⟨la, _, _, mf26_a_2, r0, mf26_a_1, hn, mc26_la, hz⟩, ⟨a4, a5, a6, a7, _, _, _, _, _, ⟨mf26_a_4, rq4, mc26_a4⟩, ⟨mf26_a_5, rq5, mc26_a5⟩, ⟨mf26_a_6, rq6, mc26_a6⟩, ⟨mf26_a_7, rq7, mc26_a7⟩, mf26_a_3, hnz, hp⟩, hjl, hzw⟩, rfl, Or.inl ⟨by omega, rfl, by unfold oOK; omega⟩⟩) hh26.2.2.1 (eX12_zone (38, .ireturn, 1) (List.mem_of_getElem? (i := 19) rfl))
set_option maxRecDepth 100000 in
set_option maxHeartbeats 4000000 in
theorem hX12_isZone (l : Launch) (D : va_G) (cA : Nat → ClassId) (ro : Nat → Option Nat) (sz : Nat) (H0 : Heap) (a : Nat) (zi : Int32) (nz : Int32) (ha : ro a = some 11)  : Met l yX12_isZone (gW yX12_isZone cX12_isZone 2 (some .boolean)) { frames := 0, cells := 0, slots := 0, locals := 0 } (zs_P D cA ro sz H0 (fun H => zh_f D H a 11 3 = .int nz) [.ref a, .int zi]) (fun _ st oc t => t.heap = st.heap ∧ ∃ r : Int32, oc = .returned (some (.int r)) ∧ ((r.toInt = 1 ∧ 0 ≤ zi.toInt ∧ zi.toInt < nz.toInt) ∨ (r.toInt = 0 ∧ (zi.toInt < 0 ∨ nz.toInt ≤ zi.toInt)))) 0 0 (zy_fr sz) := by
  refine zy_ofW (cc := cX12_isZone) (maxL := 2) (ret := (some .boolean)) (by decide +kernel) rfl ?_
  intro p e s m args below meth c s1 B hml hv
  obtain ⟨rfl, hh, hKn, hJ⟩ := hv
  have hx := B.exec
  have hb := B.bytes
  have hr := B.returns
  have hlk := B.notSynchronized
  have hts0 := atoms_spec (ws := gW yX12_isZone cX12_isZone 2 (some .boolean)) B.pre
  have h2 : ∀ w ∈ gT, w.before ([.ref a, .int zi] : List Value).toArray s = true := fun w hw => hts0 w (List.mem_cons_of_mem _ hw)
  have hown : s.vm.findClass RX12 = some m.cls := findClass_of_methodNamed B.named
  have hl := lv_entry [.ref a, .int zi] (n := 2) (Nat.le_of_ble_eq_true rfl)
  rw [lg_entry_eq]
  generalize (lg_sl [.ref a, .int zi] ++ List.replicate (2 - (lg_sl [.ref a, .int zi]).length) Slot.unset).toArray = ls at hl ⊢
  have b_zi := zn_i32 zi
  have hD := zD_all h2 hKn.1
  have hcl11 := fun (idx k : Nat) (t : zt_T) (h : (idx, 11, k) ∈ gfX12) (hk : fsX12[k]? = some t) => zf_clause (ro := ro) (ms := []) h2 hown hKn.1 gfX12_ok (by decide +kernel) idx 11 k 11 0 fsX12 t h rfl hk
  have kp0 : zc_kept D RTg ro [] s.heap s.heap := zc_kept.refl
  have fq3 := hJ
  refine lv_iload_n hx hb (eX12_isZone (0, .iload_n 1, 1) (List.mem_of_getElem? (i := 0) rfl)) rfl (lv_at hl 1 rfl) ?_
  refine ff_if_lt hx hb (eX12_isZone (1, .ifCond .lt 15, 3) (List.mem_of_getElem? (i := 1) rfl)) (tgt := 16) rfl (fun c1 => ?_) (fun c1 => ?_)
  · skip
    refine ff_iconst hx hb (eX12_isZone (16, .iconst 0, 1) (List.mem_of_getElem? (i := 8) rfl)) (by decide) (by decide) (fun v2 e2 => ?_)
    exact W.zret hx hb hr (zn_bool (by omega) (by omega)) (fun t ht hW => ⟨ht, _, rfl, by omega⟩) (fun q hq => by cases hq) (eX12_isZone (17, .ireturn, 1) (List.mem_of_getElem? (i := 9) rfl))
  · skip
    refine lv_iload_n hx hb (eX12_isZone (4, .iload_n 1, 1) (List.mem_of_getElem? (i := 2) rfl)) rfl (lv_at hl 1 rfl) ?_
    refine lv_aload_n hx hb (eX12_isZone (5, .aload_n 0, 1) (List.mem_of_getElem? (i := 3) rfl)) rfl (lv_at hl 0 rfl) ?_
    refine tz_get (r := 11) (k := 3) (t := (0, 0, 8)) hx hb hh ha rfl rfl (hcl11 215 3 (0, 0, 8) (by decide) rfl).1 fq3 (eX12_isZone (6, .getfield 215, 3) (List.mem_of_getElem? (i := 4) rfl)) ?_
    refine ff_icmp_ge hx hb (eX12_isZone (9, .if_icmp .ge 7, 3) (List.mem_of_getElem? (i := 5) rfl)) (tgt := 16) rfl (fun c3 => ?_) (fun c3 => ?_)
    · skip
      refine ff_iconst hx hb (eX12_isZone (16, .iconst 0, 1) (List.mem_of_getElem? (i := 8) rfl)) (by decide) (by decide) (fun v4 e4 => ?_)
      exact W.zret hx hb hr (zn_bool (by omega) (by omega)) (fun t ht hW => ⟨ht, _, rfl, by omega⟩) (fun q hq => by cases hq) (eX12_isZone (17, .ireturn, 1) (List.mem_of_getElem? (i := 9) rfl))
    · skip
      refine ff_iconst hx hb (eX12_isZone (12, .iconst 1, 1) (List.mem_of_getElem? (i := 6) rfl)) (by decide) (by decide) (fun v5 e5 => ?_)
      refine lv_goto hx hb (eX12_isZone (13, .goto 4, 3) (List.mem_of_getElem? (i := 7) rfl)) (tgt := 17) rfl ?_
      exact W.zret hx hb hr (zn_bool (by omega) (by omega)) (fun t ht hW => ⟨ht, _, rfl, by omega⟩) (fun q hq => by cases hq) (eX12_isZone (17, .ireturn, 1) (List.mem_of_getElem? (i := 9) rfl))
set_option maxRecDepth 100000 in
set_option maxHeartbeats 4000000 in
theorem hX12_changeZ (l : Launch) (D : va_G) (cA : Nat → ClassId) (ro : Nat → Option Nat) (sz : Nat) (H0 : Heap) (a : Nat) (zi : Int32) (t0 : Int64) (o0 : Int32) (L : List Int) (Z : List zE) (ha : ro a = some 11)  : Met l yX12_change (gW yX12_change cX12_change 6 (some .int)) { frames := 3, cells := 0, slots := 0, locals := 69 } (zs_P D cA ro sz H0 (fun H => jRZ D cA ro H a L Z) [.ref a, .int zi, .long t0, .int o0]) (zz_QR D cA ro sz H0 a vI (spH zi.toInt t0.toInt o0.toInt L Z)) 0 0 (zy_fr sz) := by
  refine zy_ofW (cc := cX12_change) (maxL := 6) (ret := (some .int)) (by decide +kernel) rfl ?_
  intro p e s m args below meth c s1 B hml hv
  obtain ⟨rfl, hh, hKn, hJ⟩ := hv
  have hx := B.exec
  have hb := B.bytes
  have hr := B.returns
  have hlk := B.notSynchronized
  have hts0 := atoms_spec (ws := gW yX12_change cX12_change 6 (some .int)) B.pre
  have h2 : ∀ w ∈ gT, w.before ([.ref a, .int zi, .long t0, .int o0] : List Value).toArray s = true := fun w hw => hts0 w (List.mem_cons_of_mem _ hw)
  have hown : s.vm.findClass RX12 = some m.cls := findClass_of_methodNamed B.named
  have hl := lv_entry [.ref a, .int zi, .long t0, .int o0] (n := 6) (Nat.le_of_ble_eq_true rfl)
  rw [lg_entry_eq]
  generalize (lg_sl [.ref a, .int zi, .long t0, .int o0] ++ List.replicate (6 - (lg_sl [.ref a, .int zi, .long t0, .int o0]).length) Slot.unset).toArray = ls at hl ⊢
  have b_zi := zn_i32 zi
  have b_t0 := zn_i64 t0
  have b_o0 := zn_i32 o0
  have hD := zD_all h2 hKn.1
  have hcl11 := fun (idx k : Nat) (t : zt_T) (h : (idx, 11, k) ∈ gfX12) (hk : fsX12[k]? = some t) => zf_clause (ro := ro) (ms := zMr) h2 hown hKn.1 gfX12_ok (by decide +kernel) idx 11 k 11 0 fsX12 t h rfl hk
  have kp0 : zc_kept D RTg ro zMr s.heap s.heap := zc_kept.refl
  obtain ⟨⟨la, n, z, fq2, r0, fq1, hn, hc, hz⟩, ⟨a4, a5, a6, a7, zq4, zq5, zq6, zq7, nz, ⟨fq4, rq4, cq4⟩, ⟨fq5, rq5, cq5⟩, ⟨fq6, rq6, cq6⟩, ⟨fq7, rq7, cq7⟩, fq3, hnz, hp⟩, hjl, hzw⟩ := id hJ
  have hjr := hJ.1
  have hjL := hjl.2.1
  have hzw1 := hzw.1
  obtain ⟨n9, g9, n1, n2⟩ := zh_fT (k := 1) (t := (0, 0, 40)) hh ha (show RTg[11]? = some (0, 11, 0, fsX12) from rfl) rfl
  cases fq1.symm.trans g9
  dsimp only at n1 n2
  clear g9
  obtain ⟨n9, g9, nz1, nz2⟩ := zh_fT (k := 3) (t := (0, 0, 8)) hh ha (show RTg[11]? = some (0, 11, 0, fsX12) from rfl) rfl
  cases fq3.symm.trans g9
  dsimp only at nz1 nz2
  clear g9
  obtain ⟨-, xla, dla, hla⟩ := zh_arr hh r0 (show RTg[21]? = some (1, 1, 40, [(1, (-9223372036854775808), 9223372036854775807)]) from rfl)
  have hyla : ∀ i, i < 40 → zt_ok ro (z i) (1, (-9223372036854775808), 9223372036854775807) := zs_arr (hc.symm.trans dla) hla
  obtain ⟨-, xa4, da4, ha4⟩ := zh_arr hh rq4 (show RTg[22]? = some (1, 0, 8, [(0, (-1439), 1439)]) from rfl)
  have hya4 : ∀ i, i < 8 → zt_ok ro (zq4 i) (0, (-1439), 1439) := zs_arr (cq4.symm.trans da4) ha4
  obtain ⟨-, xa5, da5, ha5⟩ := zh_arr hh rq5 (show RTg[23]? = some (1, 0, 8, [(0, 0, 60)]) from rfl)
  have hya5 : ∀ i, i < 8 → zt_ok ro (zq5 i) (0, 0, 60) := zs_arr (cq5.symm.trans da5) ha5
  obtain ⟨-, xa6, da6, ha6⟩ := zh_arr hh rq6 (show RTg[24]? = some (1, 1, 480, [(1, (-100000000000000), 100000000000000)]) from rfl)
  have hya6 : ∀ i, i < 480 → zt_ok ro (zq6 i) (1, (-100000000000000), 100000000000000) := zs_arr (cq6.symm.trans da6) ha6
  obtain ⟨-, xa7, da7, ha7⟩ := zh_arr hh rq7 (show RTg[25]? = some (1, 0, 480, [(0, (-1439), 1439)]) from rfl)
  have hya7 : ∀ i, i < 480 → zt_ok ro (zq7 i) (0, (-1439), 1439) := zs_arr (cq7.symm.trans da7) ha7
  refine lv_aload_n hx hb (eX12_change (0, .aload_n 0, 1) (List.mem_of_getElem? (i := 0) rfl)) rfl (lv_at hl 0 rfl) ?_
  refine lv_iload_n hx hb (eX12_change (1, .iload_n 1, 1) (List.mem_of_getElem? (i := 1) rfl)) rfl (lv_at hl 1 rfl) ?_
  refine tz_rowV (As := [.int zi]) (st := []) (b := a) (C := RX12) (Ts := gT) hx hb hml hown h2 (fun _ h => h) (hX12_isZone l D cA ro sz H0 a zi nz ha) ⟨rfl, rfl⟩ ⟨by decide, by decide⟩ ⟨by decide, by decide⟩ (tb_7 162 rfl rfl) (tb_1 12 rfl rfl) (tb_7 159 rfl rfl) (tb_7 161 rfl rfl) (tb_0 15 rfl rfl) (show yX12_isZone.cls ≠ "java/lang/invoke/MethodHandle" ∧ yX12_isZone.cls ≠ "java/lang/invoke/VarHandle" ∧ (parseMethodDescriptor yX12_isZone.desc).map (fun d => d.parameters.length) = some 1 by decide +kernel) zs_blind (zs_ob hh ha (show RTg[11]? = some (0, 11, 0, fsX12) from rfl) (zCX12 hKn.1)) (fun U hU hW => ⟨rfl, by rw [hU]; exact hh.l0, zKb s U hW.alike hKn, by rw [hU]; exact fq3⟩) hh.2.2.1 hl.1 (Nat.le_of_ble_eq_true rfl) (eX12_change (2, .invokevirtual 221, 3) (List.mem_of_getElem? (i := 2) rfl)) (fun r1 s1 t1 lo1 g1 f1 l1 => ?_)
  obtain ⟨z1, v1, q1, e1⟩ := f1
  cases q1
  rw [z1, g1]
  have hh1 : zh_ok D cA RTg ro sz H0 s.heap lo1 := ⟨hh.1, hh.2.1, l1, hh.2.2.2⟩
  refine W.eq (g2 := F0 m 5 ls [.int v1]) rfl ?_
  refine ff_if_eq hx hb (eX12_change (5, .ifCond .eq 20, 3) (List.mem_of_getElem? (i := 3) rfl)) (tgt := 25) rfl (fun c2 => ?_) (fun c2 => ?_)
  · skip
    refine ff_iconst hx hb (eX12_change (25, .iconst 1, 1) (List.mem_of_getElem? (i := 12) rfl)) (by decide) (by decide) (fun v3 e3 => ?_)
    refine lv_goto hx hb (eX12_change (26, .goto 4, 3) (List.mem_of_getElem? (i := 13) rfl)) (tgt := 30) rfl ?_
    refine lv_istore hx hb (eX12_change (30, .istore 5, 2) (List.mem_of_getElem? (i := 15) rfl)) hl (by decide) rfl (fun ls4 hl4 => ?_)
    refine lv_iload hx hb (eX12_change (32, .iload 5, 2) (List.mem_of_getElem? (i := 16) rfl)) (lv_at hl4 0 rfl) ?_
    refine ff_if_ne hx hb (eX12_change (34, .ifCond .ne 35, 3) (List.mem_of_getElem? (i := 17) rfl)) (tgt := 69) rfl (fun c5 => ?_) (fun c5 => (by exfalso; omega))
    refine ff_iconst hx hb (eX12_change (69, .iconst 1, 1) (List.mem_of_getElem? (i := 39) rfl)) (by decide) (by decide) (fun v6 e6 => ?_)
    refine lv_goto hx hb (eX12_change (70, .goto 4, 3) (List.mem_of_getElem? (i := 40) rfl)) (tgt := 74) rfl ?_
    refine lv_istore hx hb (eX12_change (74, .istore 5, 2) (List.mem_of_getElem? (i := 42) rfl)) hl4 (by decide) rfl (fun ls7 hl7 => ?_)
    refine lv_aload_n hx hb (eX12_change (76, .aload_n 0, 1) (List.mem_of_getElem? (i := 43) rfl)) rfl (lv_at hl7 1 rfl) ?_
    refine lv_iload hx hb (eX12_change (77, .iload 5, 2) (List.mem_of_getElem? (i := 44) rfl)) (lv_at hl7 0 rfl) ?_
    refine ff_if_eq hx hb (eX12_change (79, .ifCond .eq 7, 3) (List.mem_of_getElem? (i := 45) rfl)) (tgt := 86) rfl (fun c8 => (by exfalso; omega)) (fun c8 => ?_)
    refine ff_iconst hx hb (eX12_change (82, .iconst 1, 1) (List.mem_of_getElem? (i := 46) rfl)) (by decide) (by decide) (fun v9 e9 => ?_)
    refine lv_goto hx hb (eX12_change (83, .goto 19, 3) (List.mem_of_getElem? (i := 47) rfl)) (tgt := 102) rfl ?_
    refine tz_put (r := 11) (k := 0) (t := (0, 0, 2)) hx hb hD hh1 ha rfl rfl ((hcl11 85 0 (0, 0, 2) (by decide) rfl).2 (by decide)) (tz_i (by omega) (by omega)) (eX12_change (102, .putfield 85, 3) (List.mem_of_getElem? (i := 57) rfl)) (fun H10 lo10 hh10 hf10 hk10 _ hq10 => ?_)
    have mf10_a_2 := (hk10.1 a 11 2 11 0 fsX12 ha rfl (by decide) (by decide)).trans fq2
    have mf10_a_1 := (hk10.1 a 11 1 11 0 fsX12 ha rfl (by decide) (by decide)).trans fq1
    have mf10_a_3 := (hk10.1 a 11 3 11 0 fsX12 ha rfl (by decide) (by decide)).trans fq3
    have mf10_a_4 := (hk10.1 a 11 4 11 0 fsX12 ha rfl (by decide) (by decide)).trans fq4
    have mf10_a_5 := (hk10.1 a 11 5 11 0 fsX12 ha rfl (by decide) (by decide)).trans fq5
    have mf10_a_6 := (hk10.1 a 11 6 11 0 fsX12 ha rfl (by decide) (by decide)).trans fq6
    have mf10_a_7 := (hk10.1 a 11 7 11 0 fsX12 ha rfl (by decide) (by decide)).trans fq7
    have mc10_la := (hk10.2 la 21 0 1 40 _ r0 rfl (by decide)).trans hc
    have mc10_a4 := (hk10.2 a4 22 0 0 8 _ rq4 rfl (by decide)).trans cq4
    have mc10_a5 := (hk10.2 a5 23 0 0 8 _ rq5 rfl (by decide)).trans cq5
    have mc10_a6 := (hk10.2 a6 24 0 1 480 _ rq6 rfl (by decide)).trans cq6
    have mc10_a7 := (hk10.2 a7 25 0 0 480 _ rq7 rfl (by decide)).trans cq7
    have kp10 := kp0.trans (hk10.mono (ms' := zMr) (fun x hx => by cases List.mem_singleton.mp hx; decide))
    refine lv_aload_n hx hb (eX12_change (105, .aload_n 0, 1) (List.mem_of_getElem? (i := 58) rfl)) rfl (lv_at hl7 1 rfl) ?_
    refine tz_get (r := 11) (k := 0) (t := (0, 0, 2)) hx hb hh10 ha rfl rfl (hcl11 85 0 (0, 0, 2) (by decide) rfl).1 hf10 (eX12_change (106, .getfield 85, 3) (List.mem_of_getElem? (i := 59) rfl)) ?_
    refine ff_if_le hx hb (eX12_change (109, .ifCond .le 5, 3) (List.mem_of_getElem? (i := 60) rfl)) (tgt := 114) rfl (fun c11 => (by exfalso; omega)) (fun c11 => ?_)
    refine ff_iconst hx hb (eX12_change (112, .iconst 0, 1) (List.mem_of_getElem? (i := 61) rfl)) (by decide) (by decide) (fun v12 e12 => ?_)
    exact W.zret hx hb hr rfl (fun t ht hW => ⟨_, _, _, L, Z, rfl, ⟨_, rfl, rfl⟩, by rw [ht]; exact hh10.l0, by rw [ht]; exact kp10, by rw [ht]; exact hf10, by rw [ht]; exact ⟨⟨la, _, _, mf10_a_2, r0, mf10_a_1, hn, mc10_la, hz⟩, ⟨a4, a5, a6, a7, _, _, _, _, _, ⟨mf10_a_4, rq4, mc10_a4⟩, ⟨mf10_a_5, rq5, mc10_a5⟩, ⟨mf10_a_6, rq6, mc10_a6⟩, ⟨mf10_a_7, rq7, mc10_a7⟩, mf10_a_3, hnz, hp⟩, hjl, hzw⟩, rfl, Or.inl ⟨by omega, rfl, fun ⟨e9, g9⟩ => by have g8 := (List.getElem?_eq_some_iff.mp g9.2.1).1; have g7 := g9.1; omega⟩⟩) hh10.2.2.1 (eX12_change (113, .ireturn, 1) (List.mem_of_getElem? (i := 62) rfl))
  · skip
    refine lv_iload hx hb (eX12_change (8, .iload 4, 2) (List.mem_of_getElem? (i := 4) rfl)) (lv_at hl 3 rfl) ?_
    refine ff_i2l hx hb (eX12_change (10, .i2l, 1) (List.mem_of_getElem? (i := 5) rfl)) (fun v13 e13 => ?_)
    refine zu_S (vs := [.long v13]) (rest := []) hx hb hml hown hts0 zu_BT (hX12_isOffset l v13) ⟨rfl, rfl⟩ ⟨by decide, by decide⟩ ⟨by decide, by decide⟩ (tb_7 153 rfl rfl) (tb_1 12 rfl rfl) (tb_7 151 rfl rfl) (tb_7 152 rfl rfl) (show yX12_isOffset.cls ≠ "java/lang/invoke/MethodHandle" ∧ yX12_isOffset.cls ≠ "java/lang/invoke/VarHandle" ∧ (parseMethodDescriptor yX12_isOffset.desc).map (fun d => d.parameters.length) = some 1 by decide +kernel) rfl (fun _ _ _ => trivial) hl.1 (Nat.le_of_ble_eq_true rfl) (eX12_change (11, .invokestatic 218, 3) (List.mem_of_getElem? (i := 6) rfl)) (fun w14 f14 => ?_)
    obtain ⟨v14, rfl, e14⟩ := f14
    refine ff_if_eq hx hb (eX12_change (14, .ifCond .eq 11, 3) (List.mem_of_getElem? (i := 7) rfl)) (tgt := 25) rfl (fun c15 => ?_) (fun c15 => ?_)
    · skip
      refine ff_iconst hx hb (eX12_change (25, .iconst 1, 1) (List.mem_of_getElem? (i := 12) rfl)) (by decide) (by decide) (fun v16 e16 => ?_)
      refine lv_goto hx hb (eX12_change (26, .goto 4, 3) (List.mem_of_getElem? (i := 13) rfl)) (tgt := 30) rfl ?_
      refine lv_istore hx hb (eX12_change (30, .istore 5, 2) (List.mem_of_getElem? (i := 15) rfl)) hl (by decide) rfl (fun ls17 hl17 => ?_)
      refine lv_iload hx hb (eX12_change (32, .iload 5, 2) (List.mem_of_getElem? (i := 16) rfl)) (lv_at hl17 0 rfl) ?_
      refine ff_if_ne hx hb (eX12_change (34, .ifCond .ne 35, 3) (List.mem_of_getElem? (i := 17) rfl)) (tgt := 69) rfl (fun c18 => ?_) (fun c18 => (by exfalso; omega))
      refine ff_iconst hx hb (eX12_change (69, .iconst 1, 1) (List.mem_of_getElem? (i := 39) rfl)) (by decide) (by decide) (fun v19 e19 => ?_)
      refine lv_goto hx hb (eX12_change (70, .goto 4, 3) (List.mem_of_getElem? (i := 40) rfl)) (tgt := 74) rfl ?_
      refine lv_istore hx hb (eX12_change (74, .istore 5, 2) (List.mem_of_getElem? (i := 42) rfl)) hl17 (by decide) rfl (fun ls20 hl20 => ?_)
      refine lv_aload_n hx hb (eX12_change (76, .aload_n 0, 1) (List.mem_of_getElem? (i := 43) rfl)) rfl (lv_at hl20 1 rfl) ?_
      refine lv_iload hx hb (eX12_change (77, .iload 5, 2) (List.mem_of_getElem? (i := 44) rfl)) (lv_at hl20 0 rfl) ?_
      refine ff_if_eq hx hb (eX12_change (79, .ifCond .eq 7, 3) (List.mem_of_getElem? (i := 45) rfl)) (tgt := 86) rfl (fun c21 => (by exfalso; omega)) (fun c21 => ?_)
      refine ff_iconst hx hb (eX12_change (82, .iconst 1, 1) (List.mem_of_getElem? (i := 46) rfl)) (by decide) (by decide) (fun v22 e22 => ?_)
      refine lv_goto hx hb (eX12_change (83, .goto 19, 3) (List.mem_of_getElem? (i := 47) rfl)) (tgt := 102) rfl ?_
      refine tz_put (r := 11) (k := 0) (t := (0, 0, 2)) hx hb hD hh1 ha rfl rfl ((hcl11 85 0 (0, 0, 2) (by decide) rfl).2 (by decide)) (tz_i (by omega) (by omega)) (eX12_change (102, .putfield 85, 3) (List.mem_of_getElem? (i := 57) rfl)) (fun H23 lo23 hh23 hf23 hk23 _ hq23 => ?_)
      have mf23_a_2 := (hk23.1 a 11 2 11 0 fsX12 ha rfl (by decide) (by decide)).trans fq2
      have mf23_a_1 := (hk23.1 a 11 1 11 0 fsX12 ha rfl (by decide) (by decide)).trans fq1
      have mf23_a_3 := (hk23.1 a 11 3 11 0 fsX12 ha rfl (by decide) (by decide)).trans fq3
      have mf23_a_4 := (hk23.1 a 11 4 11 0 fsX12 ha rfl (by decide) (by decide)).trans fq4
      have mf23_a_5 := (hk23.1 a 11 5 11 0 fsX12 ha rfl (by decide) (by decide)).trans fq5
      have mf23_a_6 := (hk23.1 a 11 6 11 0 fsX12 ha rfl (by decide) (by decide)).trans fq6
      have mf23_a_7 := (hk23.1 a 11 7 11 0 fsX12 ha rfl (by decide) (by decide)).trans fq7
      have mc23_la := (hk23.2 la 21 0 1 40 _ r0 rfl (by decide)).trans hc
      have mc23_a4 := (hk23.2 a4 22 0 0 8 _ rq4 rfl (by decide)).trans cq4
      have mc23_a5 := (hk23.2 a5 23 0 0 8 _ rq5 rfl (by decide)).trans cq5
      have mc23_a6 := (hk23.2 a6 24 0 1 480 _ rq6 rfl (by decide)).trans cq6
      have mc23_a7 := (hk23.2 a7 25 0 0 480 _ rq7 rfl (by decide)).trans cq7
      have kp23 := kp0.trans (hk23.mono (ms' := zMr) (fun x hx => by cases List.mem_singleton.mp hx; decide))
      refine lv_aload_n hx hb (eX12_change (105, .aload_n 0, 1) (List.mem_of_getElem? (i := 58) rfl)) rfl (lv_at hl20 1 rfl) ?_
      refine tz_get (r := 11) (k := 0) (t := (0, 0, 2)) hx hb hh23 ha rfl rfl (hcl11 85 0 (0, 0, 2) (by decide) rfl).1 hf23 (eX12_change (106, .getfield 85, 3) (List.mem_of_getElem? (i := 59) rfl)) ?_
      refine ff_if_le hx hb (eX12_change (109, .ifCond .le 5, 3) (List.mem_of_getElem? (i := 60) rfl)) (tgt := 114) rfl (fun c24 => (by exfalso; omega)) (fun c24 => ?_)
      refine ff_iconst hx hb (eX12_change (112, .iconst 0, 1) (List.mem_of_getElem? (i := 61) rfl)) (by decide) (by decide) (fun v25 e25 => ?_)
      exact W.zret hx hb hr rfl (fun t ht hW => ⟨_, _, _, L, Z, rfl, ⟨_, rfl, rfl⟩, by rw [ht]; exact hh23.l0, by rw [ht]; exact kp23, by rw [ht]; exact hf23, by rw [ht]; exact ⟨⟨la, _, _, mf23_a_2, r0, mf23_a_1, hn, mc23_la, hz⟩, ⟨a4, a5, a6, a7, _, _, _, _, _, ⟨mf23_a_4, rq4, mc23_a4⟩, ⟨mf23_a_5, rq5, mc23_a5⟩, ⟨mf23_a_6, rq6, mc23_a6⟩, ⟨mf23_a_7, rq7, mc23_a7⟩, mf23_a_3, hnz, hp⟩, hjl, hzw⟩, rfl, Or.inl ⟨by omega, rfl, fun ⟨e9, g9⟩ => by have g8 := g9.2.2.1; unfold oOK at g8; omega⟩⟩) hh23.2.2.1 (eX12_change (113, .ireturn, 1) (List.mem_of_getElem? (i := 62) rfl))
    · skip
      refine lv_aload_n hx hb (eX12_change (17, .aload_n 0, 1) (List.mem_of_getElem? (i := 8) rfl)) rfl (lv_at hl 0 rfl) ?_
      refine lv_lload_n hx hb (eX12_change (18, .lload_n 2, 1) (List.mem_of_getElem? (i := 9) rfl)) rfl (lv_at hl 2 rfl) ?_
      refine tz_rowV (As := [.long t0]) (st := []) (b := a) (C := RX12) (Ts := gT) hx hb hml hown h2 (fun _ h => h) (hX12_isInstant l D cA ro sz H0 a t0 L ha) ⟨rfl, rfl⟩ ⟨by decide, by decide⟩ ⟨by decide, by decide⟩ (tb_7 141 rfl rfl) (tb_1 12 rfl rfl) (tb_7 138 rfl rfl) (tb_7 140 rfl rfl) (tb_0 13 rfl rfl) (show yX12_isInstant.cls ≠ "java/lang/invoke/MethodHandle" ∧ yX12_isInstant.cls ≠ "java/lang/invoke/VarHandle" ∧ (parseMethodDescriptor yX12_isInstant.desc).map (fun d => d.parameters.length) = some 1 by decide +kernel) zs_blind (zs_ob hh1 ha (show RTg[11]? = some (0, 11, 0, fsX12) from rfl) (zCX12 hKn.1)) (fun U hU hW => ⟨rfl, by rw [hU]; exact hh1.l0, zKb s U hW.alike hKn, by rw [hU]; exact hjr⟩) hh1.2.2.1 hl.1 (Nat.le_of_ble_eq_true rfl) (eX12_change (19, .invokevirtual 207, 3) (List.mem_of_getElem? (i := 10) rfl)) (fun r26 s26 t26 lo26 g26 f26 l26 => ?_)
      obtain ⟨z26, v26, q26, e26⟩ := f26
      cases q26
      rw [z26, g26]
      have hh26 : zh_ok D cA RTg ro sz H0 s.heap lo26 := ⟨hh1.1, hh1.2.1, l26, hh1.2.2.2⟩
      refine W.eq (g2 := F0 m 22 ls [.int v26]) rfl ?_
      refine ff_if_ne hx hb (eX12_change (22, .ifCond .ne 7, 3) (List.mem_of_getElem? (i := 11) rfl)) (tgt := 29) rfl (fun c27 => ?_) (fun c27 => ?_)
      · skip
        refine ff_iconst hx hb (eX12_change (29, .iconst 0, 1) (List.mem_of_getElem? (i := 14) rfl)) (by decide) (by decide) (fun v28 e28 => ?_)
        refine lv_istore hx hb (eX12_change (30, .istore 5, 2) (List.mem_of_getElem? (i := 15) rfl)) hl (by decide) rfl (fun ls29 hl29 => ?_)
        refine lv_iload hx hb (eX12_change (32, .iload 5, 2) (List.mem_of_getElem? (i := 16) rfl)) (lv_at hl29 0 rfl) ?_
        refine ff_if_ne hx hb (eX12_change (34, .ifCond .ne 35, 3) (List.mem_of_getElem? (i := 17) rfl)) (tgt := 69) rfl (fun c30 => (by exfalso; omega)) (fun c30 => ?_)
        have htok : tOK t0.toInt L := by rcases e26 with h | h; exact h.2; exfalso; omega
        have htb : -40000000000000 ≤ t0.toInt ∧ t0.toInt ≤ 40000000000000 := by have h8 := lsI_b hjL (-365961662); have h9 := lsI_b hjL 364522972; have h7 := htok; unfold tOK at h7; omega
        have hlt : zi.toInt.toNat < Z.length := by omega
        obtain ⟨ze, hze⟩ : ∃ e9, Z[zi.toInt.toNat]? = some e9 := ⟨_, List.getElem?_eq_getElem hlt⟩
        have hle := hzw.2 ze (List.mem_of_getElem? hze)
        obtain ⟨-, ⟨nc, hq5, hnc⟩, hcN⟩ := hp _ ze hze
        refine lv_aload_n hx hb (eX12_change (37, .aload_n 0, 1) (List.mem_of_getElem? (i := 18) rfl)) rfl (lv_at hl29 1 rfl) ?_
        refine tz_get (r := 11) (k := 5) (t := (50, 0, 0)) hx hb hh26 ha rfl rfl (hcl11 19 5 (50, 0, 0) (by decide) rfl).1 fq5 (eX12_change (38, .getfield 19, 3) (List.mem_of_getElem? (i := 19) rfl)) ?_
        refine lv_iload_n hx hb (eX12_change (41, .iload_n 1, 1) (List.mem_of_getElem? (i := 20) rfl)) rfl (lv_at hl29 2 rfl) ?_
        refine tz_iald hx hb (zAr hKn.1 0 (by decide)) cq5 (by omega) (by omega) (eX12_change (42, .iaload, 1) (List.mem_of_getElem? (i := 21) rfl)) ?_
        rw [show zi.toNatClampNeg = zi.toInt.toNat from rfl, hq5]
        refine ff_if_le hx hb (eX12_change (43, .ifCond .le 30, 3) (List.mem_of_getElem? (i := 22) rfl)) (tgt := 73) rfl (fun c31 => ?_) (fun c31 => ?_)
        · skip
          refine ff_iconst hx hb (eX12_change (73, .iconst 0, 1) (List.mem_of_getElem? (i := 41) rfl)) (by decide) (by decide) (fun v32 e32 => ?_)
          refine lv_istore hx hb (eX12_change (74, .istore 5, 2) (List.mem_of_getElem? (i := 42) rfl)) hl29 (by decide) rfl (fun ls33 hl33 => ?_)
          refine lv_aload_n hx hb (eX12_change (76, .aload_n 0, 1) (List.mem_of_getElem? (i := 43) rfl)) rfl (lv_at hl33 1 rfl) ?_
          refine lv_iload hx hb (eX12_change (77, .iload 5, 2) (List.mem_of_getElem? (i := 44) rfl)) (lv_at hl33 0 rfl) ?_
          refine ff_if_eq hx hb (eX12_change (79, .ifCond .eq 7, 3) (List.mem_of_getElem? (i := 45) rfl)) (tgt := 86) rfl (fun c34 => ?_) (fun c34 => (by exfalso; omega))
          have hbh : bhC t0.toInt ze.2 := fun c9 h9 => by rw [List.getElem?_eq_none (by omega)] at h9; cases h9
          have hBz : hB zi.toInt t0.toInt o0.toInt L Z ze := ⟨by omega, hze, by unfold oOK; omega, htok, hbh⟩
          refine lv_aload_n hx hb (eX12_change (86, .aload_n 0, 1) (List.mem_of_getElem? (i := 48) rfl)) rfl (lv_at hl33 1 rfl) ?_
          refine tz_get (r := 11) (k := 5) (t := (50, 0, 0)) hx hb hh26 ha rfl rfl (hcl11 19 5 (50, 0, 0) (by decide) rfl).1 fq5 (eX12_change (87, .getfield 19, 3) (List.mem_of_getElem? (i := 49) rfl)) ?_
          refine lv_iload_n hx hb (eX12_change (90, .iload_n 1, 1) (List.mem_of_getElem? (i := 50) rfl)) rfl (lv_at hl33 2 rfl) ?_
          refine tz_iald hx hb (zAr hKn.1 0 (by decide)) cq5 (by omega) (by omega) (eX12_change (91, .iaload, 1) (List.mem_of_getElem? (i := 51) rfl)) ?_
          rw [show zi.toNatClampNeg = zi.toInt.toNat from rfl, hq5]
          refine ff_bipush hx hb (eX12_change (92, .bipush 60, 2) (List.mem_of_getElem? (i := 52) rfl)) (by decide) (by decide) (fun v35 e35 => ?_)
          refine ff_icmp_ne hx hb (eX12_change (94, .if_icmp .ne 7, 3) (List.mem_of_getElem? (i := 53) rfl)) (tgt := 101) rfl (fun c36 => ?_) (fun c36 => ?_)
          · skip
            refine ff_iconst hx hb (eX12_change (101, .iconst 0, 1) (List.mem_of_getElem? (i := 56) rfl)) (by decide) (by decide) (fun v37 e37 => ?_)
            refine tz_put (r := 11) (k := 0) (t := (0, 0, 2)) hx hb hD hh26 ha rfl rfl ((hcl11 85 0 (0, 0, 2) (by decide) rfl).2 (by decide)) (tz_i (by omega) (by omega)) (eX12_change (102, .putfield 85, 3) (List.mem_of_getElem? (i := 57) rfl)) (fun H38 lo38 hh38 hf38 hk38 _ hq38 => ?_)
            have mf38_a_2 := (hk38.1 a 11 2 11 0 fsX12 ha rfl (by decide) (by decide)).trans fq2
            have mf38_a_1 := (hk38.1 a 11 1 11 0 fsX12 ha rfl (by decide) (by decide)).trans fq1
            have mf38_a_3 := (hk38.1 a 11 3 11 0 fsX12 ha rfl (by decide) (by decide)).trans fq3
            have mf38_a_4 := (hk38.1 a 11 4 11 0 fsX12 ha rfl (by decide) (by decide)).trans fq4
            have mf38_a_5 := (hk38.1 a 11 5 11 0 fsX12 ha rfl (by decide) (by decide)).trans fq5
            have mf38_a_6 := (hk38.1 a 11 6 11 0 fsX12 ha rfl (by decide) (by decide)).trans fq6
            have mf38_a_7 := (hk38.1 a 11 7 11 0 fsX12 ha rfl (by decide) (by decide)).trans fq7
            have mc38_la := (hk38.2 la 21 0 1 40 _ r0 rfl (by decide)).trans hc
            have mc38_a4 := (hk38.2 a4 22 0 0 8 _ rq4 rfl (by decide)).trans cq4
            have mc38_a5 := (hk38.2 a5 23 0 0 8 _ rq5 rfl (by decide)).trans cq5
            have mc38_a6 := (hk38.2 a6 24 0 1 480 _ rq6 rfl (by decide)).trans cq6
            have mc38_a7 := (hk38.2 a7 25 0 0 480 _ rq7 rfl (by decide)).trans cq7
            have kp38 := kp0.trans (hk38.mono (ms' := zMr) (fun x hx => by cases List.mem_singleton.mp hx; decide))
            refine lv_aload_n hx hb (eX12_change (105, .aload_n 0, 1) (List.mem_of_getElem? (i := 58) rfl)) rfl (lv_at hl33 1 rfl) ?_
            refine tz_get (r := 11) (k := 0) (t := (0, 0, 2)) hx hb hh38 ha rfl rfl (hcl11 85 0 (0, 0, 2) (by decide) rfl).1 hf38 (eX12_change (106, .getfield 85, 3) (List.mem_of_getElem? (i := 59) rfl)) ?_
            refine ff_if_le hx hb (eX12_change (109, .ifCond .le 5, 3) (List.mem_of_getElem? (i := 60) rfl)) (tgt := 114) rfl (fun c39 => ?_) (fun c39 => (by exfalso; omega))
            refine lv_aload_n hx hb (eX12_change (114, .aload_n 0, 1) (List.mem_of_getElem? (i := 63) rfl)) rfl (lv_at hl33 1 rfl) ?_
            refine tz_get (r := 11) (k := 6) (t := (52, 0, 0)) hx hb hh38 ha rfl rfl (hcl11 22 6 (52, 0, 0) (by decide) rfl).1 mf38_a_6 (eX12_change (115, .getfield 22, 3) (List.mem_of_getElem? (i := 64) rfl)) ?_
            refine ff_bipush hx hb (eX12_change (118, .bipush 60, 2) (List.mem_of_getElem? (i := 65) rfl)) (by decide) (by decide) (fun v40 e40 => ?_)
            refine lv_iload_n hx hb (eX12_change (120, .iload_n 1, 1) (List.mem_of_getElem? (i := 66) rfl)) rfl (lv_at hl33 2 rfl) ?_
            refine ff_imulL hx hb (eX12_change (121, .imul, 1) (List.mem_of_getElem? (i := 67) rfl)) (e40) (by omega) (by omega) (fun v41 e41 => ?_)
            refine lv_aload_n hx hb (eX12_change (122, .aload_n 0, 1) (List.mem_of_getElem? (i := 68) rfl)) rfl (lv_at hl33 1 rfl) ?_
            refine tz_get (r := 11) (k := 5) (t := (50, 0, 0)) hx hb hh38 ha rfl rfl (hcl11 19 5 (50, 0, 0) (by decide) rfl).1 mf38_a_5 (eX12_change (123, .getfield 19, 3) (List.mem_of_getElem? (i := 69) rfl)) ?_
            refine lv_iload_n hx hb (eX12_change (126, .iload_n 1, 1) (List.mem_of_getElem? (i := 70) rfl)) rfl (lv_at hl33 2 rfl) ?_
            refine tz_iald hx hb (zAr hKn.1 0 (by decide)) mc38_a5 (by omega) (by omega) (eX12_change (127, .iaload, 1) (List.mem_of_getElem? (i := 71) rfl)) ?_
            rw [show zi.toNatClampNeg = zi.toInt.toNat from rfl, hq5]
            refine ff_iadd hx hb (eX12_change (128, .iadd, 1) (List.mem_of_getElem? (i := 72) rfl)) (by omega) (by omega) (fun v42 e42 => ?_)
            refine lv_lload_n hx hb (eX12_change (129, .lload_n 2, 1) (List.mem_of_getElem? (i := 73) rfl)) rfl (lv_at hl33 3 rfl) ?_
            refine tz_last hx hb (zAr hKn.1 1 (by decide)) hh38 rq6 (show RTg[24]? = some (1, 1, 480, [(1, (-100000000000000), 100000000000000)]) from rfl) mc38_a6 hya6 (by omega) (by omega) (tz_l (by omega) (by omega)) (eX12_change (130, .lastore, 1) (List.mem_of_getElem? (i := 74) rfl)) (fun H43 lo43 hh43 hc43 hk43 hq43 _ => ?_)
            have mf43_a_2 := (hk43.1 a 11 2 11 0 fsX12 ha rfl (by decide) (by decide)).trans mf38_a_2
            have mf43_a_1 := (hk43.1 a 11 1 11 0 fsX12 ha rfl (by decide) (by decide)).trans mf38_a_1
            have mf43_a_3 := (hk43.1 a 11 3 11 0 fsX12 ha rfl (by decide) (by decide)).trans mf38_a_3
            have mf43_a_4 := (hk43.1 a 11 4 11 0 fsX12 ha rfl (by decide) (by decide)).trans mf38_a_4
            have mf43_a_5 := (hk43.1 a 11 5 11 0 fsX12 ha rfl (by decide) (by decide)).trans mf38_a_5
            have mf43_a_6 := (hk43.1 a 11 6 11 0 fsX12 ha rfl (by decide) (by decide)).trans mf38_a_6
            have mf43_a_7 := (hk43.1 a 11 7 11 0 fsX12 ha rfl (by decide) (by decide)).trans mf38_a_7
            have mf43_a_0 := (hk43.1 a 11 0 11 0 fsX12 ha rfl (by decide) (by decide)).trans hf38
            have mc43_la := (hk43.2 la 21 0 1 40 _ r0 rfl (by decide)).trans mc38_la
            have mc43_a4 := (hk43.2 a4 22 0 0 8 _ rq4 rfl (by decide)).trans mc38_a4
            have mc43_a5 := (hk43.2 a5 23 0 0 8 _ rq5 rfl (by decide)).trans mc38_a5
            have mc43_a7 := (hk43.2 a7 25 0 0 480 _ rq7 rfl (by decide)).trans mc38_a7
            have kp43 := kp38.trans (hk43.mono (ms' := zMr) (fun x hx => by cases List.mem_singleton.mp hx; decide))
            refine lv_aload_n hx hb (eX12_change (131, .aload_n 0, 1) (List.mem_of_getElem? (i := 75) rfl)) rfl (lv_at hl33 1 rfl) ?_
            refine tz_get (r := 11) (k := 7) (t := (54, 0, 0)) hx hb hh43 ha rfl rfl (hcl11 25 7 (54, 0, 0) (by decide) rfl).1 mf43_a_7 (eX12_change (132, .getfield 25, 3) (List.mem_of_getElem? (i := 76) rfl)) ?_
            refine ff_bipush hx hb (eX12_change (135, .bipush 60, 2) (List.mem_of_getElem? (i := 77) rfl)) (by decide) (by decide) (fun v44 e44 => ?_)
            refine lv_iload_n hx hb (eX12_change (137, .iload_n 1, 1) (List.mem_of_getElem? (i := 78) rfl)) rfl (lv_at hl33 2 rfl) ?_
            refine ff_imulL hx hb (eX12_change (138, .imul, 1) (List.mem_of_getElem? (i := 79) rfl)) (e44) (by omega) (by omega) (fun v45 e45 => ?_)
            refine lv_aload_n hx hb (eX12_change (139, .aload_n 0, 1) (List.mem_of_getElem? (i := 80) rfl)) rfl (lv_at hl33 1 rfl) ?_
            refine tz_get (r := 11) (k := 5) (t := (50, 0, 0)) hx hb hh43 ha rfl rfl (hcl11 19 5 (50, 0, 0) (by decide) rfl).1 mf43_a_5 (eX12_change (140, .getfield 19, 3) (List.mem_of_getElem? (i := 81) rfl)) ?_
            refine lv_iload_n hx hb (eX12_change (143, .iload_n 1, 1) (List.mem_of_getElem? (i := 82) rfl)) rfl (lv_at hl33 2 rfl) ?_
            refine tz_iald hx hb (zAr hKn.1 0 (by decide)) mc43_a5 (by omega) (by omega) (eX12_change (144, .iaload, 1) (List.mem_of_getElem? (i := 83) rfl)) ?_
            rw [show zi.toNatClampNeg = zi.toInt.toNat from rfl, hq5]
            refine ff_iadd hx hb (eX12_change (145, .iadd, 1) (List.mem_of_getElem? (i := 84) rfl)) (by omega) (by omega) (fun v46 e46 => ?_)
            refine lv_iload hx hb (eX12_change (146, .iload 4, 2) (List.mem_of_getElem? (i := 85) rfl)) (lv_at hl33 4 rfl) ?_
            refine tz_iast hx hb (zAr hKn.1 0 (by decide)) hh43 rq7 (show RTg[25]? = some (1, 0, 480, [(0, (-1439), 1439)]) from rfl) mc43_a7 hya7 (by omega) (by omega) (tz_i (by omega) (by omega)) (eX12_change (148, .iastore, 1) (List.mem_of_getElem? (i := 86) rfl)) (fun H47 lo47 hh47 hc47 hk47 hq47 _ => ?_)
            have mf47_a_2 := (hk47.1 a 11 2 11 0 fsX12 ha rfl (by decide) (by decide)).trans mf43_a_2
            have mf47_a_1 := (hk47.1 a 11 1 11 0 fsX12 ha rfl (by decide) (by decide)).trans mf43_a_1
            have mf47_a_3 := (hk47.1 a 11 3 11 0 fsX12 ha rfl (by decide) (by decide)).trans mf43_a_3
            have mf47_a_4 := (hk47.1 a 11 4 11 0 fsX12 ha rfl (by decide) (by decide)).trans mf43_a_4
            have mf47_a_5 := (hk47.1 a 11 5 11 0 fsX12 ha rfl (by decide) (by decide)).trans mf43_a_5
            have mf47_a_6 := (hk47.1 a 11 6 11 0 fsX12 ha rfl (by decide) (by decide)).trans mf43_a_6
            have mf47_a_7 := (hk47.1 a 11 7 11 0 fsX12 ha rfl (by decide) (by decide)).trans mf43_a_7
            have mf47_a_0 := (hk47.1 a 11 0 11 0 fsX12 ha rfl (by decide) (by decide)).trans mf43_a_0
            have mc47_la := (hk47.2 la 21 0 1 40 _ r0 rfl (by decide)).trans mc43_la
            have mc47_a4 := (hk47.2 a4 22 0 0 8 _ rq4 rfl (by decide)).trans mc43_a4
            have mc47_a5 := (hk47.2 a5 23 0 0 8 _ rq5 rfl (by decide)).trans mc43_a5
            have mc47_a6 := (hk47.2 a6 24 0 1 480 _ rq6 rfl (by decide)).trans hc43
            have kp47 := kp43.trans (hk47.mono (ms' := zMr) (fun x hx => by cases List.mem_singleton.mp hx; decide))
            refine lv_aload_n hx hb (eX12_change (149, .aload_n 0, 1) (List.mem_of_getElem? (i := 87) rfl)) rfl (lv_at hl33 1 rfl) ?_
            refine tz_get (r := 11) (k := 5) (t := (50, 0, 0)) hx hb hh47 ha rfl rfl (hcl11 19 5 (50, 0, 0) (by decide) rfl).1 mf47_a_5 (eX12_change (150, .getfield 19, 3) (List.mem_of_getElem? (i := 88) rfl)) ?_
            refine lv_iload_n hx hb (eX12_change (153, .iload_n 1, 1) (List.mem_of_getElem? (i := 89) rfl)) rfl (lv_at hl33 2 rfl) ?_
            refine lv_dup2_11 hx hb (eX12_change (154, .dup2, 1) (List.mem_of_getElem? (i := 90) rfl)) rfl rfl ?_
            refine tz_iald hx hb (zAr hKn.1 0 (by decide)) mc47_a5 (by omega) (by omega) (eX12_change (155, .iaload, 1) (List.mem_of_getElem? (i := 91) rfl)) ?_
            rw [show zi.toNatClampNeg = zi.toInt.toNat from rfl, hq5]
            refine ff_iconst hx hb (eX12_change (156, .iconst 1, 1) (List.mem_of_getElem? (i := 92) rfl)) (by decide) (by decide) (fun v48 e48 => ?_)
            refine ff_iadd hx hb (eX12_change (157, .iadd, 1) (List.mem_of_getElem? (i := 93) rfl)) (by omega) (by omega) (fun v49 e49 => ?_)
            refine tz_iast hx hb (zAr hKn.1 0 (by decide)) hh47 rq5 (show RTg[23]? = some (1, 0, 8, [(0, 0, 60)]) from rfl) mc47_a5 hya5 (by omega) (by omega) (tz_i (by omega) (by omega)) (eX12_change (158, .iastore, 1) (List.mem_of_getElem? (i := 94) rfl)) (fun H50 lo50 hh50 hc50 hk50 hq50 _ => ?_)
            have mf50_a_2 := (hk50.1 a 11 2 11 0 fsX12 ha rfl (by decide) (by decide)).trans mf47_a_2
            have mf50_a_1 := (hk50.1 a 11 1 11 0 fsX12 ha rfl (by decide) (by decide)).trans mf47_a_1
            have mf50_a_3 := (hk50.1 a 11 3 11 0 fsX12 ha rfl (by decide) (by decide)).trans mf47_a_3
            have mf50_a_4 := (hk50.1 a 11 4 11 0 fsX12 ha rfl (by decide) (by decide)).trans mf47_a_4
            have mf50_a_5 := (hk50.1 a 11 5 11 0 fsX12 ha rfl (by decide) (by decide)).trans mf47_a_5
            have mf50_a_6 := (hk50.1 a 11 6 11 0 fsX12 ha rfl (by decide) (by decide)).trans mf47_a_6
            have mf50_a_7 := (hk50.1 a 11 7 11 0 fsX12 ha rfl (by decide) (by decide)).trans mf47_a_7
            have mf50_a_0 := (hk50.1 a 11 0 11 0 fsX12 ha rfl (by decide) (by decide)).trans mf47_a_0
            have mc50_la := (hk50.2 la 21 0 1 40 _ r0 rfl (by decide)).trans mc47_la
            have mc50_a4 := (hk50.2 a4 22 0 0 8 _ rq4 rfl (by decide)).trans mc47_a4
            have mc50_a6 := (hk50.2 a6 24 0 1 480 _ rq6 rfl (by decide)).trans mc47_a6
            have mc50_a7 := (hk50.2 a7 25 0 0 480 _ rq7 rfl (by decide)).trans hc47
            have kp50 := kp47.trans (hk50.mono (ms' := zMr) (fun x hx => by cases List.mem_singleton.mp hx; decide))
            refine lv_aload_n hx hb (eX12_change (159, .aload_n 0, 1) (List.mem_of_getElem? (i := 95) rfl)) rfl (lv_at hl33 1 rfl) ?_
            refine tz_get (r := 11) (k := 5) (t := (50, 0, 0)) hx hb hh50 ha rfl rfl (hcl11 19 5 (50, 0, 0) (by decide) rfl).1 mf50_a_5 (eX12_change (160, .getfield 19, 3) (List.mem_of_getElem? (i := 96) rfl)) ?_
            refine lv_iload_n hx hb (eX12_change (163, .iload_n 1, 1) (List.mem_of_getElem? (i := 97) rfl)) rfl (lv_at hl33 2 rfl) ?_
            refine tz_iald hx hb (zAr hKn.1 0 (by decide)) hc50 (by omega) (by omega) (eX12_change (164, .iaload, 1) (List.mem_of_getElem? (i := 98) rfl)) ?_
            rw [show (updV zq5 zi.toNatClampNeg (.int v49)) zi.toNatClampNeg = .int v49 by simp [updV]]
            have ia6 := mc50_a6
            rw [show v42.toNatClampNeg = 60 * zi.toInt.toNat + ze.2.length by show v42.toInt.toNat = _; omega] at ia6
            have ia7 := mc50_a7
            rw [show v46.toNatClampNeg = 60 * zi.toInt.toNat + ze.2.length by show v46.toInt.toNat = _; omega] at ia7
            have hpp := jZp_set (n1 := v49) (o := o0) (t := t0) hzw hze (by omega) (by omega) hp
            exact W.zret hx hb hr rfl (fun t ht hW => ⟨_, _, _, L, _, rfl, ⟨_, rfl, rfl⟩, by rw [ht]; exact hh50.l0, by rw [ht]; exact kp50, by rw [ht]; exact mf50_a_0, by rw [ht]; exact ⟨⟨la, _, _, mf50_a_2, r0, mf50_a_1, hn, mc50_la, hz⟩, ⟨a4, a5, a6, a7, _, _, _, _, _, ⟨mf50_a_4, rq4, mc50_a4⟩, ⟨mf50_a_5, rq5, hc50⟩, ⟨mf50_a_6, rq6, ia6⟩, ⟨mf50_a_7, rq7, ia7⟩, mf50_a_3, (by rw [List.length_set]; exact hnz), hpp⟩, hjl, jZw_set hzw (by omega)⟩, rfl, Or.inr ⟨ze, hBz, Or.inr ⟨by omega, by omega, by omega, rfl⟩⟩⟩) hh50.2.2.1 (eX12_change (165, .ireturn, 1) (List.mem_of_getElem? (i := 99) rfl))
          · skip
            refine ff_iconst hx hb (eX12_change (97, .iconst 2, 1) (List.mem_of_getElem? (i := 54) rfl)) (by decide) (by decide) (fun v51 e51 => ?_)
            refine lv_goto hx hb (eX12_change (98, .goto 4, 3) (List.mem_of_getElem? (i := 55) rfl)) (tgt := 102) rfl ?_
            refine tz_put (r := 11) (k := 0) (t := (0, 0, 2)) hx hb hD hh26 ha rfl rfl ((hcl11 85 0 (0, 0, 2) (by decide) rfl).2 (by decide)) (tz_i (by omega) (by omega)) (eX12_change (102, .putfield 85, 3) (List.mem_of_getElem? (i := 57) rfl)) (fun H52 lo52 hh52 hf52 hk52 _ hq52 => ?_)
            have mf52_a_2 := (hk52.1 a 11 2 11 0 fsX12 ha rfl (by decide) (by decide)).trans fq2
            have mf52_a_1 := (hk52.1 a 11 1 11 0 fsX12 ha rfl (by decide) (by decide)).trans fq1
            have mf52_a_3 := (hk52.1 a 11 3 11 0 fsX12 ha rfl (by decide) (by decide)).trans fq3
            have mf52_a_4 := (hk52.1 a 11 4 11 0 fsX12 ha rfl (by decide) (by decide)).trans fq4
            have mf52_a_5 := (hk52.1 a 11 5 11 0 fsX12 ha rfl (by decide) (by decide)).trans fq5
            have mf52_a_6 := (hk52.1 a 11 6 11 0 fsX12 ha rfl (by decide) (by decide)).trans fq6
            have mf52_a_7 := (hk52.1 a 11 7 11 0 fsX12 ha rfl (by decide) (by decide)).trans fq7
            have mc52_la := (hk52.2 la 21 0 1 40 _ r0 rfl (by decide)).trans hc
            have mc52_a4 := (hk52.2 a4 22 0 0 8 _ rq4 rfl (by decide)).trans cq4
            have mc52_a5 := (hk52.2 a5 23 0 0 8 _ rq5 rfl (by decide)).trans cq5
            have mc52_a6 := (hk52.2 a6 24 0 1 480 _ rq6 rfl (by decide)).trans cq6
            have mc52_a7 := (hk52.2 a7 25 0 0 480 _ rq7 rfl (by decide)).trans cq7
            have kp52 := kp0.trans (hk52.mono (ms' := zMr) (fun x hx => by cases List.mem_singleton.mp hx; decide))
            refine lv_aload_n hx hb (eX12_change (105, .aload_n 0, 1) (List.mem_of_getElem? (i := 58) rfl)) rfl (lv_at hl33 1 rfl) ?_
            refine tz_get (r := 11) (k := 0) (t := (0, 0, 2)) hx hb hh52 ha rfl rfl (hcl11 85 0 (0, 0, 2) (by decide) rfl).1 hf52 (eX12_change (106, .getfield 85, 3) (List.mem_of_getElem? (i := 59) rfl)) ?_
            refine ff_if_le hx hb (eX12_change (109, .ifCond .le 5, 3) (List.mem_of_getElem? (i := 60) rfl)) (tgt := 114) rfl (fun c53 => (by exfalso; omega)) (fun c53 => ?_)
            refine ff_iconst hx hb (eX12_change (112, .iconst 0, 1) (List.mem_of_getElem? (i := 61) rfl)) (by decide) (by decide) (fun v54 e54 => ?_)
            exact W.zret hx hb hr rfl (fun t ht hW => ⟨_, _, _, L, Z, rfl, ⟨_, rfl, rfl⟩, by rw [ht]; exact hh52.l0, by rw [ht]; exact kp52, by rw [ht]; exact hf52, by rw [ht]; exact ⟨⟨la, _, _, mf52_a_2, r0, mf52_a_1, hn, mc52_la, hz⟩, ⟨a4, a5, a6, a7, _, _, _, _, _, ⟨mf52_a_4, rq4, mc52_a4⟩, ⟨mf52_a_5, rq5, mc52_a5⟩, ⟨mf52_a_6, rq6, mc52_a6⟩, ⟨mf52_a_7, rq7, mc52_a7⟩, mf52_a_3, hnz, hp⟩, hjl, hzw⟩, rfl, Or.inr ⟨ze, hBz, Or.inl ⟨by omega, rfl, by omega⟩⟩⟩) hh52.2.2.1 (eX12_change (113, .ireturn, 1) (List.mem_of_getElem? (i := 62) rfl))
        · skip
          refine lv_lload_n hx hb (eX12_change (46, .lload_n 2, 1) (List.mem_of_getElem? (i := 23) rfl)) rfl (lv_at hl29 3 rfl) ?_
          refine lv_aload_n hx hb (eX12_change (47, .aload_n 0, 1) (List.mem_of_getElem? (i := 24) rfl)) rfl (lv_at hl29 1 rfl) ?_
          refine tz_get (r := 11) (k := 6) (t := (52, 0, 0)) hx hb hh26 ha rfl rfl (hcl11 22 6 (52, 0, 0) (by decide) rfl).1 fq6 (eX12_change (48, .getfield 22, 3) (List.mem_of_getElem? (i := 25) rfl)) ?_
          refine ff_bipush hx hb (eX12_change (51, .bipush 60, 2) (List.mem_of_getElem? (i := 26) rfl)) (by decide) (by decide) (fun v55 e55 => ?_)
          refine lv_iload_n hx hb (eX12_change (53, .iload_n 1, 1) (List.mem_of_getElem? (i := 27) rfl)) rfl (lv_at hl29 2 rfl) ?_
          refine ff_imulL hx hb (eX12_change (54, .imul, 1) (List.mem_of_getElem? (i := 28) rfl)) (e55) (by omega) (by omega) (fun v56 e56 => ?_)
          refine lv_aload_n hx hb (eX12_change (55, .aload_n 0, 1) (List.mem_of_getElem? (i := 29) rfl)) rfl (lv_at hl29 1 rfl) ?_
          refine tz_get (r := 11) (k := 5) (t := (50, 0, 0)) hx hb hh26 ha rfl rfl (hcl11 19 5 (50, 0, 0) (by decide) rfl).1 fq5 (eX12_change (56, .getfield 19, 3) (List.mem_of_getElem? (i := 30) rfl)) ?_
          refine lv_iload_n hx hb (eX12_change (59, .iload_n 1, 1) (List.mem_of_getElem? (i := 31) rfl)) rfl (lv_at hl29 2 rfl) ?_
          refine tz_iald hx hb (zAr hKn.1 0 (by decide)) cq5 (by omega) (by omega) (eX12_change (60, .iaload, 1) (List.mem_of_getElem? (i := 32) rfl)) ?_
          rw [show zi.toNatClampNeg = zi.toInt.toNat from rfl, hq5]
          refine ff_iadd hx hb (eX12_change (61, .iadd, 1) (List.mem_of_getElem? (i := 33) rfl)) (by omega) (by omega) (fun v57 e57 => ?_)
          refine ff_iconst hx hb (eX12_change (62, .iconst 1, 1) (List.mem_of_getElem? (i := 34) rfl)) (by decide) (by decide) (fun v58 e58 => ?_)
          refine ff_isub hx hb (eX12_change (63, .isub, 1) (List.mem_of_getElem? (i := 35) rfl)) (by omega) (by omega) (fun v59 e59 => ?_)
          refine tz_lald hx hb (zAr hKn.1 1 (by decide)) cq6 (by omega) (by omega) (eX12_change (64, .laload, 1) (List.mem_of_getElem? (i := 36) rfl)) ?_
          obtain ⟨tv, ov, hy1, -, hC1⟩ := hcN (ze.2.length - 1) (by omega)
          have hy2 : zq6 (60 * zi.toInt.toNat + (ze.2.length - 1)) = .long tv := hy1
          rw [show v59.toNatClampNeg = 60 * zi.toInt.toNat + (ze.2.length - 1) by show v59.toInt.toNat = _; omega, hy2]
          refine ff_lcmp hx hb (eX12_change (65, .lcmp, 1) (List.mem_of_getElem? (i := 37) rfl)) (fun v61 e61 => ?_)
          refine ff_if_gt hx hb (eX12_change (66, .ifCond .gt 7, 3) (List.mem_of_getElem? (i := 38) rfl)) (tgt := 73) rfl (fun c62 => ?_) (fun c62 => ?_)
          · skip
            refine ff_iconst hx hb (eX12_change (73, .iconst 0, 1) (List.mem_of_getElem? (i := 41) rfl)) (by decide) (by decide) (fun v63 e63 => ?_)
            refine lv_istore hx hb (eX12_change (74, .istore 5, 2) (List.mem_of_getElem? (i := 42) rfl)) hl29 (by decide) rfl (fun ls64 hl64 => ?_)
            refine lv_aload_n hx hb (eX12_change (76, .aload_n 0, 1) (List.mem_of_getElem? (i := 43) rfl)) rfl (lv_at hl64 1 rfl) ?_
            refine lv_iload hx hb (eX12_change (77, .iload 5, 2) (List.mem_of_getElem? (i := 44) rfl)) (lv_at hl64 0 rfl) ?_
            refine ff_if_eq hx hb (eX12_change (79, .ifCond .eq 7, 3) (List.mem_of_getElem? (i := 45) rfl)) (tgt := 86) rfl (fun c65 => ?_) (fun c65 => (by exfalso; omega))
            have hbh : bhC t0.toInt ze.2 := fun c9 h9 => by cases hC1.symm.trans h9; show tv.toInt < t0.toInt; omega
            have hBz : hB zi.toInt t0.toInt o0.toInt L Z ze := ⟨by omega, hze, by unfold oOK; omega, htok, hbh⟩
            refine lv_aload_n hx hb (eX12_change (86, .aload_n 0, 1) (List.mem_of_getElem? (i := 48) rfl)) rfl (lv_at hl64 1 rfl) ?_
            refine tz_get (r := 11) (k := 5) (t := (50, 0, 0)) hx hb hh26 ha rfl rfl (hcl11 19 5 (50, 0, 0) (by decide) rfl).1 fq5 (eX12_change (87, .getfield 19, 3) (List.mem_of_getElem? (i := 49) rfl)) ?_
            refine lv_iload_n hx hb (eX12_change (90, .iload_n 1, 1) (List.mem_of_getElem? (i := 50) rfl)) rfl (lv_at hl64 2 rfl) ?_
            refine tz_iald hx hb (zAr hKn.1 0 (by decide)) cq5 (by omega) (by omega) (eX12_change (91, .iaload, 1) (List.mem_of_getElem? (i := 51) rfl)) ?_
            rw [show zi.toNatClampNeg = zi.toInt.toNat from rfl, hq5]
            refine ff_bipush hx hb (eX12_change (92, .bipush 60, 2) (List.mem_of_getElem? (i := 52) rfl)) (by decide) (by decide) (fun v66 e66 => ?_)
            refine ff_icmp_ne hx hb (eX12_change (94, .if_icmp .ne 7, 3) (List.mem_of_getElem? (i := 53) rfl)) (tgt := 101) rfl (fun c67 => ?_) (fun c67 => ?_)
            · skip
              refine ff_iconst hx hb (eX12_change (101, .iconst 0, 1) (List.mem_of_getElem? (i := 56) rfl)) (by decide) (by decide) (fun v68 e68 => ?_)
              refine tz_put (r := 11) (k := 0) (t := (0, 0, 2)) hx hb hD hh26 ha rfl rfl ((hcl11 85 0 (0, 0, 2) (by decide) rfl).2 (by decide)) (tz_i (by omega) (by omega)) (eX12_change (102, .putfield 85, 3) (List.mem_of_getElem? (i := 57) rfl)) (fun H69 lo69 hh69 hf69 hk69 _ hq69 => ?_)
              have mf69_a_2 := (hk69.1 a 11 2 11 0 fsX12 ha rfl (by decide) (by decide)).trans fq2
              have mf69_a_1 := (hk69.1 a 11 1 11 0 fsX12 ha rfl (by decide) (by decide)).trans fq1
              have mf69_a_3 := (hk69.1 a 11 3 11 0 fsX12 ha rfl (by decide) (by decide)).trans fq3
              have mf69_a_4 := (hk69.1 a 11 4 11 0 fsX12 ha rfl (by decide) (by decide)).trans fq4
              have mf69_a_5 := (hk69.1 a 11 5 11 0 fsX12 ha rfl (by decide) (by decide)).trans fq5
              have mf69_a_6 := (hk69.1 a 11 6 11 0 fsX12 ha rfl (by decide) (by decide)).trans fq6
              have mf69_a_7 := (hk69.1 a 11 7 11 0 fsX12 ha rfl (by decide) (by decide)).trans fq7
              have mc69_la := (hk69.2 la 21 0 1 40 _ r0 rfl (by decide)).trans hc
              have mc69_a4 := (hk69.2 a4 22 0 0 8 _ rq4 rfl (by decide)).trans cq4
              have mc69_a5 := (hk69.2 a5 23 0 0 8 _ rq5 rfl (by decide)).trans cq5
              have mc69_a6 := (hk69.2 a6 24 0 1 480 _ rq6 rfl (by decide)).trans cq6
              have mc69_a7 := (hk69.2 a7 25 0 0 480 _ rq7 rfl (by decide)).trans cq7
              have kp69 := kp0.trans (hk69.mono (ms' := zMr) (fun x hx => by cases List.mem_singleton.mp hx; decide))
              refine lv_aload_n hx hb (eX12_change (105, .aload_n 0, 1) (List.mem_of_getElem? (i := 58) rfl)) rfl (lv_at hl64 1 rfl) ?_
              refine tz_get (r := 11) (k := 0) (t := (0, 0, 2)) hx hb hh69 ha rfl rfl (hcl11 85 0 (0, 0, 2) (by decide) rfl).1 hf69 (eX12_change (106, .getfield 85, 3) (List.mem_of_getElem? (i := 59) rfl)) ?_
              refine ff_if_le hx hb (eX12_change (109, .ifCond .le 5, 3) (List.mem_of_getElem? (i := 60) rfl)) (tgt := 114) rfl (fun c70 => ?_) (fun c70 => (by exfalso; omega))
              refine lv_aload_n hx hb (eX12_change (114, .aload_n 0, 1) (List.mem_of_getElem? (i := 63) rfl)) rfl (lv_at hl64 1 rfl) ?_
              refine tz_get (r := 11) (k := 6) (t := (52, 0, 0)) hx hb hh69 ha rfl rfl (hcl11 22 6 (52, 0, 0) (by decide) rfl).1 mf69_a_6 (eX12_change (115, .getfield 22, 3) (List.mem_of_getElem? (i := 64) rfl)) ?_
              refine ff_bipush hx hb (eX12_change (118, .bipush 60, 2) (List.mem_of_getElem? (i := 65) rfl)) (by decide) (by decide) (fun v71 e71 => ?_)
              refine lv_iload_n hx hb (eX12_change (120, .iload_n 1, 1) (List.mem_of_getElem? (i := 66) rfl)) rfl (lv_at hl64 2 rfl) ?_
              refine ff_imulL hx hb (eX12_change (121, .imul, 1) (List.mem_of_getElem? (i := 67) rfl)) (e71) (by omega) (by omega) (fun v72 e72 => ?_)
              refine lv_aload_n hx hb (eX12_change (122, .aload_n 0, 1) (List.mem_of_getElem? (i := 68) rfl)) rfl (lv_at hl64 1 rfl) ?_
              refine tz_get (r := 11) (k := 5) (t := (50, 0, 0)) hx hb hh69 ha rfl rfl (hcl11 19 5 (50, 0, 0) (by decide) rfl).1 mf69_a_5 (eX12_change (123, .getfield 19, 3) (List.mem_of_getElem? (i := 69) rfl)) ?_
              refine lv_iload_n hx hb (eX12_change (126, .iload_n 1, 1) (List.mem_of_getElem? (i := 70) rfl)) rfl (lv_at hl64 2 rfl) ?_
              refine tz_iald hx hb (zAr hKn.1 0 (by decide)) mc69_a5 (by omega) (by omega) (eX12_change (127, .iaload, 1) (List.mem_of_getElem? (i := 71) rfl)) ?_
              rw [show zi.toNatClampNeg = zi.toInt.toNat from rfl, hq5]
              refine ff_iadd hx hb (eX12_change (128, .iadd, 1) (List.mem_of_getElem? (i := 72) rfl)) (by omega) (by omega) (fun v73 e73 => ?_)
              refine lv_lload_n hx hb (eX12_change (129, .lload_n 2, 1) (List.mem_of_getElem? (i := 73) rfl)) rfl (lv_at hl64 3 rfl) ?_
              refine tz_last hx hb (zAr hKn.1 1 (by decide)) hh69 rq6 (show RTg[24]? = some (1, 1, 480, [(1, (-100000000000000), 100000000000000)]) from rfl) mc69_a6 hya6 (by omega) (by omega) (tz_l (by omega) (by omega)) (eX12_change (130, .lastore, 1) (List.mem_of_getElem? (i := 74) rfl)) (fun H74 lo74 hh74 hc74 hk74 hq74 _ => ?_)
              have mf74_a_2 := (hk74.1 a 11 2 11 0 fsX12 ha rfl (by decide) (by decide)).trans mf69_a_2
              have mf74_a_1 := (hk74.1 a 11 1 11 0 fsX12 ha rfl (by decide) (by decide)).trans mf69_a_1
              have mf74_a_3 := (hk74.1 a 11 3 11 0 fsX12 ha rfl (by decide) (by decide)).trans mf69_a_3
              have mf74_a_4 := (hk74.1 a 11 4 11 0 fsX12 ha rfl (by decide) (by decide)).trans mf69_a_4
              have mf74_a_5 := (hk74.1 a 11 5 11 0 fsX12 ha rfl (by decide) (by decide)).trans mf69_a_5
              have mf74_a_6 := (hk74.1 a 11 6 11 0 fsX12 ha rfl (by decide) (by decide)).trans mf69_a_6
              have mf74_a_7 := (hk74.1 a 11 7 11 0 fsX12 ha rfl (by decide) (by decide)).trans mf69_a_7
              have mf74_a_0 := (hk74.1 a 11 0 11 0 fsX12 ha rfl (by decide) (by decide)).trans hf69
              have mc74_la := (hk74.2 la 21 0 1 40 _ r0 rfl (by decide)).trans mc69_la
              have mc74_a4 := (hk74.2 a4 22 0 0 8 _ rq4 rfl (by decide)).trans mc69_a4
              have mc74_a5 := (hk74.2 a5 23 0 0 8 _ rq5 rfl (by decide)).trans mc69_a5
              have mc74_a7 := (hk74.2 a7 25 0 0 480 _ rq7 rfl (by decide)).trans mc69_a7
              have kp74 := kp69.trans (hk74.mono (ms' := zMr) (fun x hx => by cases List.mem_singleton.mp hx; decide))
              refine lv_aload_n hx hb (eX12_change (131, .aload_n 0, 1) (List.mem_of_getElem? (i := 75) rfl)) rfl (lv_at hl64 1 rfl) ?_
              refine tz_get (r := 11) (k := 7) (t := (54, 0, 0)) hx hb hh74 ha rfl rfl (hcl11 25 7 (54, 0, 0) (by decide) rfl).1 mf74_a_7 (eX12_change (132, .getfield 25, 3) (List.mem_of_getElem? (i := 76) rfl)) ?_
              refine ff_bipush hx hb (eX12_change (135, .bipush 60, 2) (List.mem_of_getElem? (i := 77) rfl)) (by decide) (by decide) (fun v75 e75 => ?_)
              refine lv_iload_n hx hb (eX12_change (137, .iload_n 1, 1) (List.mem_of_getElem? (i := 78) rfl)) rfl (lv_at hl64 2 rfl) ?_
              refine ff_imulL hx hb (eX12_change (138, .imul, 1) (List.mem_of_getElem? (i := 79) rfl)) (e75) (by omega) (by omega) (fun v76 e76 => ?_)
              refine lv_aload_n hx hb (eX12_change (139, .aload_n 0, 1) (List.mem_of_getElem? (i := 80) rfl)) rfl (lv_at hl64 1 rfl) ?_
              refine tz_get (r := 11) (k := 5) (t := (50, 0, 0)) hx hb hh74 ha rfl rfl (hcl11 19 5 (50, 0, 0) (by decide) rfl).1 mf74_a_5 (eX12_change (140, .getfield 19, 3) (List.mem_of_getElem? (i := 81) rfl)) ?_
              refine lv_iload_n hx hb (eX12_change (143, .iload_n 1, 1) (List.mem_of_getElem? (i := 82) rfl)) rfl (lv_at hl64 2 rfl) ?_
              refine tz_iald hx hb (zAr hKn.1 0 (by decide)) mc74_a5 (by omega) (by omega) (eX12_change (144, .iaload, 1) (List.mem_of_getElem? (i := 83) rfl)) ?_
              rw [show zi.toNatClampNeg = zi.toInt.toNat from rfl, hq5]
              refine ff_iadd hx hb (eX12_change (145, .iadd, 1) (List.mem_of_getElem? (i := 84) rfl)) (by omega) (by omega) (fun v77 e77 => ?_)
              refine lv_iload hx hb (eX12_change (146, .iload 4, 2) (List.mem_of_getElem? (i := 85) rfl)) (lv_at hl64 4 rfl) ?_
              refine tz_iast hx hb (zAr hKn.1 0 (by decide)) hh74 rq7 (show RTg[25]? = some (1, 0, 480, [(0, (-1439), 1439)]) from rfl) mc74_a7 hya7 (by omega) (by omega) (tz_i (by omega) (by omega)) (eX12_change (148, .iastore, 1) (List.mem_of_getElem? (i := 86) rfl)) (fun H78 lo78 hh78 hc78 hk78 hq78 _ => ?_)
              have mf78_a_2 := (hk78.1 a 11 2 11 0 fsX12 ha rfl (by decide) (by decide)).trans mf74_a_2
              have mf78_a_1 := (hk78.1 a 11 1 11 0 fsX12 ha rfl (by decide) (by decide)).trans mf74_a_1
              have mf78_a_3 := (hk78.1 a 11 3 11 0 fsX12 ha rfl (by decide) (by decide)).trans mf74_a_3
              have mf78_a_4 := (hk78.1 a 11 4 11 0 fsX12 ha rfl (by decide) (by decide)).trans mf74_a_4
              have mf78_a_5 := (hk78.1 a 11 5 11 0 fsX12 ha rfl (by decide) (by decide)).trans mf74_a_5
              have mf78_a_6 := (hk78.1 a 11 6 11 0 fsX12 ha rfl (by decide) (by decide)).trans mf74_a_6
              have mf78_a_7 := (hk78.1 a 11 7 11 0 fsX12 ha rfl (by decide) (by decide)).trans mf74_a_7
              have mf78_a_0 := (hk78.1 a 11 0 11 0 fsX12 ha rfl (by decide) (by decide)).trans mf74_a_0
              have mc78_la := (hk78.2 la 21 0 1 40 _ r0 rfl (by decide)).trans mc74_la
              have mc78_a4 := (hk78.2 a4 22 0 0 8 _ rq4 rfl (by decide)).trans mc74_a4
              have mc78_a5 := (hk78.2 a5 23 0 0 8 _ rq5 rfl (by decide)).trans mc74_a5
              have mc78_a6 := (hk78.2 a6 24 0 1 480 _ rq6 rfl (by decide)).trans hc74
              have kp78 := kp74.trans (hk78.mono (ms' := zMr) (fun x hx => by cases List.mem_singleton.mp hx; decide))
              refine lv_aload_n hx hb (eX12_change (149, .aload_n 0, 1) (List.mem_of_getElem? (i := 87) rfl)) rfl (lv_at hl64 1 rfl) ?_
              refine tz_get (r := 11) (k := 5) (t := (50, 0, 0)) hx hb hh78 ha rfl rfl (hcl11 19 5 (50, 0, 0) (by decide) rfl).1 mf78_a_5 (eX12_change (150, .getfield 19, 3) (List.mem_of_getElem? (i := 88) rfl)) ?_
              refine lv_iload_n hx hb (eX12_change (153, .iload_n 1, 1) (List.mem_of_getElem? (i := 89) rfl)) rfl (lv_at hl64 2 rfl) ?_
              refine lv_dup2_11 hx hb (eX12_change (154, .dup2, 1) (List.mem_of_getElem? (i := 90) rfl)) rfl rfl ?_
              refine tz_iald hx hb (zAr hKn.1 0 (by decide)) mc78_a5 (by omega) (by omega) (eX12_change (155, .iaload, 1) (List.mem_of_getElem? (i := 91) rfl)) ?_
              rw [show zi.toNatClampNeg = zi.toInt.toNat from rfl, hq5]
              refine ff_iconst hx hb (eX12_change (156, .iconst 1, 1) (List.mem_of_getElem? (i := 92) rfl)) (by decide) (by decide) (fun v79 e79 => ?_)
              refine ff_iadd hx hb (eX12_change (157, .iadd, 1) (List.mem_of_getElem? (i := 93) rfl)) (by omega) (by omega) (fun v80 e80 => ?_)
              refine tz_iast hx hb (zAr hKn.1 0 (by decide)) hh78 rq5 (show RTg[23]? = some (1, 0, 8, [(0, 0, 60)]) from rfl) mc78_a5 hya5 (by omega) (by omega) (tz_i (by omega) (by omega)) (eX12_change (158, .iastore, 1) (List.mem_of_getElem? (i := 94) rfl)) (fun H81 lo81 hh81 hc81 hk81 hq81 _ => ?_)
              have mf81_a_2 := (hk81.1 a 11 2 11 0 fsX12 ha rfl (by decide) (by decide)).trans mf78_a_2
              have mf81_a_1 := (hk81.1 a 11 1 11 0 fsX12 ha rfl (by decide) (by decide)).trans mf78_a_1
              have mf81_a_3 := (hk81.1 a 11 3 11 0 fsX12 ha rfl (by decide) (by decide)).trans mf78_a_3
              have mf81_a_4 := (hk81.1 a 11 4 11 0 fsX12 ha rfl (by decide) (by decide)).trans mf78_a_4
              have mf81_a_5 := (hk81.1 a 11 5 11 0 fsX12 ha rfl (by decide) (by decide)).trans mf78_a_5
              have mf81_a_6 := (hk81.1 a 11 6 11 0 fsX12 ha rfl (by decide) (by decide)).trans mf78_a_6
              have mf81_a_7 := (hk81.1 a 11 7 11 0 fsX12 ha rfl (by decide) (by decide)).trans mf78_a_7
              have mf81_a_0 := (hk81.1 a 11 0 11 0 fsX12 ha rfl (by decide) (by decide)).trans mf78_a_0
              have mc81_la := (hk81.2 la 21 0 1 40 _ r0 rfl (by decide)).trans mc78_la
              have mc81_a4 := (hk81.2 a4 22 0 0 8 _ rq4 rfl (by decide)).trans mc78_a4
              have mc81_a6 := (hk81.2 a6 24 0 1 480 _ rq6 rfl (by decide)).trans mc78_a6
              have mc81_a7 := (hk81.2 a7 25 0 0 480 _ rq7 rfl (by decide)).trans hc78
              have kp81 := kp78.trans (hk81.mono (ms' := zMr) (fun x hx => by cases List.mem_singleton.mp hx; decide))
              refine lv_aload_n hx hb (eX12_change (159, .aload_n 0, 1) (List.mem_of_getElem? (i := 95) rfl)) rfl (lv_at hl64 1 rfl) ?_
              refine tz_get (r := 11) (k := 5) (t := (50, 0, 0)) hx hb hh81 ha rfl rfl (hcl11 19 5 (50, 0, 0) (by decide) rfl).1 mf81_a_5 (eX12_change (160, .getfield 19, 3) (List.mem_of_getElem? (i := 96) rfl)) ?_
              refine lv_iload_n hx hb (eX12_change (163, .iload_n 1, 1) (List.mem_of_getElem? (i := 97) rfl)) rfl (lv_at hl64 2 rfl) ?_
              refine tz_iald hx hb (zAr hKn.1 0 (by decide)) hc81 (by omega) (by omega) (eX12_change (164, .iaload, 1) (List.mem_of_getElem? (i := 98) rfl)) ?_
              rw [show (updV zq5 zi.toNatClampNeg (.int v80)) zi.toNatClampNeg = .int v80 by simp [updV]]
              have ia6 := mc81_a6
              rw [show v73.toNatClampNeg = 60 * zi.toInt.toNat + ze.2.length by show v73.toInt.toNat = _; omega] at ia6
              have ia7 := mc81_a7
              rw [show v77.toNatClampNeg = 60 * zi.toInt.toNat + ze.2.length by show v77.toInt.toNat = _; omega] at ia7
              have hpp := jZp_set (n1 := v80) (o := o0) (t := t0) hzw hze (by omega) (by omega) hp
              exact W.zret hx hb hr rfl (fun t ht hW => ⟨_, _, _, L, _, rfl, ⟨_, rfl, rfl⟩, by rw [ht]; exact hh81.l0, by rw [ht]; exact kp81, by rw [ht]; exact mf81_a_0, by rw [ht]; exact ⟨⟨la, _, _, mf81_a_2, r0, mf81_a_1, hn, mc81_la, hz⟩, ⟨a4, a5, a6, a7, _, _, _, _, _, ⟨mf81_a_4, rq4, mc81_a4⟩, ⟨mf81_a_5, rq5, hc81⟩, ⟨mf81_a_6, rq6, ia6⟩, ⟨mf81_a_7, rq7, ia7⟩, mf81_a_3, (by rw [List.length_set]; exact hnz), hpp⟩, hjl, jZw_set hzw (by omega)⟩, rfl, Or.inr ⟨ze, hBz, Or.inr ⟨by omega, by omega, by omega, rfl⟩⟩⟩) hh81.2.2.1 (eX12_change (165, .ireturn, 1) (List.mem_of_getElem? (i := 99) rfl))
            · skip
              refine ff_iconst hx hb (eX12_change (97, .iconst 2, 1) (List.mem_of_getElem? (i := 54) rfl)) (by decide) (by decide) (fun v82 e82 => ?_)
              refine lv_goto hx hb (eX12_change (98, .goto 4, 3) (List.mem_of_getElem? (i := 55) rfl)) (tgt := 102) rfl ?_
              refine tz_put (r := 11) (k := 0) (t := (0, 0, 2)) hx hb hD hh26 ha rfl rfl ((hcl11 85 0 (0, 0, 2) (by decide) rfl).2 (by decide)) (tz_i (by omega) (by omega)) (eX12_change (102, .putfield 85, 3) (List.mem_of_getElem? (i := 57) rfl)) (fun H83 lo83 hh83 hf83 hk83 _ hq83 => ?_)
              have mf83_a_2 := (hk83.1 a 11 2 11 0 fsX12 ha rfl (by decide) (by decide)).trans fq2
              have mf83_a_1 := (hk83.1 a 11 1 11 0 fsX12 ha rfl (by decide) (by decide)).trans fq1
              have mf83_a_3 := (hk83.1 a 11 3 11 0 fsX12 ha rfl (by decide) (by decide)).trans fq3
              have mf83_a_4 := (hk83.1 a 11 4 11 0 fsX12 ha rfl (by decide) (by decide)).trans fq4
              have mf83_a_5 := (hk83.1 a 11 5 11 0 fsX12 ha rfl (by decide) (by decide)).trans fq5
              have mf83_a_6 := (hk83.1 a 11 6 11 0 fsX12 ha rfl (by decide) (by decide)).trans fq6
              have mf83_a_7 := (hk83.1 a 11 7 11 0 fsX12 ha rfl (by decide) (by decide)).trans fq7
              have mc83_la := (hk83.2 la 21 0 1 40 _ r0 rfl (by decide)).trans hc
              have mc83_a4 := (hk83.2 a4 22 0 0 8 _ rq4 rfl (by decide)).trans cq4
              have mc83_a5 := (hk83.2 a5 23 0 0 8 _ rq5 rfl (by decide)).trans cq5
              have mc83_a6 := (hk83.2 a6 24 0 1 480 _ rq6 rfl (by decide)).trans cq6
              have mc83_a7 := (hk83.2 a7 25 0 0 480 _ rq7 rfl (by decide)).trans cq7
              have kp83 := kp0.trans (hk83.mono (ms' := zMr) (fun x hx => by cases List.mem_singleton.mp hx; decide))
              refine lv_aload_n hx hb (eX12_change (105, .aload_n 0, 1) (List.mem_of_getElem? (i := 58) rfl)) rfl (lv_at hl64 1 rfl) ?_
              refine tz_get (r := 11) (k := 0) (t := (0, 0, 2)) hx hb hh83 ha rfl rfl (hcl11 85 0 (0, 0, 2) (by decide) rfl).1 hf83 (eX12_change (106, .getfield 85, 3) (List.mem_of_getElem? (i := 59) rfl)) ?_
              refine ff_if_le hx hb (eX12_change (109, .ifCond .le 5, 3) (List.mem_of_getElem? (i := 60) rfl)) (tgt := 114) rfl (fun c84 => (by exfalso; omega)) (fun c84 => ?_)
              refine ff_iconst hx hb (eX12_change (112, .iconst 0, 1) (List.mem_of_getElem? (i := 61) rfl)) (by decide) (by decide) (fun v85 e85 => ?_)
              exact W.zret hx hb hr rfl (fun t ht hW => ⟨_, _, _, L, Z, rfl, ⟨_, rfl, rfl⟩, by rw [ht]; exact hh83.l0, by rw [ht]; exact kp83, by rw [ht]; exact hf83, by rw [ht]; exact ⟨⟨la, _, _, mf83_a_2, r0, mf83_a_1, hn, mc83_la, hz⟩, ⟨a4, a5, a6, a7, _, _, _, _, _, ⟨mf83_a_4, rq4, mc83_a4⟩, ⟨mf83_a_5, rq5, mc83_a5⟩, ⟨mf83_a_6, rq6, mc83_a6⟩, ⟨mf83_a_7, rq7, mc83_a7⟩, mf83_a_3, hnz, hp⟩, hjl, hzw⟩, rfl, Or.inr ⟨ze, hBz, Or.inl ⟨by omega, rfl, by omega⟩⟩⟩) hh83.2.2.1 (eX12_change (113, .ireturn, 1) (List.mem_of_getElem? (i := 62) rfl))
          · skip
            refine ff_iconst hx hb (eX12_change (69, .iconst 1, 1) (List.mem_of_getElem? (i := 39) rfl)) (by decide) (by decide) (fun v86 e86 => ?_)
            refine lv_goto hx hb (eX12_change (70, .goto 4, 3) (List.mem_of_getElem? (i := 40) rfl)) (tgt := 74) rfl ?_
            refine lv_istore hx hb (eX12_change (74, .istore 5, 2) (List.mem_of_getElem? (i := 42) rfl)) hl29 (by decide) rfl (fun ls87 hl87 => ?_)
            refine lv_aload_n hx hb (eX12_change (76, .aload_n 0, 1) (List.mem_of_getElem? (i := 43) rfl)) rfl (lv_at hl87 1 rfl) ?_
            refine lv_iload hx hb (eX12_change (77, .iload 5, 2) (List.mem_of_getElem? (i := 44) rfl)) (lv_at hl87 0 rfl) ?_
            refine ff_if_eq hx hb (eX12_change (79, .ifCond .eq 7, 3) (List.mem_of_getElem? (i := 45) rfl)) (tgt := 86) rfl (fun c88 => (by exfalso; omega)) (fun c88 => ?_)
            refine ff_iconst hx hb (eX12_change (82, .iconst 1, 1) (List.mem_of_getElem? (i := 46) rfl)) (by decide) (by decide) (fun v89 e89 => ?_)
            refine lv_goto hx hb (eX12_change (83, .goto 19, 3) (List.mem_of_getElem? (i := 47) rfl)) (tgt := 102) rfl ?_
            refine tz_put (r := 11) (k := 0) (t := (0, 0, 2)) hx hb hD hh26 ha rfl rfl ((hcl11 85 0 (0, 0, 2) (by decide) rfl).2 (by decide)) (tz_i (by omega) (by omega)) (eX12_change (102, .putfield 85, 3) (List.mem_of_getElem? (i := 57) rfl)) (fun H90 lo90 hh90 hf90 hk90 _ hq90 => ?_)
            have mf90_a_2 := (hk90.1 a 11 2 11 0 fsX12 ha rfl (by decide) (by decide)).trans fq2
            have mf90_a_1 := (hk90.1 a 11 1 11 0 fsX12 ha rfl (by decide) (by decide)).trans fq1
            have mf90_a_3 := (hk90.1 a 11 3 11 0 fsX12 ha rfl (by decide) (by decide)).trans fq3
            have mf90_a_4 := (hk90.1 a 11 4 11 0 fsX12 ha rfl (by decide) (by decide)).trans fq4
            have mf90_a_5 := (hk90.1 a 11 5 11 0 fsX12 ha rfl (by decide) (by decide)).trans fq5
            have mf90_a_6 := (hk90.1 a 11 6 11 0 fsX12 ha rfl (by decide) (by decide)).trans fq6
            have mf90_a_7 := (hk90.1 a 11 7 11 0 fsX12 ha rfl (by decide) (by decide)).trans fq7
            have mc90_la := (hk90.2 la 21 0 1 40 _ r0 rfl (by decide)).trans hc
            have mc90_a4 := (hk90.2 a4 22 0 0 8 _ rq4 rfl (by decide)).trans cq4
            have mc90_a5 := (hk90.2 a5 23 0 0 8 _ rq5 rfl (by decide)).trans cq5
            have mc90_a6 := (hk90.2 a6 24 0 1 480 _ rq6 rfl (by decide)).trans cq6
            have mc90_a7 := (hk90.2 a7 25 0 0 480 _ rq7 rfl (by decide)).trans cq7
            have kp90 := kp0.trans (hk90.mono (ms' := zMr) (fun x hx => by cases List.mem_singleton.mp hx; decide))
            refine lv_aload_n hx hb (eX12_change (105, .aload_n 0, 1) (List.mem_of_getElem? (i := 58) rfl)) rfl (lv_at hl87 1 rfl) ?_
            refine tz_get (r := 11) (k := 0) (t := (0, 0, 2)) hx hb hh90 ha rfl rfl (hcl11 85 0 (0, 0, 2) (by decide) rfl).1 hf90 (eX12_change (106, .getfield 85, 3) (List.mem_of_getElem? (i := 59) rfl)) ?_
            refine ff_if_le hx hb (eX12_change (109, .ifCond .le 5, 3) (List.mem_of_getElem? (i := 60) rfl)) (tgt := 114) rfl (fun c91 => (by exfalso; omega)) (fun c91 => ?_)
            refine ff_iconst hx hb (eX12_change (112, .iconst 0, 1) (List.mem_of_getElem? (i := 61) rfl)) (by decide) (by decide) (fun v92 e92 => ?_)
            exact W.zret hx hb hr rfl (fun t ht hW => ⟨_, _, _, L, Z, rfl, ⟨_, rfl, rfl⟩, by rw [ht]; exact hh90.l0, by rw [ht]; exact kp90, by rw [ht]; exact hf90, by rw [ht]; exact ⟨⟨la, _, _, mf90_a_2, r0, mf90_a_1, hn, mc90_la, hz⟩, ⟨a4, a5, a6, a7, _, _, _, _, _, ⟨mf90_a_4, rq4, mc90_a4⟩, ⟨mf90_a_5, rq5, mc90_a5⟩, ⟨mf90_a_6, rq6, mc90_a6⟩, ⟨mf90_a_7, rq7, mc90_a7⟩, mf90_a_3, hnz, hp⟩, hjl, hzw⟩, rfl, Or.inl ⟨by omega, rfl, fun ⟨e9, g9⟩ => by cases hze.symm.trans g9.2.1; have g8 : tv.toInt < t0.toInt := g9.2.2.2.2 _ hC1; omega⟩⟩) hh90.2.2.1 (eX12_change (113, .ireturn, 1) (List.mem_of_getElem? (i := 62) rfl))
      · skip
        refine ff_iconst hx hb (eX12_change (25, .iconst 1, 1) (List.mem_of_getElem? (i := 12) rfl)) (by decide) (by decide) (fun v93 e93 => ?_)
        refine lv_goto hx hb (eX12_change (26, .goto 4, 3) (List.mem_of_getElem? (i := 13) rfl)) (tgt := 30) rfl ?_
        refine lv_istore hx hb (eX12_change (30, .istore 5, 2) (List.mem_of_getElem? (i := 15) rfl)) hl (by decide) rfl (fun ls94 hl94 => ?_)
        refine lv_iload hx hb (eX12_change (32, .iload 5, 2) (List.mem_of_getElem? (i := 16) rfl)) (lv_at hl94 0 rfl) ?_
        refine ff_if_ne hx hb (eX12_change (34, .ifCond .ne 35, 3) (List.mem_of_getElem? (i := 17) rfl)) (tgt := 69) rfl (fun c95 => ?_) (fun c95 => (by exfalso; omega))
        refine ff_iconst hx hb (eX12_change (69, .iconst 1, 1) (List.mem_of_getElem? (i := 39) rfl)) (by decide) (by decide) (fun v96 e96 => ?_)
        refine lv_goto hx hb (eX12_change (70, .goto 4, 3) (List.mem_of_getElem? (i := 40) rfl)) (tgt := 74) rfl ?_
        refine lv_istore hx hb (eX12_change (74, .istore 5, 2) (List.mem_of_getElem? (i := 42) rfl)) hl94 (by decide) rfl (fun ls97 hl97 => ?_)
        refine lv_aload_n hx hb (eX12_change (76, .aload_n 0, 1) (List.mem_of_getElem? (i := 43) rfl)) rfl (lv_at hl97 1 rfl) ?_
        refine lv_iload hx hb (eX12_change (77, .iload 5, 2) (List.mem_of_getElem? (i := 44) rfl)) (lv_at hl97 0 rfl) ?_
        refine ff_if_eq hx hb (eX12_change (79, .ifCond .eq 7, 3) (List.mem_of_getElem? (i := 45) rfl)) (tgt := 86) rfl (fun c98 => (by exfalso; omega)) (fun c98 => ?_)
        refine ff_iconst hx hb (eX12_change (82, .iconst 1, 1) (List.mem_of_getElem? (i := 46) rfl)) (by decide) (by decide) (fun v99 e99 => ?_)
        refine lv_goto hx hb (eX12_change (83, .goto 19, 3) (List.mem_of_getElem? (i := 47) rfl)) (tgt := 102) rfl ?_
        refine tz_put (r := 11) (k := 0) (t := (0, 0, 2)) hx hb hD hh26 ha rfl rfl ((hcl11 85 0 (0, 0, 2) (by decide) rfl).2 (by decide)) (tz_i (by omega) (by omega)) (eX12_change (102, .putfield 85, 3) (List.mem_of_getElem? (i := 57) rfl)) (fun H100 lo100 hh100 hf100 hk100 _ hq100 => ?_)
        have mf100_a_2 := (hk100.1 a 11 2 11 0 fsX12 ha rfl (by decide) (by decide)).trans fq2
        have mf100_a_1 := (hk100.1 a 11 1 11 0 fsX12 ha rfl (by decide) (by decide)).trans fq1
        have mf100_a_3 := (hk100.1 a 11 3 11 0 fsX12 ha rfl (by decide) (by decide)).trans fq3
        have mf100_a_4 := (hk100.1 a 11 4 11 0 fsX12 ha rfl (by decide) (by decide)).trans fq4
        have mf100_a_5 := (hk100.1 a 11 5 11 0 fsX12 ha rfl (by decide) (by decide)).trans fq5
        have mf100_a_6 := (hk100.1 a 11 6 11 0 fsX12 ha rfl (by decide) (by decide)).trans fq6
        have mf100_a_7 := (hk100.1 a 11 7 11 0 fsX12 ha rfl (by decide) (by decide)).trans fq7
        have mc100_la := (hk100.2 la 21 0 1 40 _ r0 rfl (by decide)).trans hc
        have mc100_a4 := (hk100.2 a4 22 0 0 8 _ rq4 rfl (by decide)).trans cq4
        have mc100_a5 := (hk100.2 a5 23 0 0 8 _ rq5 rfl (by decide)).trans cq5
        have mc100_a6 := (hk100.2 a6 24 0 1 480 _ rq6 rfl (by decide)).trans cq6
        have mc100_a7 := (hk100.2 a7 25 0 0 480 _ rq7 rfl (by decide)).trans cq7
        have kp100 := kp0.trans (hk100.mono (ms' := zMr) (fun x hx => by cases List.mem_singleton.mp hx; decide))
        refine lv_aload_n hx hb (eX12_change (105, .aload_n 0, 1) (List.mem_of_getElem? (i := 58) rfl)) rfl (lv_at hl97 1 rfl) ?_
        refine tz_get (r := 11) (k := 0) (t := (0, 0, 2)) hx hb hh100 ha rfl rfl (hcl11 85 0 (0, 0, 2) (by decide) rfl).1 hf100 (eX12_change (106, .getfield 85, 3) (List.mem_of_getElem? (i := 59) rfl)) ?_
        refine ff_if_le hx hb (eX12_change (109, .ifCond .le 5, 3) (List.mem_of_getElem? (i := 60) rfl)) (tgt := 114) rfl (fun c101 => (by exfalso; omega)) (fun c101 => ?_)
        refine ff_iconst hx hb (eX12_change (112, .iconst 0, 1) (List.mem_of_getElem? (i := 61) rfl)) (by decide) (by decide) (fun v102 e102 => ?_)
        exact W.zret hx hb hr rfl (fun t ht hW => ⟨_, _, _, L, Z, rfl, ⟨_, rfl, rfl⟩, by rw [ht]; exact hh100.l0, by rw [ht]; exact kp100, by rw [ht]; exact hf100, by rw [ht]; exact ⟨⟨la, _, _, mf100_a_2, r0, mf100_a_1, hn, mc100_la, hz⟩, ⟨a4, a5, a6, a7, _, _, _, _, _, ⟨mf100_a_4, rq4, mc100_a4⟩, ⟨mf100_a_5, rq5, mc100_a5⟩, ⟨mf100_a_6, rq6, mc100_a6⟩, ⟨mf100_a_7, rq7, mc100_a7⟩, mf100_a_3, hnz, hp⟩, hjl, hzw⟩, rfl, Or.inl ⟨by omega, rfl, fun ⟨e9, g9⟩ => by rcases e26 with h | h; exfalso; omega; exact h.2 g9.2.2.2.1⟩⟩) hh100.2.2.1 (eX12_change (113, .ireturn, 1) (List.mem_of_getElem? (i := 62) rfl))
