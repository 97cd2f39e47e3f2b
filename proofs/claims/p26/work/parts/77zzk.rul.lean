def jDf (D : va_G) (cA : Nat → ClassId) (ro : Nat → Option Nat) (H : Heap) (a : Nat) (zd : Nat → Value) : Prop := ∃ ad : Nat, zh_f D H a 11 32 = .ref ad ∧ ro ad = some 35 ∧ H[ad]? = some (arrV (cA 0) 10 zd)
theorem jDf.kept {D : va_G} {cA : Nat → ClassId} {ro : Nat → Option Nat} {H H' : Heap} {ms : List (Nat × Nat)} {a : Nat} {zd : Nat → Value} (ha : ro a = some 11) (h : zc_kept D RTg ro ms H H') (hm : ∀ y ∈ [(11, 32), (35, 0)], y ∉ ms) (j : jDf D cA ro H a zd) : jDf D cA ro H' a zd := by
  obtain ⟨ad, j1, j2, j3⟩ := j
  exact ⟨ad, (h.1 a 11 32 11 0 fsX12 ha rfl (by decide) (hm _ (by decide))).trans j1, j2, (h.2 ad 35 0 0 10 _ j2 rfl (hm _ (by decide))).trans j3⟩
theorem jDf_any {D : va_G} {cA : Nat → ClassId} {ro : Nat → Option Nat} {sz : Nat} {H0 H : Heap} {locs : List Loc} {a : Nat} (hh : zh_ok D cA RTg ro sz H0 H locs) (ha : ro a = some 11) : ∃ zd : Nat → Value, jDf D cA ro H a zd := by
  obtain ⟨ad, f, r⟩ := tz_ref (k := 32) (rr := 35) hh ha (show RTg[11]? = some (0, 11, 0, fsX12) from rfl) rfl
  obtain ⟨-, z, c, -⟩ := zh_arr hh r (show RTg[35]? = some (1, 0, 10, [(0, (-1000000), 1000000)]) from rfl)
  exact ⟨z, ad, f, r, c⟩
set_option maxRecDepth 100000 in
set_option maxHeartbeats 4000000 in
theorem hX12_ruleDateY (l : Launch) (D : va_G) (cA : Nat → ClassId) (ro : Nat → Option Nat) (sz : Nat) (H0 : Heap) (a : Nat) (kk : Int32) (kn : Nat) (T : List Int) (sg : uS) (zd : Nat → Value) (ha : ro a = some 11) (hkn : kk.toInt = (kn : Int)) (hq2 : kn ≤ 5) : Met l yX12_ruleDate (gW yX12_ruleDate cX12_ruleDate 2 none) { frames := 3, cells := 0, slots := 0, locals := 69 } (zs_P D cA ro sz H0 (fun H => jV D cA ro H a T sg ∧ jDf D cA ro H a zd) [.ref a, .int kk]) (fun _ st oc t => oc = .returned none ∧ zh_ok D cA RTg ro sz H0 t.heap [] ∧ zc_kept D RTg ro eM st.heap t.heap ∧ jV D cA ro t.heap a T (dateG T sg).2 ∧ ∃ zd9 : Nat → Value, jDf D cA ro t.heap a zd9 ∧ dN zd9 kn (dateG T sg).1 ∧ ∀ i, (i < kn ∨ kn + 5 ≤ i) → zd9 i = zd i) 0 0 (zy_fr sz) := by
  refine zy_ofW (cc := cX12_ruleDate) (maxL := 2) (ret := none) (by decide +kernel) rfl ?_
  intro p e s m args below meth c s1 B hml hv
  obtain ⟨rfl, hh, hKn, hJ⟩ := hv
  have hx := B.exec
  have hb := B.bytes
  have hr := B.returns
  have hlk := B.notSynchronized
  have hts0 := atoms_spec (ws := gW yX12_ruleDate cX12_ruleDate 2 none) B.pre
  have h2 : ∀ w ∈ gT, w.before ([.ref a, .int kk] : List Value).toArray s = true := fun w hw => hts0 w (List.mem_cons_of_mem _ hw)
  have hown : s.vm.findClass RX12 = some m.cls := findClass_of_methodNamed B.named
  have hl := lv_entry [.ref a, .int kk] (n := 2) (Nat.le_of_ble_eq_true rfl)
  rw [lg_entry_eq]
  generalize (lg_sl [.ref a, .int kk] ++ List.replicate (2 - (lg_sl [.ref a, .int kk]).length) Slot.unset).toArray = ls at hl ⊢
  have b_kk := zn_i32 kk
  have hD := zD_all h2 hKn.1
  have hcl11 := fun (idx k : Nat) (t : zt_T) (h : (idx, 11, k) ∈ gfX12) (hk : fsX12[k]? = some t) => zf_clause (ro := ro) (ms := eM) h2 hown hKn.1 gfX12_ok (by decide +kernel) idx 11 k 11 0 fsX12 t h rfl hk
  have kp0 : zc_kept D RTg ro eM s.heap s.heap := zc_kept.refl
  obtain ⟨hJ, ad, fqd, rad, cqd⟩ := hJ
  obtain ⟨hjt, ⟨av, fv, bv, f29, f30, f31, hav, hfv, hbv⟩, hu⟩ := id hJ
  obtain ⟨tb, n, z, f12, r0, f13, hn, hc, hz⟩ := id hjt
  obtain ⟨n9, g9, n1, n2⟩ := zh_fT (k := 13) (t := (0, 0, 120)) hh ha (show RTg[11]? = some (0, 11, 0, fsX12) from rfl) rfl
  cases f13.symm.trans g9
  dsimp only at n1 n2
  clear g9
  obtain ⟨-, z9, c9, hy9⟩ := zh_arr hh r0 (show RTg[30]? = some (1, 2, 120, [(0, (-128), 127)]) from rfl)
  have hy : ∀ i, i < 120 → zt_ok ro (z i) (0, (-128), 127) := zs_arr (hc.symm.trans c9) hy9
  obtain ⟨u1, u2, u3, u4⟩ := id hu
  refine lv_aload_n hx hb (eX12_ruleDate (0, .aload_n 0, 1) (List.mem_of_getElem? (i := 0) rfl)) rfl (lv_at hl 0 rfl) ?_
  refine tz_get (r := 11) (k := 32) (t := (74, 0, 0)) hx hb hh ha rfl rfl (hcl11 56 32 (74, 0, 0) (by decide) rfl).1 fqd (eX12_ruleDate (1, .getfield 56, 3) (List.mem_of_getElem? (i := 1) rfl)) ?_
  refine lv_iload_n hx hb (eX12_ruleDate (4, .iload_n 1, 1) (List.mem_of_getElem? (i := 2) rfl)) rfl (lv_at hl 1 rfl) ?_
  refine ff_iconst hx hb (eX12_ruleDate (5, .iconst 2, 1) (List.mem_of_getElem? (i := 3) rfl)) (by decide) (by decide) (fun v1 e1 => ?_)
  refine ff_iadd hx hb (eX12_ruleDate (6, .iadd, 1) (List.mem_of_getElem? (i := 4) rfl)) (by omega) (by omega) (fun v2 e2 => ?_)
  refine ff_iconst hx hb (eX12_ruleDate (7, .iconst 0, 1) (List.mem_of_getElem? (i := 5) rfl)) (by decide) (by decide) (fun v3 e3 => ?_)
  obtain ⟨-, zz4, hcc4, hyy4⟩ := zh_arr hh rad (show RTg[35]? = some (1, 0, 10, [(0, (-1000000), 1000000)]) from rfl)
  refine tz_iast hx hb (zAr hKn.1 0 (by decide)) hh rad (show RTg[35]? = some (1, 0, 10, [(0, (-1000000), 1000000)]) from rfl) cqd (zs_arr (cqd.symm.trans hcc4) hyy4) (by omega) (by omega) (tz_i (by omega) (by omega)) (eX12_ruleDate (8, .iastore, 1) (List.mem_of_getElem? (i := 6) rfl)) (fun H4 lo4 hh4 hc4 hk4 hq4 _ => ?_)
  rw [show v2.toNatClampNeg = kn + 2 by show v2.toInt.toNat = _; omega] at hc4
  have mf4_a_12 := (hk4.1 a 11 12 11 0 fsX12 ha rfl (by decide) (by decide)).trans f12
  have mf4_a_13 := (hk4.1 a 11 13 11 0 fsX12 ha rfl (by decide) (by decide)).trans f13
  have mf4_a_29 := (hk4.1 a 11 29 11 0 fsX12 ha rfl (by decide) (by decide)).trans f29
  have mf4_a_30 := (hk4.1 a 11 30 11 0 fsX12 ha rfl (by decide) (by decide)).trans f30
  have mf4_a_31 := (hk4.1 a 11 31 11 0 fsX12 ha rfl (by decide) (by decide)).trans f31
  have mf4_a_32 := (hk4.1 a 11 32 11 0 fsX12 ha rfl (by decide) (by decide)).trans fqd
  have kp4 := kp0.trans (hk4.mono (ms' := eM) (fun x hx => by cases List.mem_singleton.mp hx; decide))
  have jm4 := (hJ).kept ha hk4 (by decide)
  refine lv_aload_n hx hb (eX12_ruleDate (9, .aload_n 0, 1) (List.mem_of_getElem? (i := 7) rfl)) rfl (lv_at hl 0 rfl) ?_
  refine tz_get (r := 11) (k := 32) (t := (74, 0, 0)) hx hb hh4 ha rfl rfl (hcl11 56 32 (74, 0, 0) (by decide) rfl).1 mf4_a_32 (eX12_ruleDate (10, .getfield 56, 3) (List.mem_of_getElem? (i := 8) rfl)) ?_
  refine lv_iload_n hx hb (eX12_ruleDate (13, .iload_n 1, 1) (List.mem_of_getElem? (i := 9) rfl)) rfl (lv_at hl 1 rfl) ?_
  refine ff_iconst hx hb (eX12_ruleDate (14, .iconst 3, 1) (List.mem_of_getElem? (i := 10) rfl)) (by decide) (by decide) (fun v5 e5 => ?_)
  refine ff_iadd hx hb (eX12_ruleDate (15, .iadd, 1) (List.mem_of_getElem? (i := 11) rfl)) (by omega) (by omega) (fun v6 e6 => ?_)
  refine ff_iconst hx hb (eX12_ruleDate (16, .iconst 0, 1) (List.mem_of_getElem? (i := 12) rfl)) (by decide) (by decide) (fun v7 e7 => ?_)
  obtain ⟨-, zz8, hcc8, hyy8⟩ := zh_arr hh4 rad (show RTg[35]? = some (1, 0, 10, [(0, (-1000000), 1000000)]) from rfl)
  refine tz_iast hx hb (zAr hKn.1 0 (by decide)) hh4 rad (show RTg[35]? = some (1, 0, 10, [(0, (-1000000), 1000000)]) from rfl) hc4 (zs_arr (hc4.symm.trans hcc8) hyy8) (by omega) (by omega) (tz_i (by omega) (by omega)) (eX12_ruleDate (17, .iastore, 1) (List.mem_of_getElem? (i := 13) rfl)) (fun H8 lo8 hh8 hc8 hk8 hq8 _ => ?_)
  rw [show v6.toNatClampNeg = kn + 3 by show v6.toInt.toNat = _; omega] at hc8
  have mf8_a_12 := (hk8.1 a 11 12 11 0 fsX12 ha rfl (by decide) (by decide)).trans mf4_a_12
  have mf8_a_13 := (hk8.1 a 11 13 11 0 fsX12 ha rfl (by decide) (by decide)).trans mf4_a_13
  have mf8_a_29 := (hk8.1 a 11 29 11 0 fsX12 ha rfl (by decide) (by decide)).trans mf4_a_29
  have mf8_a_30 := (hk8.1 a 11 30 11 0 fsX12 ha rfl (by decide) (by decide)).trans mf4_a_30
  have mf8_a_31 := (hk8.1 a 11 31 11 0 fsX12 ha rfl (by decide) (by decide)).trans mf4_a_31
  have mf8_a_32 := (hk8.1 a 11 32 11 0 fsX12 ha rfl (by decide) (by decide)).trans mf4_a_32
  have kp8 := kp4.trans (hk8.mono (ms' := eM) (fun x hx => by cases List.mem_singleton.mp hx; decide))
  have jm8 := (jm4).kept ha hk8 (by decide)
  refine lv_aload_n hx hb (eX12_ruleDate (18, .aload_n 0, 1) (List.mem_of_getElem? (i := 14) rfl)) rfl (lv_at hl 0 rfl) ?_
  refine tz_get (r := 11) (k := 32) (t := (74, 0, 0)) hx hb hh8 ha rfl rfl (hcl11 56 32 (74, 0, 0) (by decide) rfl).1 mf8_a_32 (eX12_ruleDate (19, .getfield 56, 3) (List.mem_of_getElem? (i := 15) rfl)) ?_
  refine lv_iload_n hx hb (eX12_ruleDate (22, .iload_n 1, 1) (List.mem_of_getElem? (i := 16) rfl)) rfl (lv_at hl 1 rfl) ?_
  refine ff_iconst hx hb (eX12_ruleDate (23, .iconst 4, 1) (List.mem_of_getElem? (i := 17) rfl)) (by decide) (by decide) (fun v9 e9 => ?_)
  refine ff_iadd hx hb (eX12_ruleDate (24, .iadd, 1) (List.mem_of_getElem? (i := 18) rfl)) (by omega) (by omega) (fun v10 e10 => ?_)
  refine ff_bipush hx hb (eX12_ruleDate (25, .bipush 120, 2) (List.mem_of_getElem? (i := 19) rfl)) (by decide) (by decide) (fun v11 e11 => ?_)
  obtain ⟨-, zz12, hcc12, hyy12⟩ := zh_arr hh8 rad (show RTg[35]? = some (1, 0, 10, [(0, (-1000000), 1000000)]) from rfl)
  refine tz_iast hx hb (zAr hKn.1 0 (by decide)) hh8 rad (show RTg[35]? = some (1, 0, 10, [(0, (-1000000), 1000000)]) from rfl) hc8 (zs_arr (hc8.symm.trans hcc12) hyy12) (by omega) (by omega) (tz_i (by omega) (by omega)) (eX12_ruleDate (27, .iastore, 1) (List.mem_of_getElem? (i := 20) rfl)) (fun H12 lo12 hh12 hc12 hk12 hq12 _ => ?_)
  rw [show v10.toNatClampNeg = kn + 4 by show v10.toInt.toNat = _; omega] at hc12
  have mf12_a_12 := (hk12.1 a 11 12 11 0 fsX12 ha rfl (by decide) (by decide)).trans mf8_a_12
  have mf12_a_13 := (hk12.1 a 11 13 11 0 fsX12 ha rfl (by decide) (by decide)).trans mf8_a_13
  have mf12_a_29 := (hk12.1 a 11 29 11 0 fsX12 ha rfl (by decide) (by decide)).trans mf8_a_29
  have mf12_a_30 := (hk12.1 a 11 30 11 0 fsX12 ha rfl (by decide) (by decide)).trans mf8_a_30
  have mf12_a_31 := (hk12.1 a 11 31 11 0 fsX12 ha rfl (by decide) (by decide)).trans mf8_a_31
  have mf12_a_32 := (hk12.1 a 11 32 11 0 fsX12 ha rfl (by decide) (by decide)).trans mf8_a_32
  have kp12 := kp8.trans (hk12.mono (ms' := eM) (fun x hx => by cases List.mem_singleton.mp hx; decide))
  have jm12 := (jm8).kept ha hk12 (by decide)
  refine lv_aload_n hx hb (eX12_ruleDate (28, .aload_n 0, 1) (List.mem_of_getElem? (i := 21) rfl)) rfl (lv_at hl 0 rfl) ?_
  refine ff_bipush hx hb (eX12_ruleDate (29, .bipush 77, 2) (List.mem_of_getElem? (i := 22) rfl)) (by decide) (by decide) (fun v13 e13 => ?_)
  refine tz_rowV (As := [.int v13]) (st := []) (b := a) (C := RX12) (Ts := gT) hx hb hml hown h2 (fun _ h => h) (hX12_takes l D cA ro sz H0 a v13 77 T (sg) ha (by omega) (by decide)) ⟨rfl, rfl⟩ ⟨by decide, by decide⟩ ⟨by decide, by decide⟩ (tb_8 13 rfl rfl) (tb_1 12 rfl rfl) (tb_8 10 rfl rfl) (tb_8 12 rfl rfl) (tb_0 30 rfl rfl) (show yX12_takes.cls ≠ "java/lang/invoke/MethodHandle" ∧ yX12_takes.cls ≠ "java/lang/invoke/VarHandle" ∧ (parseMethodDescriptor yX12_takes.desc).map (fun d => d.parameters.length) = some 1 by decide +kernel) zs_blind (zs_ob hh12 ha (show RTg[11]? = some (0, 11, 0, fsX12) from rfl) (zCX12 hKn.1)) (fun U hU hW => ⟨rfl, by rw [hU]; exact hh12.l0, zKb s U hW.alike hKn, by rw [hU]; exact jm12⟩) hh12.2.2.1 hl.1 (Nat.le_of_ble_eq_true rfl) (eX12_ruleDate (31, .invokevirtual 313, 3) (List.mem_of_getElem? (i := 23) rfl)) (fun r14 s14 t14 lo14 g14 f14 l14 => ?_)
  obtain ⟨v14, q14, e14, z14, c14, j14⟩ := f14
  cases q14
  rw [g14] at c14
  have hh14 : zh_ok D cA RTg ro sz H0 t14.heap lo14 := ⟨z14.1, z14.2.1, l14, z14.2.2.2⟩
  have kp14 := kp12.trans (c14.mono (ms' := eM) (by decide))
  have kf14 := tkG_01 T 77 sg
  generalize hx14 : tkG T 77 sg = x14 at j14 e14 kf14
  have uu14 := j14.2.2
  unfold vOK at uu14
  have mf14_a_12 := (c14.1 a 11 12 11 0 fsX12 ha rfl (by decide) (by decide)).trans mf12_a_12
  have mf14_a_13 := (c14.1 a 11 13 11 0 fsX12 ha rfl (by decide) (by decide)).trans mf12_a_13
  have mf14_a_32 := (c14.1 a 11 32 11 0 fsX12 ha rfl (by decide) (by decide)).trans mf12_a_32
  have md14 := (c14.2 ad 35 0 0 10 _ rad rfl (by decide)).trans hc12
  refine W.eq (g2 := F0 m 34 ls [.int v14]) rfl ?_
  refine ff_if_eq hx hb (eX12_ruleDate (34, .ifCond .eq 72, 3) (List.mem_of_getElem? (i := 24) rfl)) (tgt := 106) rfl (fun c15 => ?_) (fun c15 => ?_)
  · skip
    have d14 : ¬ x14.1 = 1 := by omega
    refine lv_aload_n hx hb (eX12_ruleDate (106, .aload_n 0, 1) (List.mem_of_getElem? (i := 70) rfl)) rfl (lv_at hl 0 rfl) ?_
    refine ff_bipush hx hb (eX12_ruleDate (107, .bipush 74, 2) (List.mem_of_getElem? (i := 71) rfl)) (by decide) (by decide) (fun v16 e16 => ?_)
    refine tz_rowV (As := [.int v16]) (st := []) (b := a) (C := RX12) (Ts := gT) hx hb hml hown h2 (fun _ h => h) (hX12_takes l D cA ro sz H0 a v16 74 T (x14.2) ha (by omega) (by decide)) ⟨rfl, rfl⟩ ⟨by decide, by decide⟩ ⟨by decide, by decide⟩ (tb_8 13 rfl rfl) (tb_1 12 rfl rfl) (tb_8 10 rfl rfl) (tb_8 12 rfl rfl) (tb_0 30 rfl rfl) (show yX12_takes.cls ≠ "java/lang/invoke/MethodHandle" ∧ yX12_takes.cls ≠ "java/lang/invoke/VarHandle" ∧ (parseMethodDescriptor yX12_takes.desc).map (fun d => d.parameters.length) = some 1 by decide +kernel) zs_blind (zs_ob hh14 ha (show RTg[11]? = some (0, 11, 0, fsX12) from rfl) (zCX12 hKn.1)) (fun U hU hW => ⟨rfl, by rw [hU]; exact hh14.l0, zKb s U hW.alike hKn, by rw [hU]; exact j14⟩) hh14.2.2.1 hl.1 (Nat.le_of_ble_eq_true rfl) (eX12_ruleDate (109, .invokevirtual 313, 3) (List.mem_of_getElem? (i := 72) rfl)) (fun r17 s17 t17 lo17 g17 f17 l17 => ?_)
    obtain ⟨v17, q17, e17, z17, c17, j17⟩ := f17
    cases q17
    rw [g17] at c17
    have hh17 : zh_ok D cA RTg ro sz H0 t17.heap lo17 := ⟨z17.1, z17.2.1, l17, z17.2.2.2⟩
    have kp17 := kp14.trans (c17.mono (ms' := eM) (by decide))
    have kf17 := tkG_01 T 74 x14.2
    generalize hx17 : tkG T 74 x14.2 = x17 at j17 e17 kf17
    have uu17 := j17.2.2
    unfold vOK at uu17
    have mf17_a_12 := (c17.1 a 11 12 11 0 fsX12 ha rfl (by decide) (by decide)).trans mf14_a_12
    have mf17_a_13 := (c17.1 a 11 13 11 0 fsX12 ha rfl (by decide) (by decide)).trans mf14_a_13
    have mf17_a_32 := (c17.1 a 11 32 11 0 fsX12 ha rfl (by decide) (by decide)).trans mf14_a_32
    have md17 := (c17.2 ad 35 0 0 10 _ rad rfl (by decide)).trans md14
    refine W.eq (g2 := F0 m 112 ls [.int v17]) rfl ?_
    refine ff_if_eq hx hb (eX12_ruleDate (112, .ifCond .eq 30, 3) (List.mem_of_getElem? (i := 73) rfl)) (tgt := 142) rfl (fun c18 => ?_) (fun c18 => ?_)
    · skip
      have d17 : ¬ x17.1 = 1 := by omega
      refine lv_aload_n hx hb (eX12_ruleDate (142, .aload_n 0, 1) (List.mem_of_getElem? (i := 91) rfl)) rfl (lv_at hl 0 rfl) ?_
      refine tz_get (r := 11) (k := 32) (t := (74, 0, 0)) hx hb hh17 ha rfl rfl (hcl11 56 32 (74, 0, 0) (by decide) rfl).1 mf17_a_32 (eX12_ruleDate (143, .getfield 56, 3) (List.mem_of_getElem? (i := 92) rfl)) ?_
      refine lv_iload_n hx hb (eX12_ruleDate (146, .iload_n 1, 1) (List.mem_of_getElem? (i := 93) rfl)) rfl (lv_at hl 1 rfl) ?_
      refine ff_iconst hx hb (eX12_ruleDate (147, .iconst 2, 1) (List.mem_of_getElem? (i := 94) rfl)) (by decide) (by decide) (fun v19 e19 => ?_)
      obtain ⟨-, zz20, hcc20, hyy20⟩ := zh_arr hh17 rad (show RTg[35]? = some (1, 0, 10, [(0, (-1000000), 1000000)]) from rfl)
      refine tz_iast hx hb (zAr hKn.1 0 (by decide)) hh17 rad (show RTg[35]? = some (1, 0, 10, [(0, (-1000000), 1000000)]) from rfl) md17 (zs_arr (md17.symm.trans hcc20) hyy20) (by omega) (by omega) (tz_i (by omega) (by omega)) (eX12_ruleDate (148, .iastore, 1) (List.mem_of_getElem? (i := 95) rfl)) (fun H20 lo20 hh20 hc20 hk20 hq20 _ => ?_)
      rw [show kk.toNatClampNeg = kn by show kk.toInt.toNat = _; omega] at hc20
      have mf20_a_12 := (hk20.1 a 11 12 11 0 fsX12 ha rfl (by decide) (by decide)).trans mf17_a_12
      have mf20_a_13 := (hk20.1 a 11 13 11 0 fsX12 ha rfl (by decide) (by decide)).trans mf17_a_13
      have mf20_a_32 := (hk20.1 a 11 32 11 0 fsX12 ha rfl (by decide) (by decide)).trans mf17_a_32
      have kp20 := kp17.trans (hk20.mono (ms' := eM) (fun x hx => by cases List.mem_singleton.mp hx; decide))
      have jm20 := (j17).kept ha hk20 (by decide)
      refine lv_aload_n hx hb (eX12_ruleDate (149, .aload_n 0, 1) (List.mem_of_getElem? (i := 96) rfl)) rfl (lv_at hl 0 rfl) ?_
      refine tz_get (r := 11) (k := 32) (t := (74, 0, 0)) hx hb hh20 ha rfl rfl (hcl11 56 32 (74, 0, 0) (by decide) rfl).1 mf20_a_32 (eX12_ruleDate (150, .getfield 56, 3) (List.mem_of_getElem? (i := 97) rfl)) ?_
      refine lv_iload_n hx hb (eX12_ruleDate (153, .iload_n 1, 1) (List.mem_of_getElem? (i := 98) rfl)) rfl (lv_at hl 1 rfl) ?_
      refine ff_iconst hx hb (eX12_ruleDate (154, .iconst 1, 1) (List.mem_of_getElem? (i := 99) rfl)) (by decide) (by decide) (fun v21 e21 => ?_)
      refine ff_iadd hx hb (eX12_ruleDate (155, .iadd, 1) (List.mem_of_getElem? (i := 100) rfl)) (by omega) (by omega) (fun v22 e22 => ?_)
      refine lv_aload_n hx hb (eX12_ruleDate (156, .aload_n 0, 1) (List.mem_of_getElem? (i := 101) rfl)) rfl (lv_at hl 0 rfl) ?_
      refine ff_iconst hx hb (eX12_ruleDate (157, .iconst 3, 1) (List.mem_of_getElem? (i := 102) rfl)) (by decide) (by decide) (fun v23 e23 => ?_)
      refine ff_iconst hx hb (eX12_ruleDate (158, .iconst 0, 1) (List.mem_of_getElem? (i := 103) rfl)) (by decide) (by decide) (fun v24 e24 => ?_)
      refine ff_sipush hx hb (eX12_ruleDate (159, .sipush 365, 3) (List.mem_of_getElem? (i := 104) rfl)) (by decide) (by decide) (fun v25 e25 => ?_)
      refine tz_rowV (As := [.int v23, .int v24, .int v25]) (st := [.int v22, .ref ad]) (b := a) (C := RX12) (Ts := gT) hx hb hml hown h2 (fun _ h => h) (hX12_upTo l D cA ro sz H0 a v23 v24 v25 2 0 365 T (x17.2) ha (by omega) (by omega) (by omega) (by decide)) ⟨rfl, rfl⟩ ⟨by decide, by decide⟩ ⟨by decide, by decide⟩ (tb_8 55 rfl rfl) (tb_1 12 rfl rfl) (tb_8 52 rfl rfl) (tb_8 54 rfl rfl) (tb_0 39 rfl rfl) (show yX12_upTo.cls ≠ "java/lang/invoke/MethodHandle" ∧ yX12_upTo.cls ≠ "java/lang/invoke/VarHandle" ∧ (parseMethodDescriptor yX12_upTo.desc).map (fun d => d.parameters.length) = some 3 by decide +kernel) zs_blind (zs_ob hh20 ha (show RTg[11]? = some (0, 11, 0, fsX12) from rfl) (zCX12 hKn.1)) (fun U hU hW => ⟨rfl, by rw [hU]; exact hh20.l0, zKb s U hW.alike hKn, by rw [hU]; exact jm20⟩) hh20.2.2.1 hl.1 (Nat.le_of_ble_eq_true rfl) (eX12_ruleDate (162, .invokevirtual 338, 3) (List.mem_of_getElem? (i := 105) rfl)) (fun r26 s26 t26 lo26 g26 f26 l26 => ?_)
      obtain ⟨v26, q26, e26, z26, c26, j26⟩ := f26
      cases q26
      rw [g26] at c26
      have hh26 : zh_ok D cA RTg ro sz H0 t26.heap lo26 := ⟨z26.1, z26.2.1, l26, z26.2.2.2⟩
      have kp26 := kp20.trans (c26.mono (ms' := eM) (by decide))
      have kf26 := utG_3 (T := T) (n := 2) (by decide) (lo := 0) (hi := 365) (r := x17.2)
      generalize hx26 : utG T 3 0 365 x17.2 = x26 at j26 e26 kf26
      have uu26 := j26.2.2
      unfold vOK at uu26
      have mf26_a_12 := (c26.1 a 11 12 11 0 fsX12 ha rfl (by decide) (by decide)).trans mf20_a_12
      have mf26_a_13 := (c26.1 a 11 13 11 0 fsX12 ha rfl (by decide) (by decide)).trans mf20_a_13
      have mf26_a_32 := (c26.1 a 11 32 11 0 fsX12 ha rfl (by decide) (by decide)).trans mf20_a_32
      have md26 := (c26.2 ad 35 0 0 10 _ rad rfl (by decide)).trans hc20
      refine W.eq (g2 := F0 m 165 ls [.int v26, .int v22, .ref ad]) rfl ?_
      obtain ⟨-, zz27, hcc27, hyy27⟩ := zh_arr hh26 rad (show RTg[35]? = some (1, 0, 10, [(0, (-1000000), 1000000)]) from rfl)
      refine tz_iast hx hb (zAr hKn.1 0 (by decide)) hh26 rad (show RTg[35]? = some (1, 0, 10, [(0, (-1000000), 1000000)]) from rfl) md26 (zs_arr (md26.symm.trans hcc27) hyy27) (by omega) (by omega) (tz_i (by omega) (by omega)) (eX12_ruleDate (165, .iastore, 1) (List.mem_of_getElem? (i := 106) rfl)) (fun H27 lo27 hh27 hc27 hk27 hq27 _ => ?_)
      rw [show v22.toNatClampNeg = kn + 1 by show v22.toInt.toNat = _; omega] at hc27
      have mf27_a_12 := (hk27.1 a 11 12 11 0 fsX12 ha rfl (by decide) (by decide)).trans mf26_a_12
      have mf27_a_13 := (hk27.1 a 11 13 11 0 fsX12 ha rfl (by decide) (by decide)).trans mf26_a_13
      have mf27_a_32 := (hk27.1 a 11 32 11 0 fsX12 ha rfl (by decide) (by decide)).trans mf26_a_32
      have kp27 := kp26.trans (hk27.mono (ms' := eM) (fun x hx => by cases List.mem_singleton.mp hx; decide))
      have jm27 := (j26).kept ha hk27 (by decide)
      refine lv_aload_n hx hb (eX12_ruleDate (166, .aload_n 0, 1) (List.mem_of_getElem? (i := 107) rfl)) rfl (lv_at hl 0 rfl) ?_
      refine ff_bipush hx hb (eX12_ruleDate (167, .bipush 47, 2) (List.mem_of_getElem? (i := 108) rfl)) (by decide) (by decide) (fun v28 e28 => ?_)
      refine tz_rowV (As := [.int v28]) (st := []) (b := a) (C := RX12) (Ts := gT) hx hb hml hown h2 (fun _ h => h) (hX12_takes l D cA ro sz H0 a v28 47 T (x26.2) ha (by omega) (by decide)) ⟨rfl, rfl⟩ ⟨by decide, by decide⟩ ⟨by decide, by decide⟩ (tb_8 13 rfl rfl) (tb_1 12 rfl rfl) (tb_8 10 rfl rfl) (tb_8 12 rfl rfl) (tb_0 30 rfl rfl) (show yX12_takes.cls ≠ "java/lang/invoke/MethodHandle" ∧ yX12_takes.cls ≠ "java/lang/invoke/VarHandle" ∧ (parseMethodDescriptor yX12_takes.desc).map (fun d => d.parameters.length) = some 1 by decide +kernel) zs_blind (zs_ob hh27 ha (show RTg[11]? = some (0, 11, 0, fsX12) from rfl) (zCX12 hKn.1)) (fun U hU hW => ⟨rfl, by rw [hU]; exact hh27.l0, zKb s U hW.alike hKn, by rw [hU]; exact jm27⟩) hh27.2.2.1 hl.1 (Nat.le_of_ble_eq_true rfl) (eX12_ruleDate (169, .invokevirtual 313, 3) (List.mem_of_getElem? (i := 109) rfl)) (fun r29 s29 t29 lo29 g29 f29 l29 => ?_)
      obtain ⟨v29, q29, e29, z29, c29, j29⟩ := f29
      cases q29
      rw [g29] at c29
      have hh29 : zh_ok D cA RTg ro sz H0 t29.heap lo29 := ⟨z29.1, z29.2.1, l29, z29.2.2.2⟩
      have kp29 := kp27.trans (c29.mono (ms' := eM) (by decide))
      have kf29 := tkG_01 T 47 x26.2
      generalize hx29 : tkG T 47 x26.2 = x29 at j29 e29 kf29
      have uu29 := j29.2.2
      unfold vOK at uu29
      have mf29_a_12 := (c29.1 a 11 12 11 0 fsX12 ha rfl (by decide) (by decide)).trans mf27_a_12
      have mf29_a_13 := (c29.1 a 11 13 11 0 fsX12 ha rfl (by decide) (by decide)).trans mf27_a_13
      have mf29_a_32 := (c29.1 a 11 32 11 0 fsX12 ha rfl (by decide) (by decide)).trans mf27_a_32
      have md29 := (c29.2 ad 35 0 0 10 _ rad rfl (by decide)).trans hc27
      refine W.eq (g2 := F0 m 172 ls [.int v29]) rfl ?_
      refine ff_if_eq hx hb (eX12_ruleDate (172, .ifCond .eq 18, 3) (List.mem_of_getElem? (i := 110) rfl)) (tgt := 190) rfl (fun c30 => ?_) (fun c30 => ?_)
      · skip
        have d29 : ¬ x29.1 = 1 := by omega
        have hfd : (dateG T sg).1 = (2, x26.1, 0, 0, 120) := by simp only [dateG, dKG, dMG, rdMin, hx14, hx17, hx26, hx29, if_neg d14, if_neg d17, if_neg d29]
        have hfin : (dateG T sg).2 = x29.2 := by simp only [dateG, dKG, dMG, hx14, hx17, hx26, hx29, if_neg d14, if_neg d17, if_neg d29]
        exact W.vret hx hb hr (fun t ht hW => ⟨rfl, by rw [ht]; exact hh29.l0, by rw [ht]; exact kp29, by rw [ht, hfin]; exact j29, (updV (updV (updV (updV (updV zd (kn + 2) (.int v3)) (kn + 3) (.int v7)) (kn + 4) (.int v11)) (kn) (.int v19)) (kn + 1) (.int v26)), by rw [ht]; exact ⟨ad, mf29_a_32, rad, md29⟩, ⟨v19, v26, v3, v7, v11, by simp [updV], by simp [updV], by simp [updV], by simp [updV], by simp [updV], by rw [hfd, show v19.toInt = 2 by omega, show v26.toInt = x26.1 by omega, show v3.toInt = 0 by omega, show v7.toInt = 0 by omega, show v11.toInt = 120 by omega]⟩, fun i hi => by repeat rw [updV_ne (by omega)]⟩) hh29.2.2.1 (eX12_ruleDate (190, .return_, 1) (List.mem_of_getElem? (i := 121) rfl))
      · skip
        have d29 : x29.1 = 1 := by omega
        refine lv_aload_n hx hb (eX12_ruleDate (175, .aload_n 0, 1) (List.mem_of_getElem? (i := 111) rfl)) rfl (lv_at hl 0 rfl) ?_
        refine tz_get (r := 11) (k := 32) (t := (74, 0, 0)) hx hb hh29 ha rfl rfl (hcl11 56 32 (74, 0, 0) (by decide) rfl).1 mf29_a_32 (eX12_ruleDate (176, .getfield 56, 3) (List.mem_of_getElem? (i := 112) rfl)) ?_
        refine lv_iload_n hx hb (eX12_ruleDate (179, .iload_n 1, 1) (List.mem_of_getElem? (i := 113) rfl)) rfl (lv_at hl 1 rfl) ?_
        refine ff_iconst hx hb (eX12_ruleDate (180, .iconst 4, 1) (List.mem_of_getElem? (i := 114) rfl)) (by decide) (by decide) (fun v31 e31 => ?_)
        refine ff_iadd hx hb (eX12_ruleDate (181, .iadd, 1) (List.mem_of_getElem? (i := 115) rfl)) (by omega) (by omega) (fun v32 e32 => ?_)
        refine lv_aload_n hx hb (eX12_ruleDate (182, .aload_n 0, 1) (List.mem_of_getElem? (i := 116) rfl)) rfl (lv_at hl 0 rfl) ?_
        refine ff_iconst hx hb (eX12_ruleDate (183, .iconst 0, 1) (List.mem_of_getElem? (i := 117) rfl)) (by decide) (by decide) (fun v33 e33 => ?_)
        refine ff_bipush hx hb (eX12_ruleDate (184, .bipush 24, 2) (List.mem_of_getElem? (i := 118) rfl)) (by decide) (by decide) (fun v34 e34 => ?_)
        refine tz_rowV (As := [.int v33, .int v34]) (st := [.int v32, .ref ad]) (b := a) (C := RX12) (Ts := gT) hx hb hml hown h2 (fun _ h => h) (hX12_ruleTime l D cA ro sz H0 a v33 v34 0 24 T (x29.2) ha (by omega) (by omega) (by decide)) ⟨rfl, rfl⟩ ⟨by decide, by decide⟩ ⟨by decide, by decide⟩ (tb_8 39 rfl rfl) (tb_1 12 rfl rfl) (tb_8 36 rfl rfl) (tb_8 38 rfl rfl) (tb_0 35 rfl rfl) (show yX12_ruleTime.cls ≠ "java/lang/invoke/MethodHandle" ∧ yX12_ruleTime.cls ≠ "java/lang/invoke/VarHandle" ∧ (parseMethodDescriptor yX12_ruleTime.desc).map (fun d => d.parameters.length) = some 2 by decide +kernel) zs_blind (zs_ob hh29 ha (show RTg[11]? = some (0, 11, 0, fsX12) from rfl) (zCX12 hKn.1)) (fun U hU hW => ⟨rfl, by rw [hU]; exact hh29.l0, zKb s U hW.alike hKn, by rw [hU]; exact j29⟩) hh29.2.2.1 hl.1 (Nat.le_of_ble_eq_true rfl) (eX12_ruleDate (186, .invokevirtual 342, 3) (List.mem_of_getElem? (i := 119) rfl)) (fun r35 s35 t35 lo35 g35 f35 l35 => ?_)
        obtain ⟨v35, hv35, q35, e35, fh35, eh35, z35, c35, j35⟩ := f35
        cases q35
        rw [g35] at c35
        have hh35 : zh_ok D cA RTg ro sz H0 t35.heap lo35 := ⟨z35.1, z35.2.1, l35, z35.2.2.2⟩
        have kp35 := kp29.trans (c35.mono (ms' := eM) (by decide))
        have kf35 := tmG_up T 0 24 x29.2
        generalize hx35 : tmG T 0 24 x29.2 = x35 at j35 e35 eh35 kf35
        have uu35 := j35.2.2
        unfold vOK at uu35
        have mf35_a_12 := (c35.1 a 11 12 11 0 fsX12 ha rfl (by decide) (by decide)).trans mf29_a_12
        have mf35_a_13 := (c35.1 a 11 13 11 0 fsX12 ha rfl (by decide) (by decide)).trans mf29_a_13
        have mf35_a_32 := (c35.1 a 11 32 11 0 fsX12 ha rfl (by decide) (by decide)).trans mf29_a_32
        have md35 := (c35.2 ad 35 0 0 10 _ rad rfl (by decide)).trans md29
        refine W.eq (g2 := F0 m 189 ls [.int v35, .int v32, .ref ad]) rfl ?_
        obtain ⟨-, zz36, hcc36, hyy36⟩ := zh_arr hh35 rad (show RTg[35]? = some (1, 0, 10, [(0, (-1000000), 1000000)]) from rfl)
        refine tz_iast hx hb (zAr hKn.1 0 (by decide)) hh35 rad (show RTg[35]? = some (1, 0, 10, [(0, (-1000000), 1000000)]) from rfl) md35 (zs_arr (md35.symm.trans hcc36) hyy36) (by omega) (by omega) (tz_i (by omega) (by omega)) (eX12_ruleDate (189, .iastore, 1) (List.mem_of_getElem? (i := 120) rfl)) (fun H36 lo36 hh36 hc36 hk36 hq36 _ => ?_)
        rw [show v32.toNatClampNeg = kn + 4 by show v32.toInt.toNat = _; omega] at hc36
        have mf36_a_12 := (hk36.1 a 11 12 11 0 fsX12 ha rfl (by decide) (by decide)).trans mf35_a_12
        have mf36_a_13 := (hk36.1 a 11 13 11 0 fsX12 ha rfl (by decide) (by decide)).trans mf35_a_13
        have mf36_a_32 := (hk36.1 a 11 32 11 0 fsX12 ha rfl (by decide) (by decide)).trans mf35_a_32
        have mf36_a_33 := (hk36.1 a 11 33 11 0 fsX12 ha rfl (by decide) (by decide)).trans fh35
        have kp36 := kp35.trans (hk36.mono (ms' := eM) (fun x hx => by cases List.mem_singleton.mp hx; decide))
        have jm36 := (j35).kept ha hk36 (by decide)
        have hfd : (dateG T sg).1 = (2, x26.1, 0, 0, x35.1.1) := by simp only [dateG, dKG, dMG, rdMin, hx14, hx17, hx26, hx29, hx35, if_neg d14, if_neg d17, if_pos d29]
        have hfin : (dateG T sg).2 = x35.2 := by simp only [dateG, dKG, dMG, hx14, hx17, hx26, hx29, hx35, if_neg d14, if_neg d17, if_pos d29]
        exact W.vret hx hb hr (fun t ht hW => ⟨rfl, by rw [ht]; exact hh36.l0, by rw [ht]; exact kp36, by rw [ht, hfin]; exact jm36, (updV (updV (updV (updV (updV (updV zd (kn + 2) (.int v3)) (kn + 3) (.int v7)) (kn + 4) (.int v11)) (kn) (.int v19)) (kn + 1) (.int v26)) (kn + 4) (.int v35)), by rw [ht]; exact ⟨ad, mf36_a_32, rad, hc36⟩, ⟨v19, v26, v3, v7, v35, by simp [updV], by simp [updV], by simp [updV], by simp [updV], by simp [updV], by rw [hfd, show v19.toInt = 2 by omega, show v26.toInt = x26.1 by omega, show v3.toInt = 0 by omega, show v7.toInt = 0 by omega, show v35.toInt = x35.1.1 by omega]⟩, fun i hi => by repeat rw [updV_ne (by omega)]⟩) hh36.2.2.1 (eX12_ruleDate (190, .return_, 1) (List.mem_of_getElem? (i := 121) rfl))
    · skip
      have d17 : x17.1 = 1 := by omega
      refine lv_aload_n hx hb (eX12_ruleDate (115, .aload_n 0, 1) (List.mem_of_getElem? (i := 74) rfl)) rfl (lv_at hl 0 rfl) ?_
      refine tz_get (r := 11) (k := 32) (t := (74, 0, 0)) hx hb hh17 ha rfl rfl (hcl11 56 32 (74, 0, 0) (by decide) rfl).1 mf17_a_32 (eX12_ruleDate (116, .getfield 56, 3) (List.mem_of_getElem? (i := 75) rfl)) ?_
      refine lv_iload_n hx hb (eX12_ruleDate (119, .iload_n 1, 1) (List.mem_of_getElem? (i := 76) rfl)) rfl (lv_at hl 1 rfl) ?_
      refine ff_iconst hx hb (eX12_ruleDate (120, .iconst 1, 1) (List.mem_of_getElem? (i := 77) rfl)) (by decide) (by decide) (fun v37 e37 => ?_)
      obtain ⟨-, zz38, hcc38, hyy38⟩ := zh_arr hh17 rad (show RTg[35]? = some (1, 0, 10, [(0, (-1000000), 1000000)]) from rfl)
      refine tz_iast hx hb (zAr hKn.1 0 (by decide)) hh17 rad (show RTg[35]? = some (1, 0, 10, [(0, (-1000000), 1000000)]) from rfl) md17 (zs_arr (md17.symm.trans hcc38) hyy38) (by omega) (by omega) (tz_i (by omega) (by omega)) (eX12_ruleDate (121, .iastore, 1) (List.mem_of_getElem? (i := 78) rfl)) (fun H38 lo38 hh38 hc38 hk38 hq38 _ => ?_)
      rw [show kk.toNatClampNeg = kn by show kk.toInt.toNat = _; omega] at hc38
      have mf38_a_12 := (hk38.1 a 11 12 11 0 fsX12 ha rfl (by decide) (by decide)).trans mf17_a_12
      have mf38_a_13 := (hk38.1 a 11 13 11 0 fsX12 ha rfl (by decide) (by decide)).trans mf17_a_13
      have mf38_a_32 := (hk38.1 a 11 32 11 0 fsX12 ha rfl (by decide) (by decide)).trans mf17_a_32
      have kp38 := kp17.trans (hk38.mono (ms' := eM) (fun x hx => by cases List.mem_singleton.mp hx; decide))
      have jm38 := (j17).kept ha hk38 (by decide)
      refine lv_aload_n hx hb (eX12_ruleDate (122, .aload_n 0, 1) (List.mem_of_getElem? (i := 79) rfl)) rfl (lv_at hl 0 rfl) ?_
      refine tz_get (r := 11) (k := 32) (t := (74, 0, 0)) hx hb hh38 ha rfl rfl (hcl11 56 32 (74, 0, 0) (by decide) rfl).1 mf38_a_32 (eX12_ruleDate (123, .getfield 56, 3) (List.mem_of_getElem? (i := 80) rfl)) ?_
      refine lv_iload_n hx hb (eX12_ruleDate (126, .iload_n 1, 1) (List.mem_of_getElem? (i := 81) rfl)) rfl (lv_at hl 1 rfl) ?_
      refine ff_iconst hx hb (eX12_ruleDate (127, .iconst 1, 1) (List.mem_of_getElem? (i := 82) rfl)) (by decide) (by decide) (fun v39 e39 => ?_)
      refine ff_iadd hx hb (eX12_ruleDate (128, .iadd, 1) (List.mem_of_getElem? (i := 83) rfl)) (by omega) (by omega) (fun v40 e40 => ?_)
      refine lv_aload_n hx hb (eX12_ruleDate (129, .aload_n 0, 1) (List.mem_of_getElem? (i := 84) rfl)) rfl (lv_at hl 0 rfl) ?_
      refine ff_iconst hx hb (eX12_ruleDate (130, .iconst 3, 1) (List.mem_of_getElem? (i := 85) rfl)) (by decide) (by decide) (fun v41 e41 => ?_)
      refine ff_iconst hx hb (eX12_ruleDate (131, .iconst 1, 1) (List.mem_of_getElem? (i := 86) rfl)) (by decide) (by decide) (fun v42 e42 => ?_)
      refine ff_sipush hx hb (eX12_ruleDate (132, .sipush 365, 3) (List.mem_of_getElem? (i := 87) rfl)) (by decide) (by decide) (fun v43 e43 => ?_)
      refine tz_rowV (As := [.int v41, .int v42, .int v43]) (st := [.int v40, .ref ad]) (b := a) (C := RX12) (Ts := gT) hx hb hml hown h2 (fun _ h => h) (hX12_upTo l D cA ro sz H0 a v41 v42 v43 2 1 365 T (x17.2) ha (by omega) (by omega) (by omega) (by decide)) ⟨rfl, rfl⟩ ⟨by decide, by decide⟩ ⟨by decide, by decide⟩ (tb_8 55 rfl rfl) (tb_1 12 rfl rfl) (tb_8 52 rfl rfl) (tb_8 54 rfl rfl) (tb_0 39 rfl rfl) (show yX12_upTo.cls ≠ "java/lang/invoke/MethodHandle" ∧ yX12_upTo.cls ≠ "java/lang/invoke/VarHandle" ∧ (parseMethodDescriptor yX12_upTo.desc).map (fun d => d.parameters.length) = some 3 by decide +kernel) zs_blind (zs_ob hh38 ha (show RTg[11]? = some (0, 11, 0, fsX12) from rfl) (zCX12 hKn.1)) (fun U hU hW => ⟨rfl, by rw [hU]; exact hh38.l0, zKb s U hW.alike hKn, by rw [hU]; exact jm38⟩) hh38.2.2.1 hl.1 (Nat.le_of_ble_eq_true rfl) (eX12_ruleDate (135, .invokevirtual 338, 3) (List.mem_of_getElem? (i := 88) rfl)) (fun r44 s44 t44 lo44 g44 f44 l44 => ?_)
      obtain ⟨v44, q44, e44, z44, c44, j44⟩ := f44
      cases q44
      rw [g44] at c44
      have hh44 : zh_ok D cA RTg ro sz H0 t44.heap lo44 := ⟨z44.1, z44.2.1, l44, z44.2.2.2⟩
      have kp44 := kp38.trans (c44.mono (ms' := eM) (by decide))
      have kf44 := utG_3 (T := T) (n := 2) (by decide) (lo := 1) (hi := 365) (r := x17.2)
      generalize hx44 : utG T 3 1 365 x17.2 = x44 at j44 e44 kf44
      have uu44 := j44.2.2
      unfold vOK at uu44
      have mf44_a_12 := (c44.1 a 11 12 11 0 fsX12 ha rfl (by decide) (by decide)).trans mf38_a_12
      have mf44_a_13 := (c44.1 a 11 13 11 0 fsX12 ha rfl (by decide) (by decide)).trans mf38_a_13
      have mf44_a_32 := (c44.1 a 11 32 11 0 fsX12 ha rfl (by decide) (by decide)).trans mf38_a_32
      have md44 := (c44.2 ad 35 0 0 10 _ rad rfl (by decide)).trans hc38
      refine W.eq (g2 := F0 m 138 ls [.int v44, .int v40, .ref ad]) rfl ?_
      obtain ⟨-, zz45, hcc45, hyy45⟩ := zh_arr hh44 rad (show RTg[35]? = some (1, 0, 10, [(0, (-1000000), 1000000)]) from rfl)
      refine tz_iast hx hb (zAr hKn.1 0 (by decide)) hh44 rad (show RTg[35]? = some (1, 0, 10, [(0, (-1000000), 1000000)]) from rfl) md44 (zs_arr (md44.symm.trans hcc45) hyy45) (by omega) (by omega) (tz_i (by omega) (by omega)) (eX12_ruleDate (138, .iastore, 1) (List.mem_of_getElem? (i := 89) rfl)) (fun H45 lo45 hh45 hc45 hk45 hq45 _ => ?_)
      rw [show v40.toNatClampNeg = kn + 1 by show v40.toInt.toNat = _; omega] at hc45
      have mf45_a_12 := (hk45.1 a 11 12 11 0 fsX12 ha rfl (by decide) (by decide)).trans mf44_a_12
      have mf45_a_13 := (hk45.1 a 11 13 11 0 fsX12 ha rfl (by decide) (by decide)).trans mf44_a_13
      have mf45_a_32 := (hk45.1 a 11 32 11 0 fsX12 ha rfl (by decide) (by decide)).trans mf44_a_32
      have kp45 := kp44.trans (hk45.mono (ms' := eM) (fun x hx => by cases List.mem_singleton.mp hx; decide))
      have jm45 := (j44).kept ha hk45 (by decide)
      refine lv_goto hx hb (eX12_ruleDate (139, .goto 27, 3) (List.mem_of_getElem? (i := 90) rfl)) (tgt := 166) rfl ?_
      refine lv_aload_n hx hb (eX12_ruleDate (166, .aload_n 0, 1) (List.mem_of_getElem? (i := 107) rfl)) rfl (lv_at hl 0 rfl) ?_
      refine ff_bipush hx hb (eX12_ruleDate (167, .bipush 47, 2) (List.mem_of_getElem? (i := 108) rfl)) (by decide) (by decide) (fun v46 e46 => ?_)
      refine tz_rowV (As := [.int v46]) (st := []) (b := a) (C := RX12) (Ts := gT) hx hb hml hown h2 (fun _ h => h) (hX12_takes l D cA ro sz H0 a v46 47 T (x44.2) ha (by omega) (by decide)) ⟨rfl, rfl⟩ ⟨by decide, by decide⟩ ⟨by decide, by decide⟩ (tb_8 13 rfl rfl) (tb_1 12 rfl rfl) (tb_8 10 rfl rfl) (tb_8 12 rfl rfl) (tb_0 30 rfl rfl) (show yX12_takes.cls ≠ "java/lang/invoke/MethodHandle" ∧ yX12_takes.cls ≠ "java/lang/invoke/VarHandle" ∧ (parseMethodDescriptor yX12_takes.desc).map (fun d => d.parameters.length) = some 1 by decide +kernel) zs_blind (zs_ob hh45 ha (show RTg[11]? = some (0, 11, 0, fsX12) from rfl) (zCX12 hKn.1)) (fun U hU hW => ⟨rfl, by rw [hU]; exact hh45.l0, zKb s U hW.alike hKn, by rw [hU]; exact jm45⟩) hh45.2.2.1 hl.1 (Nat.le_of_ble_eq_true rfl) (eX12_ruleDate (169, .invokevirtual 313, 3) (List.mem_of_getElem? (i := 109) rfl)) (fun r47 s47 t47 lo47 g47 f47 l47 => ?_)
      obtain ⟨v47, q47, e47, z47, c47, j47⟩ := f47
      cases q47
      rw [g47] at c47
      have hh47 : zh_ok D cA RTg ro sz H0 t47.heap lo47 := ⟨z47.1, z47.2.1, l47, z47.2.2.2⟩
      have kp47 := kp45.trans (c47.mono (ms' := eM) (by decide))
      have kf47 := tkG_01 T 47 x44.2
      generalize hx47 : tkG T 47 x44.2 = x47 at j47 e47 kf47
      have uu47 := j47.2.2
      unfold vOK at uu47
      have mf47_a_12 := (c47.1 a 11 12 11 0 fsX12 ha rfl (by decide) (by decide)).trans mf45_a_12
      have mf47_a_13 := (c47.1 a 11 13 11 0 fsX12 ha rfl (by decide) (by decide)).trans mf45_a_13
      have mf47_a_32 := (c47.1 a 11 32 11 0 fsX12 ha rfl (by decide) (by decide)).trans mf45_a_32
      have md47 := (c47.2 ad 35 0 0 10 _ rad rfl (by decide)).trans hc45
      refine W.eq (g2 := F0 m 172 ls [.int v47]) rfl ?_
      refine ff_if_eq hx hb (eX12_ruleDate (172, .ifCond .eq 18, 3) (List.mem_of_getElem? (i := 110) rfl)) (tgt := 190) rfl (fun c48 => ?_) (fun c48 => ?_)
      · skip
        have d47 : ¬ x47.1 = 1 := by omega
        have hfd : (dateG T sg).1 = (1, x44.1, 0, 0, 120) := by simp only [dateG, dKG, dMG, rdMin, hx14, hx17, hx44, hx47, if_neg d14, if_pos d17, if_neg d47]
        have hfin : (dateG T sg).2 = x47.2 := by simp only [dateG, dKG, dMG, hx14, hx17, hx44, hx47, if_neg d14, if_pos d17, if_neg d47]
        exact W.vret hx hb hr (fun t ht hW => ⟨rfl, by rw [ht]; exact hh47.l0, by rw [ht]; exact kp47, by rw [ht, hfin]; exact j47, (updV (updV (updV (updV (updV zd (kn + 2) (.int v3)) (kn + 3) (.int v7)) (kn + 4) (.int v11)) (kn) (.int v37)) (kn + 1) (.int v44)), by rw [ht]; exact ⟨ad, mf47_a_32, rad, md47⟩, ⟨v37, v44, v3, v7, v11, by simp [updV], by simp [updV], by simp [updV], by simp [updV], by simp [updV], by rw [hfd, show v37.toInt = 1 by omega, show v44.toInt = x44.1 by omega, show v3.toInt = 0 by omega, show v7.toInt = 0 by omega, show v11.toInt = 120 by omega]⟩, fun i hi => by repeat rw [updV_ne (by omega)]⟩) hh47.2.2.1 (eX12_ruleDate (190, .return_, 1) (List.mem_of_getElem? (i := 121) rfl))
      · skip
        have d47 : x47.1 = 1 := by omega
        refine lv_aload_n hx hb (eX12_ruleDate (175, .aload_n 0, 1) (List.mem_of_getElem? (i := 111) rfl)) rfl (lv_at hl 0 rfl) ?_
        refine tz_get (r := 11) (k := 32) (t := (74, 0, 0)) hx hb hh47 ha rfl rfl (hcl11 56 32 (74, 0, 0) (by decide) rfl).1 mf47_a_32 (eX12_ruleDate (176, .getfield 56, 3) (List.mem_of_getElem? (i := 112) rfl)) ?_
        refine lv_iload_n hx hb (eX12_ruleDate (179, .iload_n 1, 1) (List.mem_of_getElem? (i := 113) rfl)) rfl (lv_at hl 1 rfl) ?_
        refine ff_iconst hx hb (eX12_ruleDate (180, .iconst 4, 1) (List.mem_of_getElem? (i := 114) rfl)) (by decide) (by decide) (fun v49 e49 => ?_)
        refine ff_iadd hx hb (eX12_ruleDate (181, .iadd, 1) (List.mem_of_getElem? (i := 115) rfl)) (by omega) (by omega) (fun v50 e50 => ?_)
        refine lv_aload_n hx hb (eX12_ruleDate (182, .aload_n 0, 1) (List.mem_of_getElem? (i := 116) rfl)) rfl (lv_at hl 0 rfl) ?_
        refine ff_iconst hx hb (eX12_ruleDate (183, .iconst 0, 1) (List.mem_of_getElem? (i := 117) rfl)) (by decide) (by decide) (fun v51 e51 => ?_)
        refine ff_bipush hx hb (eX12_ruleDate (184, .bipush 24, 2) (List.mem_of_getElem? (i := 118) rfl)) (by decide) (by decide) (fun v52 e52 => ?_)
        refine tz_rowV (As := [.int v51, .int v52]) (st := [.int v50, .ref ad]) (b := a) (C := RX12) (Ts := gT) hx hb hml hown h2 (fun _ h => h) (hX12_ruleTime l D cA ro sz H0 a v51 v52 0 24 T (x47.2) ha (by omega) (by omega) (by decide)) ⟨rfl, rfl⟩ ⟨by decide, by decide⟩ ⟨by decide, by decide⟩ (tb_8 39 rfl rfl) (tb_1 12 rfl rfl) (tb_8 36 rfl rfl) (tb_8 38 rfl rfl) (tb_0 35 rfl rfl) (show yX12_ruleTime.cls ≠ "java/lang/invoke/MethodHandle" ∧ yX12_ruleTime.cls ≠ "java/lang/invoke/VarHandle" ∧ (parseMethodDescriptor yX12_ruleTime.desc).map (fun d => d.parameters.length) = some 2 by decide +kernel) zs_blind (zs_ob hh47 ha (show RTg[11]? = some (0, 11, 0, fsX12) from rfl) (zCX12 hKn.1)) (fun U hU hW => ⟨rfl, by rw [hU]; exact hh47.l0, zKb s U hW.alike hKn, by rw [hU]; exact j47⟩) hh47.2.2.1 hl.1 (Nat.le_of_ble_eq_true rfl) (eX12_ruleDate (186, .invokevirtual 342, 3) (List.mem_of_getElem? (i := 119) rfl)) (fun r53 s53 t53 lo53 g53 f53 l53 => ?_)
        obtain ⟨v53, hv53, q53, e53, fh53, eh53, z53, c53, j53⟩ := f53
        cases q53
        rw [g53] at c53
        have hh53 : zh_ok D cA RTg ro sz H0 t53.heap lo53 := ⟨z53.1, z53.2.1, l53, z53.2.2.2⟩
        have kp53 := kp47.trans (c53.mono (ms' := eM) (by decide))
        have kf53 := tmG_up T 0 24 x47.2
        generalize hx53 : tmG T 0 24 x47.2 = x53 at j53 e53 eh53 kf53
        have uu53 := j53.2.2
        unfold vOK at uu53
        have mf53_a_12 := (c53.1 a 11 12 11 0 fsX12 ha rfl (by decide) (by decide)).trans mf47_a_12
        have mf53_a_13 := (c53.1 a 11 13 11 0 fsX12 ha rfl (by decide) (by decide)).trans mf47_a_13
        have mf53_a_32 := (c53.1 a 11 32 11 0 fsX12 ha rfl (by decide) (by decide)).trans mf47_a_32
        have md53 := (c53.2 ad 35 0 0 10 _ rad rfl (by decide)).trans md47
        refine W.eq (g2 := F0 m 189 ls [.int v53, .int v50, .ref ad]) rfl ?_
        obtain ⟨-, zz54, hcc54, hyy54⟩ := zh_arr hh53 rad (show RTg[35]? = some (1, 0, 10, [(0, (-1000000), 1000000)]) from rfl)
        refine tz_iast hx hb (zAr hKn.1 0 (by decide)) hh53 rad (show RTg[35]? = some (1, 0, 10, [(0, (-1000000), 1000000)]) from rfl) md53 (zs_arr (md53.symm.trans hcc54) hyy54) (by omega) (by omega) (tz_i (by omega) (by omega)) (eX12_ruleDate (189, .iastore, 1) (List.mem_of_getElem? (i := 120) rfl)) (fun H54 lo54 hh54 hc54 hk54 hq54 _ => ?_)
        rw [show v50.toNatClampNeg = kn + 4 by show v50.toInt.toNat = _; omega] at hc54
        have mf54_a_12 := (hk54.1 a 11 12 11 0 fsX12 ha rfl (by decide) (by decide)).trans mf53_a_12
        have mf54_a_13 := (hk54.1 a 11 13 11 0 fsX12 ha rfl (by decide) (by decide)).trans mf53_a_13
        have mf54_a_32 := (hk54.1 a 11 32 11 0 fsX12 ha rfl (by decide) (by decide)).trans mf53_a_32
        have mf54_a_33 := (hk54.1 a 11 33 11 0 fsX12 ha rfl (by decide) (by decide)).trans fh53
        have kp54 := kp53.trans (hk54.mono (ms' := eM) (fun x hx => by cases List.mem_singleton.mp hx; decide))
        have jm54 := (j53).kept ha hk54 (by decide)
        have hfd : (dateG T sg).1 = (1, x44.1, 0, 0, x53.1.1) := by simp only [dateG, dKG, dMG, rdMin, hx14, hx17, hx44, hx47, hx53, if_neg d14, if_pos d17, if_pos d47]
        have hfin : (dateG T sg).2 = x53.2 := by simp only [dateG, dKG, dMG, hx14, hx17, hx44, hx47, hx53, if_neg d14, if_pos d17, if_pos d47]
        exact W.vret hx hb hr (fun t ht hW => ⟨rfl, by rw [ht]; exact hh54.l0, by rw [ht]; exact kp54, by rw [ht, hfin]; exact jm54, (updV (updV (updV (updV (updV (updV zd (kn + 2) (.int v3)) (kn + 3) (.int v7)) (kn + 4) (.int v11)) (kn) (.int v37)) (kn + 1) (.int v44)) (kn + 4) (.int v53)), by rw [ht]; exact ⟨ad, mf54_a_32, rad, hc54⟩, ⟨v37, v44, v3, v7, v53, by simp [updV], by simp [updV], by simp [updV], by simp [updV], by simp [updV], by rw [hfd, show v37.toInt = 1 by omega, show v44.toInt = x44.1 by omega, show v3.toInt = 0 by omega, show v7.toInt = 0 by omega, show v53.toInt = x53.1.1 by omega]⟩, fun i hi => by repeat rw [updV_ne (by omega)]⟩) hh54.2.2.1 (eX12_ruleDate (190, .return_, 1) (List.mem_of_getElem? (i := 121) rfl))
  · skip
    have d14 : x14.1 = 1 := by omega
    refine lv_aload_n hx hb (eX12_ruleDate (37, .aload_n 0, 1) (List.mem_of_getElem? (i := 25) rfl)) rfl (lv_at hl 0 rfl) ?_
    refine tz_get (r := 11) (k := 32) (t := (74, 0, 0)) hx hb hh14 ha rfl rfl (hcl11 56 32 (74, 0, 0) (by decide) rfl).1 mf14_a_32 (eX12_ruleDate (38, .getfield 56, 3) (List.mem_of_getElem? (i := 26) rfl)) ?_
    refine lv_iload_n hx hb (eX12_ruleDate (41, .iload_n 1, 1) (List.mem_of_getElem? (i := 27) rfl)) rfl (lv_at hl 1 rfl) ?_
    refine ff_iconst hx hb (eX12_ruleDate (42, .iconst 0, 1) (List.mem_of_getElem? (i := 28) rfl)) (by decide) (by decide) (fun v55 e55 => ?_)
    obtain ⟨-, zz56, hcc56, hyy56⟩ := zh_arr hh14 rad (show RTg[35]? = some (1, 0, 10, [(0, (-1000000), 1000000)]) from rfl)
    refine tz_iast hx hb (zAr hKn.1 0 (by decide)) hh14 rad (show RTg[35]? = some (1, 0, 10, [(0, (-1000000), 1000000)]) from rfl) md14 (zs_arr (md14.symm.trans hcc56) hyy56) (by omega) (by omega) (tz_i (by omega) (by omega)) (eX12_ruleDate (43, .iastore, 1) (List.mem_of_getElem? (i := 29) rfl)) (fun H56 lo56 hh56 hc56 hk56 hq56 _ => ?_)
    rw [show kk.toNatClampNeg = kn by show kk.toInt.toNat = _; omega] at hc56
    have mf56_a_12 := (hk56.1 a 11 12 11 0 fsX12 ha rfl (by decide) (by decide)).trans mf14_a_12
    have mf56_a_13 := (hk56.1 a 11 13 11 0 fsX12 ha rfl (by decide) (by decide)).trans mf14_a_13
    have mf56_a_32 := (hk56.1 a 11 32 11 0 fsX12 ha rfl (by decide) (by decide)).trans mf14_a_32
    have kp56 := kp14.trans (hk56.mono (ms' := eM) (fun x hx => by cases List.mem_singleton.mp hx; decide))
    have jm56 := (j14).kept ha hk56 (by decide)
    refine lv_aload_n hx hb (eX12_ruleDate (44, .aload_n 0, 1) (List.mem_of_getElem? (i := 30) rfl)) rfl (lv_at hl 0 rfl) ?_
    refine tz_get (r := 11) (k := 32) (t := (74, 0, 0)) hx hb hh56 ha rfl rfl (hcl11 56 32 (74, 0, 0) (by decide) rfl).1 mf56_a_32 (eX12_ruleDate (45, .getfield 56, 3) (List.mem_of_getElem? (i := 31) rfl)) ?_
    refine lv_iload_n hx hb (eX12_ruleDate (48, .iload_n 1, 1) (List.mem_of_getElem? (i := 32) rfl)) rfl (lv_at hl 1 rfl) ?_
    refine ff_iconst hx hb (eX12_ruleDate (49, .iconst 1, 1) (List.mem_of_getElem? (i := 33) rfl)) (by decide) (by decide) (fun v57 e57 => ?_)
    refine ff_iadd hx hb (eX12_ruleDate (50, .iadd, 1) (List.mem_of_getElem? (i := 34) rfl)) (by omega) (by omega) (fun v58 e58 => ?_)
    refine lv_aload_n hx hb (eX12_ruleDate (51, .aload_n 0, 1) (List.mem_of_getElem? (i := 35) rfl)) rfl (lv_at hl 0 rfl) ?_
    refine ff_iconst hx hb (eX12_ruleDate (52, .iconst 2, 1) (List.mem_of_getElem? (i := 36) rfl)) (by decide) (by decide) (fun v59 e59 => ?_)
    refine ff_iconst hx hb (eX12_ruleDate (53, .iconst 1, 1) (List.mem_of_getElem? (i := 37) rfl)) (by decide) (by decide) (fun v60 e60 => ?_)
    refine ff_bipush hx hb (eX12_ruleDate (54, .bipush 12, 2) (List.mem_of_getElem? (i := 38) rfl)) (by decide) (by decide) (fun v61 e61 => ?_)
    refine tz_rowV (As := [.int v59, .int v60, .int v61]) (st := [.int v58, .ref ad]) (b := a) (C := RX12) (Ts := gT) hx hb hml hown h2 (fun _ h => h) (hX12_upTo l D cA ro sz H0 a v59 v60 v61 1 1 12 T (x14.2) ha (by omega) (by omega) (by omega) (by decide)) ⟨rfl, rfl⟩ ⟨by decide, by decide⟩ ⟨by decide, by decide⟩ (tb_8 55 rfl rfl) (tb_1 12 rfl rfl) (tb_8 52 rfl rfl) (tb_8 54 rfl rfl) (tb_0 39 rfl rfl) (show yX12_upTo.cls ≠ "java/lang/invoke/MethodHandle" ∧ yX12_upTo.cls ≠ "java/lang/invoke/VarHandle" ∧ (parseMethodDescriptor yX12_upTo.desc).map (fun d => d.parameters.length) = some 3 by decide +kernel) zs_blind (zs_ob hh56 ha (show RTg[11]? = some (0, 11, 0, fsX12) from rfl) (zCX12 hKn.1)) (fun U hU hW => ⟨rfl, by rw [hU]; exact hh56.l0, zKb s U hW.alike hKn, by rw [hU]; exact jm56⟩) hh56.2.2.1 hl.1 (Nat.le_of_ble_eq_true rfl) (eX12_ruleDate (56, .invokevirtual 338, 3) (List.mem_of_getElem? (i := 39) rfl)) (fun r62 s62 t62 lo62 g62 f62 l62 => ?_)
    obtain ⟨v62, q62, e62, z62, c62, j62⟩ := f62
    cases q62
    rw [g62] at c62
    have hh62 : zh_ok D cA RTg ro sz H0 t62.heap lo62 := ⟨z62.1, z62.2.1, l62, z62.2.2.2⟩
    have kp62 := kp56.trans (c62.mono (ms' := eM) (by decide))
    have kf62 := utG_3 (T := T) (n := 1) (by decide) (lo := 1) (hi := 12) (r := x14.2)
    generalize hx62 : utG T 2 1 12 x14.2 = x62 at j62 e62 kf62
    have uu62 := j62.2.2
    unfold vOK at uu62
    have mf62_a_12 := (c62.1 a 11 12 11 0 fsX12 ha rfl (by decide) (by decide)).trans mf56_a_12
    have mf62_a_13 := (c62.1 a 11 13 11 0 fsX12 ha rfl (by decide) (by decide)).trans mf56_a_13
    have mf62_a_32 := (c62.1 a 11 32 11 0 fsX12 ha rfl (by decide) (by decide)).trans mf56_a_32
    have md62 := (c62.2 ad 35 0 0 10 _ rad rfl (by decide)).trans hc56
    refine W.eq (g2 := F0 m 59 ls [.int v62, .int v58, .ref ad]) rfl ?_
    obtain ⟨-, zz63, hcc63, hyy63⟩ := zh_arr hh62 rad (show RTg[35]? = some (1, 0, 10, [(0, (-1000000), 1000000)]) from rfl)
    refine tz_iast hx hb (zAr hKn.1 0 (by decide)) hh62 rad (show RTg[35]? = some (1, 0, 10, [(0, (-1000000), 1000000)]) from rfl) md62 (zs_arr (md62.symm.trans hcc63) hyy63) (by omega) (by omega) (tz_i (by omega) (by omega)) (eX12_ruleDate (59, .iastore, 1) (List.mem_of_getElem? (i := 40) rfl)) (fun H63 lo63 hh63 hc63 hk63 hq63 _ => ?_)
    rw [show v58.toNatClampNeg = kn + 1 by show v58.toInt.toNat = _; omega] at hc63
    have mf63_a_12 := (hk63.1 a 11 12 11 0 fsX12 ha rfl (by decide) (by decide)).trans mf62_a_12
    have mf63_a_13 := (hk63.1 a 11 13 11 0 fsX12 ha rfl (by decide) (by decide)).trans mf62_a_13
    have mf63_a_32 := (hk63.1 a 11 32 11 0 fsX12 ha rfl (by decide) (by decide)).trans mf62_a_32
    have kp63 := kp62.trans (hk63.mono (ms' := eM) (fun x hx => by cases List.mem_singleton.mp hx; decide))
    have jm63 := (j62).kept ha hk63 (by decide)
    refine lv_aload_n hx hb (eX12_ruleDate (60, .aload_n 0, 1) (List.mem_of_getElem? (i := 41) rfl)) rfl (lv_at hl 0 rfl) ?_
    refine ff_bipush hx hb (eX12_ruleDate (61, .bipush 46, 2) (List.mem_of_getElem? (i := 42) rfl)) (by decide) (by decide) (fun v64 e64 => ?_)
    refine tz_rowV (As := [.int v64]) (st := []) (b := a) (C := RX12) (Ts := gT) hx hb hml hown h2 (fun _ h => h) (hX12_expect l D cA ro sz H0 a v64 46 T (x62.2) ha (by omega) (by decide)) ⟨rfl, rfl⟩ ⟨by decide, by decide⟩ ⟨by decide, by decide⟩ (tb_8 35 rfl rfl) (tb_1 12 rfl rfl) (tb_8 32 rfl rfl) (tb_8 34 rfl rfl) (tb_0 34 rfl rfl) (show yX12_expect.cls ≠ "java/lang/invoke/MethodHandle" ∧ yX12_expect.cls ≠ "java/lang/invoke/VarHandle" ∧ (parseMethodDescriptor yX12_expect.desc).map (fun d => d.parameters.length) = some 1 by decide +kernel) zs_blind (zs_ob hh63 ha (show RTg[11]? = some (0, 11, 0, fsX12) from rfl) (zCX12 hKn.1)) (fun U hU hW => ⟨rfl, by rw [hU]; exact hh63.l0, zKb s U hW.alike hKn, by rw [hU]; exact jm63⟩) hh63.2.2.1 hl.1 (Nat.le_of_ble_eq_true rfl) (eX12_ruleDate (63, .invokevirtual 325, 3) (List.mem_of_getElem? (i := 43) rfl)) (fun r65 s65 t65 lo65 g65 f65 l65 => ?_)
    obtain ⟨q65, z65, c65, j65⟩ := f65
    cases q65
    rw [g65] at c65
    have hh65 : zh_ok D cA RTg ro sz H0 t65.heap lo65 := ⟨z65.1, z65.2.1, l65, z65.2.2.2⟩
    have kp65 := kp63.trans (c65.mono (ms' := eM) (by decide))
    generalize hx65 : exG T 46 x62.2 = x65 at j65
    have uu65 := j65.2.2
    unfold vOK at uu65
    have mf65_a_12 := (c65.1 a 11 12 11 0 fsX12 ha rfl (by decide) (by decide)).trans mf63_a_12
    have mf65_a_13 := (c65.1 a 11 13 11 0 fsX12 ha rfl (by decide) (by decide)).trans mf63_a_13
    have mf65_a_32 := (c65.1 a 11 32 11 0 fsX12 ha rfl (by decide) (by decide)).trans mf63_a_32
    have md65 := (c65.2 ad 35 0 0 10 _ rad rfl (by decide)).trans hc63
    refine W.eq (g2 := F0 m 66 ls []) rfl ?_
    refine lv_aload_n hx hb (eX12_ruleDate (66, .aload_n 0, 1) (List.mem_of_getElem? (i := 44) rfl)) rfl (lv_at hl 0 rfl) ?_
    refine tz_get (r := 11) (k := 32) (t := (74, 0, 0)) hx hb hh65 ha rfl rfl (hcl11 56 32 (74, 0, 0) (by decide) rfl).1 mf65_a_32 (eX12_ruleDate (67, .getfield 56, 3) (List.mem_of_getElem? (i := 45) rfl)) ?_
    refine lv_iload_n hx hb (eX12_ruleDate (70, .iload_n 1, 1) (List.mem_of_getElem? (i := 46) rfl)) rfl (lv_at hl 1 rfl) ?_
    refine ff_iconst hx hb (eX12_ruleDate (71, .iconst 2, 1) (List.mem_of_getElem? (i := 47) rfl)) (by decide) (by decide) (fun v66 e66 => ?_)
    refine ff_iadd hx hb (eX12_ruleDate (72, .iadd, 1) (List.mem_of_getElem? (i := 48) rfl)) (by omega) (by omega) (fun v67 e67 => ?_)
    refine lv_aload_n hx hb (eX12_ruleDate (73, .aload_n 0, 1) (List.mem_of_getElem? (i := 49) rfl)) rfl (lv_at hl 0 rfl) ?_
    refine ff_iconst hx hb (eX12_ruleDate (74, .iconst 1, 1) (List.mem_of_getElem? (i := 50) rfl)) (by decide) (by decide) (fun v68 e68 => ?_)
    refine ff_iconst hx hb (eX12_ruleDate (75, .iconst 1, 1) (List.mem_of_getElem? (i := 51) rfl)) (by decide) (by decide) (fun v69 e69 => ?_)
    refine ff_iconst hx hb (eX12_ruleDate (76, .iconst 5, 1) (List.mem_of_getElem? (i := 52) rfl)) (by decide) (by decide) (fun v70 e70 => ?_)
    refine tz_rowV (As := [.int v68, .int v69, .int v70]) (st := [.int v67, .ref ad]) (b := a) (C := RX12) (Ts := gT) hx hb hml hown h2 (fun _ h => h) (hX12_upTo l D cA ro sz H0 a v68 v69 v70 0 1 5 T (x65) ha (by omega) (by omega) (by omega) (by decide)) ⟨rfl, rfl⟩ ⟨by decide, by decide⟩ ⟨by decide, by decide⟩ (tb_8 55 rfl rfl) (tb_1 12 rfl rfl) (tb_8 52 rfl rfl) (tb_8 54 rfl rfl) (tb_0 39 rfl rfl) (show yX12_upTo.cls ≠ "java/lang/invoke/MethodHandle" ∧ yX12_upTo.cls ≠ "java/lang/invoke/VarHandle" ∧ (parseMethodDescriptor yX12_upTo.desc).map (fun d => d.parameters.length) = some 3 by decide +kernel) zs_blind (zs_ob hh65 ha (show RTg[11]? = some (0, 11, 0, fsX12) from rfl) (zCX12 hKn.1)) (fun U hU hW => ⟨rfl, by rw [hU]; exact hh65.l0, zKb s U hW.alike hKn, by rw [hU]; exact j65⟩) hh65.2.2.1 hl.1 (Nat.le_of_ble_eq_true rfl) (eX12_ruleDate (77, .invokevirtual 338, 3) (List.mem_of_getElem? (i := 53) rfl)) (fun r71 s71 t71 lo71 g71 f71 l71 => ?_)
    obtain ⟨v71, q71, e71, z71, c71, j71⟩ := f71
    cases q71
    rw [g71] at c71
    have hh71 : zh_ok D cA RTg ro sz H0 t71.heap lo71 := ⟨z71.1, z71.2.1, l71, z71.2.2.2⟩
    have kp71 := kp65.trans (c71.mono (ms' := eM) (by decide))
    have kf71 := utG_3 (T := T) (n := 0) (by decide) (lo := 1) (hi := 5) (r := x65)
    generalize hx71 : utG T 1 1 5 x65 = x71 at j71 e71 kf71
    have uu71 := j71.2.2
    unfold vOK at uu71
    have mf71_a_12 := (c71.1 a 11 12 11 0 fsX12 ha rfl (by decide) (by decide)).trans mf65_a_12
    have mf71_a_13 := (c71.1 a 11 13 11 0 fsX12 ha rfl (by decide) (by decide)).trans mf65_a_13
    have mf71_a_32 := (c71.1 a 11 32 11 0 fsX12 ha rfl (by decide) (by decide)).trans mf65_a_32
    have md71 := (c71.2 ad 35 0 0 10 _ rad rfl (by decide)).trans md65
    refine W.eq (g2 := F0 m 80 ls [.int v71, .int v67, .ref ad]) rfl ?_
    obtain ⟨-, zz72, hcc72, hyy72⟩ := zh_arr hh71 rad (show RTg[35]? = some (1, 0, 10, [(0, (-1000000), 1000000)]) from rfl)
    refine tz_iast hx hb (zAr hKn.1 0 (by decide)) hh71 rad (show RTg[35]? = some (1, 0, 10, [(0, (-1000000), 1000000)]) from rfl) md71 (zs_arr (md71.symm.trans hcc72) hyy72) (by omega) (by omega) (tz_i (by omega) (by omega)) (eX12_ruleDate (80, .iastore, 1) (List.mem_of_getElem? (i := 54) rfl)) (fun H72 lo72 hh72 hc72 hk72 hq72 _ => ?_)
    rw [show v67.toNatClampNeg = kn + 2 by show v67.toInt.toNat = _; omega] at hc72
    have mf72_a_12 := (hk72.1 a 11 12 11 0 fsX12 ha rfl (by decide) (by decide)).trans mf71_a_12
    have mf72_a_13 := (hk72.1 a 11 13 11 0 fsX12 ha rfl (by decide) (by decide)).trans mf71_a_13
    have mf72_a_32 := (hk72.1 a 11 32 11 0 fsX12 ha rfl (by decide) (by decide)).trans mf71_a_32
    have kp72 := kp71.trans (hk72.mono (ms' := eM) (fun x hx => by cases List.mem_singleton.mp hx; decide))
    have jm72 := (j71).kept ha hk72 (by decide)
    refine lv_aload_n hx hb (eX12_ruleDate (81, .aload_n 0, 1) (List.mem_of_getElem? (i := 55) rfl)) rfl (lv_at hl 0 rfl) ?_
    refine ff_bipush hx hb (eX12_ruleDate (82, .bipush 46, 2) (List.mem_of_getElem? (i := 56) rfl)) (by decide) (by decide) (fun v73 e73 => ?_)
    refine tz_rowV (As := [.int v73]) (st := []) (b := a) (C := RX12) (Ts := gT) hx hb hml hown h2 (fun _ h => h) (hX12_expect l D cA ro sz H0 a v73 46 T (x71.2) ha (by omega) (by decide)) ⟨rfl, rfl⟩ ⟨by decide, by decide⟩ ⟨by decide, by decide⟩ (tb_8 35 rfl rfl) (tb_1 12 rfl rfl) (tb_8 32 rfl rfl) (tb_8 34 rfl rfl) (tb_0 34 rfl rfl) (show yX12_expect.cls ≠ "java/lang/invoke/MethodHandle" ∧ yX12_expect.cls ≠ "java/lang/invoke/VarHandle" ∧ (parseMethodDescriptor yX12_expect.desc).map (fun d => d.parameters.length) = some 1 by decide +kernel) zs_blind (zs_ob hh72 ha (show RTg[11]? = some (0, 11, 0, fsX12) from rfl) (zCX12 hKn.1)) (fun U hU hW => ⟨rfl, by rw [hU]; exact hh72.l0, zKb s U hW.alike hKn, by rw [hU]; exact jm72⟩) hh72.2.2.1 hl.1 (Nat.le_of_ble_eq_true rfl) (eX12_ruleDate (84, .invokevirtual 325, 3) (List.mem_of_getElem? (i := 57) rfl)) (fun r74 s74 t74 lo74 g74 f74 l74 => ?_)
    obtain ⟨q74, z74, c74, j74⟩ := f74
    cases q74
    rw [g74] at c74
    have hh74 : zh_ok D cA RTg ro sz H0 t74.heap lo74 := ⟨z74.1, z74.2.1, l74, z74.2.2.2⟩
    have kp74 := kp72.trans (c74.mono (ms' := eM) (by decide))
    generalize hx74 : exG T 46 x71.2 = x74 at j74
    have uu74 := j74.2.2
    unfold vOK at uu74
    have mf74_a_12 := (c74.1 a 11 12 11 0 fsX12 ha rfl (by decide) (by decide)).trans mf72_a_12
    have mf74_a_13 := (c74.1 a 11 13 11 0 fsX12 ha rfl (by decide) (by decide)).trans mf72_a_13
    have mf74_a_32 := (c74.1 a 11 32 11 0 fsX12 ha rfl (by decide) (by decide)).trans mf72_a_32
    have md74 := (c74.2 ad 35 0 0 10 _ rad rfl (by decide)).trans hc72
    refine W.eq (g2 := F0 m 87 ls []) rfl ?_
    refine lv_aload_n hx hb (eX12_ruleDate (87, .aload_n 0, 1) (List.mem_of_getElem? (i := 58) rfl)) rfl (lv_at hl 0 rfl) ?_
    refine tz_get (r := 11) (k := 32) (t := (74, 0, 0)) hx hb hh74 ha rfl rfl (hcl11 56 32 (74, 0, 0) (by decide) rfl).1 mf74_a_32 (eX12_ruleDate (88, .getfield 56, 3) (List.mem_of_getElem? (i := 59) rfl)) ?_
    refine lv_iload_n hx hb (eX12_ruleDate (91, .iload_n 1, 1) (List.mem_of_getElem? (i := 60) rfl)) rfl (lv_at hl 1 rfl) ?_
    refine ff_iconst hx hb (eX12_ruleDate (92, .iconst 3, 1) (List.mem_of_getElem? (i := 61) rfl)) (by decide) (by decide) (fun v75 e75 => ?_)
    refine ff_iadd hx hb (eX12_ruleDate (93, .iadd, 1) (List.mem_of_getElem? (i := 62) rfl)) (by omega) (by omega) (fun v76 e76 => ?_)
    refine lv_aload_n hx hb (eX12_ruleDate (94, .aload_n 0, 1) (List.mem_of_getElem? (i := 63) rfl)) rfl (lv_at hl 0 rfl) ?_
    refine ff_iconst hx hb (eX12_ruleDate (95, .iconst 1, 1) (List.mem_of_getElem? (i := 64) rfl)) (by decide) (by decide) (fun v77 e77 => ?_)
    refine ff_iconst hx hb (eX12_ruleDate (96, .iconst 0, 1) (List.mem_of_getElem? (i := 65) rfl)) (by decide) (by decide) (fun v78 e78 => ?_)
    refine ff_bipush hx hb (eX12_ruleDate (97, .bipush 6, 2) (List.mem_of_getElem? (i := 66) rfl)) (by decide) (by decide) (fun v79 e79 => ?_)
    refine tz_rowV (As := [.int v77, .int v78, .int v79]) (st := [.int v76, .ref ad]) (b := a) (C := RX12) (Ts := gT) hx hb hml hown h2 (fun _ h => h) (hX12_upTo l D cA ro sz H0 a v77 v78 v79 0 0 6 T (x74) ha (by omega) (by omega) (by omega) (by decide)) ⟨rfl, rfl⟩ ⟨by decide, by decide⟩ ⟨by decide, by decide⟩ (tb_8 55 rfl rfl) (tb_1 12 rfl rfl) (tb_8 52 rfl rfl) (tb_8 54 rfl rfl) (tb_0 39 rfl rfl) (show yX12_upTo.cls ≠ "java/lang/invoke/MethodHandle" ∧ yX12_upTo.cls ≠ "java/lang/invoke/VarHandle" ∧ (parseMethodDescriptor yX12_upTo.desc).map (fun d => d.parameters.length) = some 3 by decide +kernel) zs_blind (zs_ob hh74 ha (show RTg[11]? = some (0, 11, 0, fsX12) from rfl) (zCX12 hKn.1)) (fun U hU hW => ⟨rfl, by rw [hU]; exact hh74.l0, zKb s U hW.alike hKn, by rw [hU]; exact j74⟩) hh74.2.2.1 hl.1 (Nat.le_of_ble_eq_true rfl) (eX12_ruleDate (99, .invokevirtual 338, 3) (List.mem_of_getElem? (i := 67) rfl)) (fun r80 s80 t80 lo80 g80 f80 l80 => ?_)
    obtain ⟨v80, q80, e80, z80, c80, j80⟩ := f80
    cases q80
    rw [g80] at c80
    have hh80 : zh_ok D cA RTg ro sz H0 t80.heap lo80 := ⟨z80.1, z80.2.1, l80, z80.2.2.2⟩
    have kp80 := kp74.trans (c80.mono (ms' := eM) (by decide))
    have kf80 := utG_3 (T := T) (n := 0) (by decide) (lo := 0) (hi := 6) (r := x74)
    generalize hx80 : utG T 1 0 6 x74 = x80 at j80 e80 kf80
    have uu80 := j80.2.2
    unfold vOK at uu80
    have mf80_a_12 := (c80.1 a 11 12 11 0 fsX12 ha rfl (by decide) (by decide)).trans mf74_a_12
    have mf80_a_13 := (c80.1 a 11 13 11 0 fsX12 ha rfl (by decide) (by decide)).trans mf74_a_13
    have mf80_a_32 := (c80.1 a 11 32 11 0 fsX12 ha rfl (by decide) (by decide)).trans mf74_a_32
    have md80 := (c80.2 ad 35 0 0 10 _ rad rfl (by decide)).trans md74
    refine W.eq (g2 := F0 m 102 ls [.int v80, .int v76, .ref ad]) rfl ?_
    obtain ⟨-, zz81, hcc81, hyy81⟩ := zh_arr hh80 rad (show RTg[35]? = some (1, 0, 10, [(0, (-1000000), 1000000)]) from rfl)
    refine tz_iast hx hb (zAr hKn.1 0 (by decide)) hh80 rad (show RTg[35]? = some (1, 0, 10, [(0, (-1000000), 1000000)]) from rfl) md80 (zs_arr (md80.symm.trans hcc81) hyy81) (by omega) (by omega) (tz_i (by omega) (by omega)) (eX12_ruleDate (102, .iastore, 1) (List.mem_of_getElem? (i := 68) rfl)) (fun H81 lo81 hh81 hc81 hk81 hq81 _ => ?_)
    rw [show v76.toNatClampNeg = kn + 3 by show v76.toInt.toNat = _; omega] at hc81
    have mf81_a_12 := (hk81.1 a 11 12 11 0 fsX12 ha rfl (by decide) (by decide)).trans mf80_a_12
    have mf81_a_13 := (hk81.1 a 11 13 11 0 fsX12 ha rfl (by decide) (by decide)).trans mf80_a_13
    have mf81_a_32 := (hk81.1 a 11 32 11 0 fsX12 ha rfl (by decide) (by decide)).trans mf80_a_32
    have kp81 := kp80.trans (hk81.mono (ms' := eM) (fun x hx => by cases List.mem_singleton.mp hx; decide))
    have jm81 := (j80).kept ha hk81 (by decide)
    refine lv_goto hx hb (eX12_ruleDate (103, .goto 63, 3) (List.mem_of_getElem? (i := 69) rfl)) (tgt := 166) rfl ?_
    refine lv_aload_n hx hb (eX12_ruleDate (166, .aload_n 0, 1) (List.mem_of_getElem? (i := 107) rfl)) rfl (lv_at hl 0 rfl) ?_
    refine ff_bipush hx hb (eX12_ruleDate (167, .bipush 47, 2) (List.mem_of_getElem? (i := 108) rfl)) (by decide) (by decide) (fun v82 e82 => ?_)
    refine tz_rowV (As := [.int v82]) (st := []) (b := a) (C := RX12) (Ts := gT) hx hb hml hown h2 (fun _ h => h) (hX12_takes l D cA ro sz H0 a v82 47 T (x80.2) ha (by omega) (by decide)) ⟨rfl, rfl⟩ ⟨by decide, by decide⟩ ⟨by decide, by decide⟩ (tb_8 13 rfl rfl) (tb_1 12 rfl rfl) (tb_8 10 rfl rfl) (tb_8 12 rfl rfl) (tb_0 30 rfl rfl) (show yX12_takes.cls ≠ "java/lang/invoke/MethodHandle" ∧ yX12_takes.cls ≠ "java/lang/invoke/VarHandle" ∧ (parseMethodDescriptor yX12_takes.desc).map (fun d => d.parameters.length) = some 1 by decide +kernel) zs_blind (zs_ob hh81 ha (show RTg[11]? = some (0, 11, 0, fsX12) from rfl) (zCX12 hKn.1)) (fun U hU hW => ⟨rfl, by rw [hU]; exact hh81.l0, zKb s U hW.alike hKn, by rw [hU]; exact jm81⟩) hh81.2.2.1 hl.1 (Nat.le_of_ble_eq_true rfl) (eX12_ruleDate (169, .invokevirtual 313, 3) (List.mem_of_getElem? (i := 109) rfl)) (fun r83 s83 t83 lo83 g83 f83 l83 => ?_)
    obtain ⟨v83, q83, e83, z83, c83, j83⟩ := f83
    cases q83
    rw [g83] at c83
    have hh83 : zh_ok D cA RTg ro sz H0 t83.heap lo83 := ⟨z83.1, z83.2.1, l83, z83.2.2.2⟩
    have kp83 := kp81.trans (c83.mono (ms' := eM) (by decide))
    have kf83 := tkG_01 T 47 x80.2
    generalize hx83 : tkG T 47 x80.2 = x83 at j83 e83 kf83
    have uu83 := j83.2.2
    unfold vOK at uu83
    have mf83_a_12 := (c83.1 a 11 12 11 0 fsX12 ha rfl (by decide) (by decide)).trans mf81_a_12
    have mf83_a_13 := (c83.1 a 11 13 11 0 fsX12 ha rfl (by decide) (by decide)).trans mf81_a_13
    have mf83_a_32 := (c83.1 a 11 32 11 0 fsX12 ha rfl (by decide) (by decide)).trans mf81_a_32
    have md83 := (c83.2 ad 35 0 0 10 _ rad rfl (by decide)).trans hc81
    refine W.eq (g2 := F0 m 172 ls [.int v83]) rfl ?_
    refine ff_if_eq hx hb (eX12_ruleDate (172, .ifCond .eq 18, 3) (List.mem_of_getElem? (i := 110) rfl)) (tgt := 190) rfl (fun c84 => ?_) (fun c84 => ?_)
    · skip
      have d83 : ¬ x83.1 = 1 := by omega
      have hfd : (dateG T sg).1 = (0, x62.1, x71.1, x80.1, 120) := by simp only [dateG, dKG, dMG, rdMin, hx14, hx62, hx65, hx71, hx74, hx80, hx83, if_pos d14, if_neg d83]
      have hfin : (dateG T sg).2 = x83.2 := by simp only [dateG, dKG, dMG, hx14, hx62, hx65, hx71, hx74, hx80, hx83, if_pos d14, if_neg d83]
      exact W.vret hx hb hr (fun t ht hW => ⟨rfl, by rw [ht]; exact hh83.l0, by rw [ht]; exact kp83, by rw [ht, hfin]; exact j83, (updV (updV (updV (updV (updV (updV (updV zd (kn + 2) (.int v3)) (kn + 3) (.int v7)) (kn + 4) (.int v11)) (kn) (.int v55)) (kn + 1) (.int v62)) (kn + 2) (.int v71)) (kn + 3) (.int v80)), by rw [ht]; exact ⟨ad, mf83_a_32, rad, md83⟩, ⟨v55, v62, v71, v80, v11, by simp [updV], by simp [updV], by simp [updV], by simp [updV], by simp [updV], by rw [hfd, show v55.toInt = 0 by omega, show v62.toInt = x62.1 by omega, show v71.toInt = x71.1 by omega, show v80.toInt = x80.1 by omega, show v11.toInt = 120 by omega]⟩, fun i hi => by repeat rw [updV_ne (by omega)]⟩) hh83.2.2.1 (eX12_ruleDate (190, .return_, 1) (List.mem_of_getElem? (i := 121) rfl))
    · skip
      have d83 : x83.1 = 1 := by omega
      refine lv_aload_n hx hb (eX12_ruleDate (175, .aload_n 0, 1) (List.mem_of_getElem? (i := 111) rfl)) rfl (lv_at hl 0 rfl) ?_
      refine tz_get (r := 11) (k := 32) (t := (74, 0, 0)) hx hb hh83 ha rfl rfl (hcl11 56 32 (74, 0, 0) (by decide) rfl).1 mf83_a_32 (eX12_ruleDate (176, .getfield 56, 3) (List.mem_of_getElem? (i := 112) rfl)) ?_
      refine lv_iload_n hx hb (eX12_ruleDate (179, .iload_n 1, 1) (List.mem_of_getElem? (i := 113) rfl)) rfl (lv_at hl 1 rfl) ?_
      refine ff_iconst hx hb (eX12_ruleDate (180, .iconst 4, 1) (List.mem_of_getElem? (i := 114) rfl)) (by decide) (by decide) (fun v85 e85 => ?_)
      refine ff_iadd hx hb (eX12_ruleDate (181, .iadd, 1) (List.mem_of_getElem? (i := 115) rfl)) (by omega) (by omega) (fun v86 e86 => ?_)
      refine lv_aload_n hx hb (eX12_ruleDate (182, .aload_n 0, 1) (List.mem_of_getElem? (i := 116) rfl)) rfl (lv_at hl 0 rfl) ?_
      refine ff_iconst hx hb (eX12_ruleDate (183, .iconst 0, 1) (List.mem_of_getElem? (i := 117) rfl)) (by decide) (by decide) (fun v87 e87 => ?_)
      refine ff_bipush hx hb (eX12_ruleDate (184, .bipush 24, 2) (List.mem_of_getElem? (i := 118) rfl)) (by decide) (by decide) (fun v88 e88 => ?_)
      refine tz_rowV (As := [.int v87, .int v88]) (st := [.int v86, .ref ad]) (b := a) (C := RX12) (Ts := gT) hx hb hml hown h2 (fun _ h => h) (hX12_ruleTime l D cA ro sz H0 a v87 v88 0 24 T (x83.2) ha (by omega) (by omega) (by decide)) ⟨rfl, rfl⟩ ⟨by decide, by decide⟩ ⟨by decide, by decide⟩ (tb_8 39 rfl rfl) (tb_1 12 rfl rfl) (tb_8 36 rfl rfl) (tb_8 38 rfl rfl) (tb_0 35 rfl rfl) (show yX12_ruleTime.cls ≠ "java/lang/invoke/MethodHandle" ∧ yX12_ruleTime.cls ≠ "java/lang/invoke/VarHandle" ∧ (parseMethodDescriptor yX12_ruleTime.desc).map (fun d => d.parameters.length) = some 2 by decide +kernel) zs_blind (zs_ob hh83 ha (show RTg[11]? = some (0, 11, 0, fsX12) from rfl) (zCX12 hKn.1)) (fun U hU hW => ⟨rfl, by rw [hU]; exact hh83.l0, zKb s U hW.alike hKn, by rw [hU]; exact j83⟩) hh83.2.2.1 hl.1 (Nat.le_of_ble_eq_true rfl) (eX12_ruleDate (186, .invokevirtual 342, 3) (List.mem_of_getElem? (i := 119) rfl)) (fun r89 s89 t89 lo89 g89 f89 l89 => ?_)
      obtain ⟨v89, hv89, q89, e89, fh89, eh89, z89, c89, j89⟩ := f89
      cases q89
      rw [g89] at c89
      have hh89 : zh_ok D cA RTg ro sz H0 t89.heap lo89 := ⟨z89.1, z89.2.1, l89, z89.2.2.2⟩
      have kp89 := kp83.trans (c89.mono (ms' := eM) (by decide))
      have kf89 := tmG_up T 0 24 x83.2
      generalize hx89 : tmG T 0 24 x83.2 = x89 at j89 e89 eh89 kf89
      have uu89 := j89.2.2
      unfold vOK at uu89
      have mf89_a_12 := (c89.1 a 11 12 11 0 fsX12 ha rfl (by decide) (by decide)).trans mf83_a_12
      have mf89_a_13 := (c89.1 a 11 13 11 0 fsX12 ha rfl (by decide) (by decide)).trans mf83_a_13
      have mf89_a_32 := (c89.1 a 11 32 11 0 fsX12 ha rfl (by decide) (by decide)).trans mf83_a_32
      have md89 := (c89.2 ad 35 0 0 10 _ rad rfl (by decide)).trans md83
      refine W.eq (g2 := F0 m 189 ls [.int v89, .int v86, .ref ad]) rfl ?_
      obtain ⟨-, zz90, hcc90, hyy90⟩ := zh_arr hh89 rad (show RTg[35]? = some (1, 0, 10, [(0, (-1000000), 1000000)]) from rfl)
      refine tz_iast hx hb (zAr hKn.1 0 (by decide)) hh89 rad (show RTg[35]? = some (1, 0, 10, [(0, (-1000000), 1000000)]) from rfl) md89 (zs_arr (md89.symm.trans hcc90) hyy90) (by omega) (by omega) (tz_i (by omega) (by omega)) (eX12_ruleDate (189, .iastore, 1) (List.mem_of_getElem? (i := 120) rfl)) (fun H90 lo90 hh90 hc90 hk90 hq90 _ => ?_)
      rw [show v86.toNatClampNeg = kn + 4 by show v86.toInt.toNat = _; omega] at hc90
      have mf90_a_12 := (hk90.1 a 11 12 11 0 fsX12 ha rfl (by decide) (by decide)).trans mf89_a_12
      have mf90_a_13 := (hk90.1 a 11 13 11 0 fsX12 ha rfl (by decide) (by decide)).trans mf89_a_13
      have mf90_a_32 := (hk90.1 a 11 32 11 0 fsX12 ha rfl (by decide) (by decide)).trans mf89_a_32
      have mf90_a_33 := (hk90.1 a 11 33 11 0 fsX12 ha rfl (by decide) (by decide)).trans fh89
      have kp90 := kp89.trans (hk90.mono (ms' := eM) (fun x hx => by cases List.mem_singleton.mp hx; decide))
      have jm90 := (j89).kept ha hk90 (by decide)
      have hfd : (dateG T sg).1 = (0, x62.1, x71.1, x80.1, x89.1.1) := by simp only [dateG, dKG, dMG, rdMin, hx14, hx62, hx65, hx71, hx74, hx80, hx83, hx89, if_pos d14, if_pos d83]
      have hfin : (dateG T sg).2 = x89.2 := by simp only [dateG, dKG, dMG, hx14, hx62, hx65, hx71, hx74, hx80, hx83, hx89, if_pos d14, if_pos d83]
      exact W.vret hx hb hr (fun t ht hW => ⟨rfl, by rw [ht]; exact hh90.l0, by rw [ht]; exact kp90, by rw [ht, hfin]; exact jm90, (updV (updV (updV (updV (updV (updV (updV (updV zd (kn + 2) (.int v3)) (kn + 3) (.int v7)) (kn + 4) (.int v11)) (kn) (.int v55)) (kn + 1) (.int v62)) (kn + 2) (.int v71)) (kn + 3) (.int v80)) (kn + 4) (.int v89)), by rw [ht]; exact ⟨ad, mf90_a_32, rad, hc90⟩, ⟨v55, v62, v71, v80, v89, by simp [updV], by simp [updV], by simp [updV], by simp [updV], by simp [updV], by rw [hfd, show v55.toInt = 0 by omega, show v62.toInt = x62.1 by omega, show v71.toInt = x71.1 by omega, show v80.toInt = x80.1 by omega, show v89.toInt = x89.1.1 by omega]⟩, fun i hi => by repeat rw [updV_ne (by omega)]⟩) hh90.2.2.1 (eX12_ruleDate (190, .return_, 1) (List.mem_of_getElem? (i := 121) rfl))
set_option maxRecDepth 100000 in
set_option maxHeartbeats 4000000 in
theorem hX12_ruleY (l : Launch) (D : va_G) (cA : Nat → ClassId) (ro : Nat → Option Nat) (sz : Nat) (H0 : Heap) (a : Nat) (zi : Int32) (L : List Int) (Z : List zE) (R : List rU) (T O : List Int) (ha : ro a = some 11)  : Met l yX12_rule (gW yX12_rule cX12_rule 7 (some .long)) { frames := 4, cells := 0, slots := 0, locals := 90 } (zs_P D cA ro sz H0 (fun H => jRY D cA ro H a L (Z, R) ∧ jRK D cA ro H a T O) [.ref a, .int zi]) (yy_QR D cA ro sz H0 a vL (spUY zi.toInt T L (Z, R))) 0 0 (zy_fr sz) := by
  refine zy_ofW (cc := cX12_rule) (maxL := 7) (ret := (some .long)) (by decide +kernel) rfl ?_
  intro p e s m args below meth c s1 B hml hv
  obtain ⟨rfl, hh, hKn, hJ⟩ := hv
  have hx := B.exec
  have hb := B.bytes
  have hr := B.returns
  have hlk := B.notSynchronized
  have hts0 := atoms_spec (ws := gW yX12_rule cX12_rule 7 (some .long)) B.pre
  have h2 : ∀ w ∈ gT, w.before ([.ref a, .int zi] : List Value).toArray s = true := fun w hw => hts0 w (List.mem_cons_of_mem _ hw)
  have hown : s.vm.findClass RX12 = some m.cls := findClass_of_methodNamed B.named
  have hl := lv_entry [.ref a, .int zi] (n := 7) (Nat.le_of_ble_eq_true rfl)
  rw [lg_entry_eq]
  generalize (lg_sl [.ref a, .int zi] ++ List.replicate (7 - (lg_sl [.ref a, .int zi]).length) Slot.unset).toArray = ls at hl ⊢
  have b_zi := zn_i32 zi
  have hD := zD_all h2 hKn.1
  have hcl11 := fun (idx k : Nat) (t : zt_T) (h : (idx, 11, k) ∈ gfX12) (hk : fsX12[k]? = some t) => zf_clause (ro := ro) (ms := yMr) h2 hown hKn.1 gfX12_ok (by decide +kernel) idx 11 k 11 0 fsX12 t h rfl hk
  have kp0 : zc_kept D RTg ro yMr s.heap s.heap := zc_kept.refl
  obtain ⟨hJy, hrt, -, hkb⟩ := id hJ
  have hJy : jRY D cA ro s.heap a L (Z, R) := hJy
  have hT := hkb.1
  obtain ⟨a4, a5, a6, a7, z4, z5, z6, z7, nz, -, -, -, -, f3, hnz, -⟩ := id hJy.1.2.1
  have hzl := hJy.1.2.2.2.1
  have hnz : nz.toInt = (Z.length : Int) := hnz
  have hzl : Z.length ≤ 8 := hzl
  refine lv_aload_n hx hb (eX12_rule (0, .aload_n 0, 1) (List.mem_of_getElem? (i := 0) rfl)) rfl (lv_at hl 0 rfl) ?_
  refine lv_aload_n hx hb (eX12_rule (1, .aload_n 0, 1) (List.mem_of_getElem? (i := 1) rfl)) rfl (lv_at hl 0 rfl) ?_
  refine lv_iload_n hx hb (eX12_rule (2, .iload_n 1, 1) (List.mem_of_getElem? (i := 2) rfl)) rfl (lv_at hl 1 rfl) ?_
  refine tz_rowV (As := [.int zi]) (st := [.ref a]) (b := a) (C := RX12) (Ts := gT) hx hb hml hown h2 (fun _ h => h) (hX12_isZone l D cA ro sz H0 a zi nz ha) ⟨rfl, rfl⟩ ⟨by decide, by decide⟩ ⟨by decide, by decide⟩ (tb_7 162 rfl rfl) (tb_1 12 rfl rfl) (tb_7 159 rfl rfl) (tb_7 161 rfl rfl) (tb_0 15 rfl rfl) (show yX12_isZone.cls ≠ "java/lang/invoke/MethodHandle" ∧ yX12_isZone.cls ≠ "java/lang/invoke/VarHandle" ∧ (parseMethodDescriptor yX12_isZone.desc).map (fun d => d.parameters.length) = some 1 by decide +kernel) zs_blind (zs_ob hh ha (show RTg[11]? = some (0, 11, 0, fsX12) from rfl) (zCX12 hKn.1)) (fun U hU hW => ⟨rfl, by rw [hU]; exact hh.l0, zKb s U hW.alike hKn, by rw [hU]; exact f3⟩) hh.2.2.1 hl.1 (Nat.le_of_ble_eq_true rfl) (eX12_rule (3, .invokevirtual 221, 3) (List.mem_of_getElem? (i := 3) rfl)) (fun r1 s1 t1 lo1 g1 f1 l1 => ?_)
  obtain ⟨z1, v1, q1, e1⟩ := f1
  cases q1
  rw [z1, g1]
  have hh1 : zh_ok D cA RTg ro sz H0 s.heap lo1 := ⟨hh.1, hh.2.1, l1, hh.2.2.2⟩
  refine W.eq (g2 := F0 m 6 ls [.int v1, .ref a]) rfl ?_
  refine ff_if_eq hx hb (eX12_rule (6, .ifCond .eq 7, 3) (List.mem_of_getElem? (i := 4) rfl)) (tgt := 13) rfl (fun c2 => ?_) (fun c2 => ?_)
  · skip
    refine ff_iconst hx hb (eX12_rule (13, .iconst 1, 1) (List.mem_of_getElem? (i := 7) rfl)) (by decide) (by decide) (fun v3 e3 => ?_)
    refine tz_put (r := 11) (k := 0) (t := (0, 0, 2)) hx hb hD hh1 ha rfl rfl ((hcl11 85 0 (0, 0, 2) (by decide) rfl).2 (by decide)) (tz_i (by omega) (by omega)) (eX12_rule (14, .putfield 85, 3) (List.mem_of_getElem? (i := 8) rfl)) (fun H4 lo4 hh4 hf4 hk4 _ hq4 => ?_)
    have mf4_a_3 := (hk4.1 a 11 3 11 0 fsX12 ha rfl (by decide) (by decide)).trans f3
    have kp4 := kp0.trans (hk4.mono (ms' := yMr) (fun x hx => by cases List.mem_singleton.mp hx; decide))
    have jm4 := (hrt).kept ha hk4 (by decide) (by decide) (by decide)
    have jy4 := hJy.kept ha hk4 (by decide)
    refine lv_aload_n hx hb (eX12_rule (17, .aload_n 0, 1) (List.mem_of_getElem? (i := 9) rfl)) rfl (lv_at hl 0 rfl) ?_
    refine tz_get (r := 11) (k := 0) (t := (0, 0, 2)) hx hb hh4 ha rfl rfl (hcl11 85 0 (0, 0, 2) (by decide) rfl).1 hf4 (eX12_rule (18, .getfield 85, 3) (List.mem_of_getElem? (i := 10) rfl)) ?_
    refine ff_if_le hx hb (eX12_rule (21, .ifCond .le 5, 3) (List.mem_of_getElem? (i := 11) rfl)) (tgt := 26) rfl (fun c5 => (by exfalso; omega)) (fun c5 => ?_)
    refine ff_lconst hx hb (eX12_rule (24, .lconst 0, 1) (List.mem_of_getElem? (i := 12) rfl)) rfl (fun v6 e6 => ?_)
    exact W.lret hx hb hr (fun t ht hW => ⟨_, _, _, L, (Z, R), rfl, ⟨_, rfl, rfl⟩, by rw [ht]; exact hh4.l0, by rw [ht]; exact kp4, by rw [ht]; exact hf4, by rw [ht]; exact jy4, rfl, rfl, Or.inl ⟨by omega, rfl, fun g => by have g1 := g.1; have g2 : zi.toInt < (Z.length : Int) := g.2; omega⟩⟩) hh4.2.2.1 (eX12_rule (25, .lreturn, 1) (List.mem_of_getElem? (i := 13) rfl))
  · skip
    refine ff_iconst hx hb (eX12_rule (9, .iconst 0, 1) (List.mem_of_getElem? (i := 5) rfl)) (by decide) (by decide) (fun v7 e7 => ?_)
    refine lv_goto hx hb (eX12_rule (10, .goto 4, 3) (List.mem_of_getElem? (i := 6) rfl)) (tgt := 14) rfl ?_
    refine tz_put (r := 11) (k := 0) (t := (0, 0, 2)) hx hb hD hh1 ha rfl rfl ((hcl11 85 0 (0, 0, 2) (by decide) rfl).2 (by decide)) (tz_i (by omega) (by omega)) (eX12_rule (14, .putfield 85, 3) (List.mem_of_getElem? (i := 8) rfl)) (fun H8 lo8 hh8 hf8 hk8 _ hq8 => ?_)
    have mf8_a_3 := (hk8.1 a 11 3 11 0 fsX12 ha rfl (by decide) (by decide)).trans f3
    have kp8 := kp0.trans (hk8.mono (ms' := yMr) (fun x hx => by cases List.mem_singleton.mp hx; decide))
    have jm8 := (hrt).kept ha hk8 (by decide) (by decide) (by decide)
    have jy8 := hJy.kept ha hk8 (by decide)
    refine lv_aload_n hx hb (eX12_rule (17, .aload_n 0, 1) (List.mem_of_getElem? (i := 9) rfl)) rfl (lv_at hl 0 rfl) ?_
    refine tz_get (r := 11) (k := 0) (t := (0, 0, 2)) hx hb hh8 ha rfl rfl (hcl11 85 0 (0, 0, 2) (by decide) rfl).1 hf8 (eX12_rule (18, .getfield 85, 3) (List.mem_of_getElem? (i := 10) rfl)) ?_
    refine ff_if_le hx hb (eX12_rule (21, .ifCond .le 5, 3) (List.mem_of_getElem? (i := 11) rfl)) (tgt := 26) rfl (fun c9 => ?_) (fun c9 => (by exfalso; omega))
    refine lv_aload_n hx hb (eX12_rule (26, .aload_n 0, 1) (List.mem_of_getElem? (i := 14) rfl)) rfl (lv_at hl 0 rfl) ?_
    refine tz_rowV (As := []) (st := []) (b := a) (C := RX12) (Ts := gT) hx hb hml hown h2 (fun _ h => h) (hX12_begin_ l D cA ro sz H0 a T ha) ⟨rfl, rfl⟩ ⟨by decide, by decide⟩ ⟨by decide, by decide⟩ (tb_8 5 rfl rfl) (tb_1 12 rfl rfl) (tb_8 2 rfl rfl) (tb_8 4 rfl rfl) (tb_0 28 rfl rfl) (show yX12_begin_.cls ≠ "java/lang/invoke/MethodHandle" ∧ yX12_begin_.cls ≠ "java/lang/invoke/VarHandle" ∧ (parseMethodDescriptor yX12_begin_.desc).map (fun d => d.parameters.length) = some 0 by decide +kernel) zs_blind (zs_ob hh8 ha (show RTg[11]? = some (0, 11, 0, fsX12) from rfl) (zCX12 hKn.1)) (fun U hU hW => ⟨rfl, by rw [hU]; exact hh8.l0, zKb s U hW.alike hKn, by rw [hU]; exact jm8⟩) hh8.2.2.1 hl.1 (Nat.le_of_ble_eq_true rfl) (eX12_rule (27, .invokevirtual 346, 3) (List.mem_of_getElem? (i := 15) rfl)) (fun r10 s10 t10 lo10 g10 f10 l10 => ?_)
    obtain ⟨q10, z10, c10, j10⟩ := f10
    cases q10
    rw [g10] at c10
    have hh10 : zh_ok D cA RTg ro sz H0 t10.heap lo10 := ⟨z10.1, z10.2.1, l10, z10.2.2.2⟩
    have kp10 := kp8.trans (c10.mono (ms' := yMr) (by decide))
    have mf10_a_3 := (c10.1 a 11 3 11 0 fsX12 ha rfl (by decide) (by decide)).trans mf8_a_3
    have mf10_a_0 := (c10.1 a 11 0 11 0 fsX12 ha rfl (by decide) (by decide)).trans hf8
    have jy10 := jy8.kept ha c10 (by decide)
    refine W.eq (g2 := F0 m 30 ls []) rfl ?_
    refine lv_aload_n hx hb (eX12_rule (30, .aload_n 0, 1) (List.mem_of_getElem? (i := 16) rfl)) rfl (lv_at hl 0 rfl) ?_
    refine tz_rowV (As := []) (st := []) (b := a) (C := RX12) (Ts := gT) hx hb hml hown h2 (fun _ h => h) (hX12_ruleName l D cA ro sz H0 a T (((0, -1, 1000) : uS)) ha) ⟨rfl, rfl⟩ ⟨by decide, by decide⟩ ⟨by decide, by decide⟩ (tb_8 9 rfl rfl) (tb_1 12 rfl rfl) (tb_8 6 rfl rfl) (tb_8 8 rfl rfl) (tb_0 29 rfl rfl) (show yX12_ruleName.cls ≠ "java/lang/invoke/MethodHandle" ∧ yX12_ruleName.cls ≠ "java/lang/invoke/VarHandle" ∧ (parseMethodDescriptor yX12_ruleName.desc).map (fun d => d.parameters.length) = some 0 by decide +kernel) zs_blind (zs_ob hh10 ha (show RTg[11]? = some (0, 11, 0, fsX12) from rfl) (zCX12 hKn.1)) (fun U hU hW => ⟨rfl, by rw [hU]; exact hh10.l0, zKb s U hW.alike hKn, by rw [hU]; exact j10⟩) hh10.2.2.1 hl.1 (Nat.le_of_ble_eq_true rfl) (eX12_rule (31, .invokevirtual 348, 3) (List.mem_of_getElem? (i := 17) rfl)) (fun r11 s11 t11 lo11 g11 f11 l11 => ?_)
    obtain ⟨q11, z11, c11, j11⟩ := f11
    cases q11
    rw [g11] at c11
    have hh11 : zh_ok D cA RTg ro sz H0 t11.heap lo11 := ⟨z11.1, z11.2.1, l11, z11.2.2.2⟩
    have kp11 := kp10.trans (c11.mono (ms' := yMr) (by decide))
    generalize hx11 : nameG T (((0, -1, 1000) : uS)) = x11 at j11
    have uu11 := j11.2.2
    unfold vOK at uu11
    have mf11_a_3 := (c11.1 a 11 3 11 0 fsX12 ha rfl (by decide) (by decide)).trans mf10_a_3
    have mf11_a_0 := (c11.1 a 11 0 11 0 fsX12 ha rfl (by decide) (by decide)).trans mf10_a_0
    have jy11 := jy10.kept ha c11 (by decide)
    refine W.eq (g2 := F0 m 34 ls []) rfl ?_
    refine lv_aload_n hx hb (eX12_rule (34, .aload_n 0, 1) (List.mem_of_getElem? (i := 18) rfl)) rfl (lv_at hl 0 rfl) ?_
    refine ff_iconst hx hb (eX12_rule (35, .iconst 1, 1) (List.mem_of_getElem? (i := 19) rfl)) (by decide) (by decide) (fun v12 e12 => ?_)
    refine ff_bipush hx hb (eX12_rule (36, .bipush 23, 2) (List.mem_of_getElem? (i := 20) rfl)) (by decide) (by decide) (fun v13 e13 => ?_)
    refine tz_rowV (As := [.int v12, .int v13]) (st := []) (b := a) (C := RX12) (Ts := gT) hx hb hml hown h2 (fun _ h => h) (hX12_ruleTime l D cA ro sz H0 a v12 v13 1 23 T (x11) ha (by omega) (by omega) (by decide)) ⟨rfl, rfl⟩ ⟨by decide, by decide⟩ ⟨by decide, by decide⟩ (tb_8 39 rfl rfl) (tb_1 12 rfl rfl) (tb_8 36 rfl rfl) (tb_8 38 rfl rfl) (tb_0 35 rfl rfl) (show yX12_ruleTime.cls ≠ "java/lang/invoke/MethodHandle" ∧ yX12_ruleTime.cls ≠ "java/lang/invoke/VarHandle" ∧ (parseMethodDescriptor yX12_ruleTime.desc).map (fun d => d.parameters.length) = some 2 by decide +kernel) zs_blind (zs_ob hh11 ha (show RTg[11]? = some (0, 11, 0, fsX12) from rfl) (zCX12 hKn.1)) (fun U hU hW => ⟨rfl, by rw [hU]; exact hh11.l0, zKb s U hW.alike hKn, by rw [hU]; exact j11⟩) hh11.2.2.1 hl.1 (Nat.le_of_ble_eq_true rfl) (eX12_rule (38, .invokevirtual 342, 3) (List.mem_of_getElem? (i := 21) rfl)) (fun r14 s14 t14 lo14 g14 f14 l14 => ?_)
    obtain ⟨v14, hv14, q14, e14, fh14, eh14, z14, c14, j14⟩ := f14
    cases q14
    rw [g14] at c14
    have hh14 : zh_ok D cA RTg ro sz H0 t14.heap lo14 := ⟨z14.1, z14.2.1, l14, z14.2.2.2⟩
    have kp14 := kp11.trans (c14.mono (ms' := yMr) (by decide))
    have kf14 := tmG_up T 1 23 x11
    generalize hx14 : tmG T 1 23 x11 = x14 at j14 e14 eh14 kf14
    have uu14 := j14.2.2
    unfold vOK at uu14
    have mf14_a_3 := (c14.1 a 11 3 11 0 fsX12 ha rfl (by decide) (by decide)).trans mf11_a_3
    have mf14_a_0 := (c14.1 a 11 0 11 0 fsX12 ha rfl (by decide) (by decide)).trans mf11_a_0
    have jy14 := jy11.kept ha c14 (by decide)
    refine W.eq (g2 := F0 m 41 ls [.int v14]) rfl ?_
    refine ff_ineg hx hb (eX12_rule (41, .ineg, 1) (List.mem_of_getElem? (i := 22) rfl)) (by omega) (by omega) (fun v15 e15 => ?_)
    refine lv_istore_n hx hb (eX12_rule (42, .istore_n 2, 1) (List.mem_of_getElem? (i := 23) rfl)) rfl hl (by decide) rfl (fun ls16 hl16 => ?_)
    refine lv_aload_n hx hb (eX12_rule (43, .aload_n 0, 1) (List.mem_of_getElem? (i := 24) rfl)) rfl (lv_at hl16 1 rfl) ?_
    refine tz_get (r := 11) (k := 33) (t := (0, (-2147483648), 2147483647)) hx hb hh14 ha rfl rfl (hcl11 328 33 (0, (-2147483648), 2147483647) (by decide) rfl).1 fh14 (eX12_rule (44, .getfield 328, 3) (List.mem_of_getElem? (i := 25) rfl)) ?_
    refine lv_istore_n hx hb (eX12_rule (47, .istore_n 3, 1) (List.mem_of_getElem? (i := 26) rfl)) rfl hl16 (by decide) rfl (fun ls17 hl17 => ?_)
    have jn218 : ∀ (ot tw : Int32) (g : uS) (R9 : rU) (ls : Array Slot) (H : Heap) (lo0 : List Loc), (-6099 ≤ ot.toInt ∧ ot.toInt ≤ 6099) → (tw.toInt = 0 ∨ tw.toInt = 1) → ruG T = (R9, g) → ((tw.toInt = 0 ∧ R9.1 = 1 ∧ R9.2.1 = v15.toInt) ∨ (tw.toInt = 1 ∧ R9.1 = 2 ∧ R9.2.1 = v15.toInt ∧ R9.2.2.1 = ot.toInt ∧ ∃ zd : Nat → Value, jDf D cA ro H a zd ∧ dN zd 0 R9.2.2.2.1 ∧ dN zd 5 R9.2.2.2.2)) → zh_f D H a 11 0 = .int v7 → zh_ok D cA RTg ro sz H0 H lo0 → zc_kept D RTg ro yMr s.heap H → jRY D cA ro H a L (Z, R) → jV D cA ro H a T g → lv_has ls 7 [(4, .int ot), (5, .int tw), (0, .ref a), (1, .int zi), (2, .int v15), (3, .int hv14)] → W p l e (headSpec (gW yX12_rule cX12_rule 7 (some .long)) { frames := 4, cells := 0, slots := 0, locals := 90 }).room s m ([.ref a, .int zi] : List Value).toArray below meth c H lo0 0 0 (MQ below (yy_QR D cA ro sz H0 a vL (spUY zi.toInt T L (Z, R))) ([.ref a, .int zi] : List Value).toArray s 0 0 (zy_fr sz)) (F0 m 218 ls []) := by
      intro ot tw g R9 ls H lo0 b1 b2 htot hdn fw hh0 kpl jyl jl hl
      have hul := jl.2.2
      unfold vOK at hul
      refine lv_aload_n hx hb (eX12_rule (218, .aload_n 0, 1) (List.mem_of_getElem? (i := 109) rfl)) rfl (lv_at hl 2 rfl) ?_
      obtain ⟨jt18, ⟨av18, fv18, bv18, f2918, f3018, f3118, hav18, hfv18, hbv18⟩, hu18⟩ := id jl
      have hw18 := hu18
      unfold vOK at hw18
      obtain ⟨tb18, n18, z18, f1218, r018, f1318, hn18, hc18, hz18⟩ := id jt18
      refine tz_get (r := 11) (k := 30) (t := (0, (-1), 120)) hx hb hh0 ha rfl rfl (hcl11 296 30 (0, (-1), 120) (by decide) rfl).1 f3018 (eX12_rule (219, .getfield 296, 3) (List.mem_of_getElem? (i := 110) rfl)) ?_
      refine ff_if_lt hx hb (eX12_rule (222, .ifCond .lt 9, 3) (List.mem_of_getElem? (i := 111) rfl)) (tgt := 231) rfl (fun c19 => ?_) (fun c19 => ?_)
      · skip
        refine lv_aload_n hx hb (eX12_rule (231, .aload_n 0, 1) (List.mem_of_getElem? (i := 116) rfl)) rfl (lv_at hl 2 rfl) ?_
        refine tz_get (r := 11) (k := 31) (t := (0, (-2147483648), 2147483647)) hx hb hh0 ha rfl rfl (hcl11 299 31 (0, (-2147483648), 2147483647) (by decide) rfl).1 f3118 (eX12_rule (232, .getfield 299, 3) (List.mem_of_getElem? (i := 117) rfl)) ?_
        refine ff_sipush hx hb (eX12_rule (235, .sipush 1000, 3) (List.mem_of_getElem? (i := 118) rfl)) (by decide) (by decide) (fun v20 e20 => ?_)
        refine ff_icmp_ge hx hb (eX12_rule (238, .if_icmp .ge 9, 3) (List.mem_of_getElem? (i := 119) rfl)) (tgt := 247) rfl (fun c21 => ?_) (fun c21 => ?_)
        · skip
          have hN : vdF (ruF T).2 = NONEI := by rw [(ru_same hT).1.verdict hT, htot]; unfold vdG; rw [if_neg (show ¬ 0 ≤ g.2.1 by omega), if_neg (show ¬ g.2.2 < 1000 by omega)]
          have hrs := (ru_same hT).2 ((ru_same hT).1.b0.mpr (by rw [htot]; show g.2.1 < 0; omega))
          rw [htot] at hrs
          obtain ⟨hr1, hr2, hr3⟩ := hrs
          obtain ⟨hJz9, ⟨b8, b9, bA, bB, z8, z9, zA, zB, ⟨fq8, rq8, cq8⟩, ⟨fq9, rq9, cq9⟩, ⟨fqA, rqA, cqA⟩, ⟨fqB, rqB, cqB⟩, hrp, hrw⟩, hRl, hsr⟩ := id jyl
          have hJz9 : jRZ D cA ro H a L Z := hJz9
          have hRl : R.length = Z.length := hRl
          have hsr : ∀ e ∈ Z, srt e.2 := hsr
          have hdx : ∃ zd : Nat → Value, jDf D cA ro H a zd ∧ (R9.1 = 2 → R9.2.2.1 = ot.toInt ∧ dN zd 0 R9.2.2.2.1 ∧ dN zd 5 R9.2.2.2.2) := by rcases hdn with h | ⟨-, -, -, h4, zd, h5, h6, h7⟩; (obtain ⟨zd, h9⟩ := jDf_any hh0 ha; exact ⟨zd, h9, fun q => by have := h.2.1; omega⟩); exact ⟨zd, h5, fun _ => ⟨h4, h6, h7⟩⟩
          obtain ⟨zd, ⟨ad, fqd, rad, cqd⟩, hcd⟩ := hdx
          refine lv_aload_n hx hb (eX12_rule (247, .aload_n 0, 1) (List.mem_of_getElem? (i := 124) rfl)) rfl (lv_at hl 2 rfl) ?_
          refine tz_get (r := 11) (k := 8) (t := (56, 0, 0)) hx hb hh0 ha rfl rfl (hcl11 28 8 (56, 0, 0) (by decide) rfl).1 fq8 (eX12_rule (248, .getfield 28, 3) (List.mem_of_getElem? (i := 125) rfl)) ?_
          refine lv_iload_n hx hb (eX12_rule (251, .iload_n 1, 1) (List.mem_of_getElem? (i := 126) rfl)) rfl (lv_at hl 3 rfl) ?_
          refine lv_iload hx hb (eX12_rule (252, .iload 5, 2) (List.mem_of_getElem? (i := 127) rfl)) (lv_at hl 1 rfl) ?_
          refine ff_if_eq hx hb (eX12_rule (254, .ifCond .eq 7, 3) (List.mem_of_getElem? (i := 128) rfl)) (tgt := 261) rfl (fun c22 => ?_) (fun c22 => ?_)
          · skip
            refine ff_iconst hx hb (eX12_rule (261, .iconst 1, 1) (List.mem_of_getElem? (i := 131) rfl)) (by decide) (by decide) (fun v23 e23 => ?_)
            obtain ⟨-, zz24, hcc24, hyy24⟩ := zh_arr hh0 rq8 (show RTg[26]? = some (1, 0, 8, [(0, 0, 2)]) from rfl)
            refine tz_iast hx hb (zAr hKn.1 0 (by decide)) hh0 rq8 (show RTg[26]? = some (1, 0, 8, [(0, 0, 2)]) from rfl) cq8 (zs_arr (cq8.symm.trans hcc24) hyy24) (by omega) (by omega) (tz_i (by omega) (by omega)) (eX12_rule (262, .iastore, 1) (List.mem_of_getElem? (i := 132) rfl)) (fun H24 lo24 hh24 hc24 hk24 hq24 _ => ?_)
            rw [show zi.toNatClampNeg = zi.toInt.toNat by show zi.toInt.toNat = _; omega] at hc24
            have mf24_a_0 := (hk24.1 a 11 0 11 0 fsX12 ha rfl (by decide) (by decide)).trans fw
            have mf24_a_29 := (hk24.1 a 11 29 11 0 fsX12 ha rfl (by decide) (by decide)).trans f2918
            have mf24_a_30 := (hk24.1 a 11 30 11 0 fsX12 ha rfl (by decide) (by decide)).trans f3018
            have mf24_a_31 := (hk24.1 a 11 31 11 0 fsX12 ha rfl (by decide) (by decide)).trans f3118
            have mf24_a_13 := (hk24.1 a 11 13 11 0 fsX12 ha rfl (by decide) (by decide)).trans f1318
            have mf24_a_8 := (hk24.1 a 11 8 11 0 fsX12 ha rfl (by decide) (by decide)).trans fq8
            have mf24_a_9 := (hk24.1 a 11 9 11 0 fsX12 ha rfl (by decide) (by decide)).trans fq9
            have mf24_a_10 := (hk24.1 a 11 10 11 0 fsX12 ha rfl (by decide) (by decide)).trans fqA
            have mf24_a_11 := (hk24.1 a 11 11 11 0 fsX12 ha rfl (by decide) (by decide)).trans fqB
            have mf24_a_32 := (hk24.1 a 11 32 11 0 fsX12 ha rfl (by decide) (by decide)).trans fqd
            have mc24_b9 := (hk24.2 b9 27 0 0 8 _ rq9 rfl (by decide)).trans cq9
            have mc24_bA := (hk24.2 bA 28 0 0 8 _ rqA rfl (by decide)).trans cqA
            have mc24_bB := (hk24.2 bB 29 0 0 80 _ rqB rfl (by decide)).trans cqB
            have mc24_ad := (hk24.2 ad 35 0 0 10 _ rad rfl (by decide)).trans cqd
            have kp24 := kpl.trans (hk24.mono (ms' := yMr) (fun x hx => by cases List.mem_singleton.mp hx; decide))
            have jz24 := hJz9.kept ha hk24 (by decide)
            refine lv_aload_n hx hb (eX12_rule (263, .aload_n 0, 1) (List.mem_of_getElem? (i := 133) rfl)) rfl (lv_at hl 2 rfl) ?_
            refine tz_get (r := 11) (k := 9) (t := (58, 0, 0)) hx hb hh24 ha rfl rfl (hcl11 31 9 (58, 0, 0) (by decide) rfl).1 mf24_a_9 (eX12_rule (264, .getfield 31, 3) (List.mem_of_getElem? (i := 134) rfl)) ?_
            refine lv_iload_n hx hb (eX12_rule (267, .iload_n 1, 1) (List.mem_of_getElem? (i := 135) rfl)) rfl (lv_at hl 3 rfl) ?_
            refine lv_iload_n hx hb (eX12_rule (268, .iload_n 2, 1) (List.mem_of_getElem? (i := 136) rfl)) rfl (lv_at hl 4 rfl) ?_
            obtain ⟨-, zz25, hcc25, hyy25⟩ := zh_arr hh24 rq9 (show RTg[27]? = some (1, 0, 8, [(0, (-1000000), 1000000)]) from rfl)
            refine tz_iast hx hb (zAr hKn.1 0 (by decide)) hh24 rq9 (show RTg[27]? = some (1, 0, 8, [(0, (-1000000), 1000000)]) from rfl) mc24_b9 (zs_arr (mc24_b9.symm.trans hcc25) hyy25) (by omega) (by omega) (tz_i (by omega) (by omega)) (eX12_rule (269, .iastore, 1) (List.mem_of_getElem? (i := 137) rfl)) (fun H25 lo25 hh25 hc25 hk25 hq25 _ => ?_)
            rw [show zi.toNatClampNeg = zi.toInt.toNat by show zi.toInt.toNat = _; omega] at hc25
            have mf25_a_0 := (hk25.1 a 11 0 11 0 fsX12 ha rfl (by decide) (by decide)).trans mf24_a_0
            have mf25_a_29 := (hk25.1 a 11 29 11 0 fsX12 ha rfl (by decide) (by decide)).trans mf24_a_29
            have mf25_a_30 := (hk25.1 a 11 30 11 0 fsX12 ha rfl (by decide) (by decide)).trans mf24_a_30
            have mf25_a_31 := (hk25.1 a 11 31 11 0 fsX12 ha rfl (by decide) (by decide)).trans mf24_a_31
            have mf25_a_13 := (hk25.1 a 11 13 11 0 fsX12 ha rfl (by decide) (by decide)).trans mf24_a_13
            have mf25_a_8 := (hk25.1 a 11 8 11 0 fsX12 ha rfl (by decide) (by decide)).trans mf24_a_8
            have mf25_a_9 := (hk25.1 a 11 9 11 0 fsX12 ha rfl (by decide) (by decide)).trans mf24_a_9
            have mf25_a_10 := (hk25.1 a 11 10 11 0 fsX12 ha rfl (by decide) (by decide)).trans mf24_a_10
            have mf25_a_11 := (hk25.1 a 11 11 11 0 fsX12 ha rfl (by decide) (by decide)).trans mf24_a_11
            have mf25_a_32 := (hk25.1 a 11 32 11 0 fsX12 ha rfl (by decide) (by decide)).trans mf24_a_32
            have mc25_bA := (hk25.2 bA 28 0 0 8 _ rqA rfl (by decide)).trans mc24_bA
            have mc25_bB := (hk25.2 bB 29 0 0 80 _ rqB rfl (by decide)).trans mc24_bB
            have mc25_ad := (hk25.2 ad 35 0 0 10 _ rad rfl (by decide)).trans mc24_ad
            have mc25_b8 := (hk25.2 b8 26 0 0 8 _ rq8 rfl (by decide)).trans hc24
            have kp25 := kp24.trans (hk25.mono (ms' := yMr) (fun x hx => by cases List.mem_singleton.mp hx; decide))
            have jz25 := jz24.kept ha hk25 (by decide)
            refine lv_aload_n hx hb (eX12_rule (270, .aload_n 0, 1) (List.mem_of_getElem? (i := 138) rfl)) rfl (lv_at hl 2 rfl) ?_
            refine tz_get (r := 11) (k := 10) (t := (60, 0, 0)) hx hb hh25 ha rfl rfl (hcl11 34 10 (60, 0, 0) (by decide) rfl).1 mf25_a_10 (eX12_rule (271, .getfield 34, 3) (List.mem_of_getElem? (i := 139) rfl)) ?_
            refine lv_iload_n hx hb (eX12_rule (274, .iload_n 1, 1) (List.mem_of_getElem? (i := 140) rfl)) rfl (lv_at hl 3 rfl) ?_
            refine lv_iload hx hb (eX12_rule (275, .iload 4, 2) (List.mem_of_getElem? (i := 141) rfl)) (lv_at hl 0 rfl) ?_
            obtain ⟨-, zz26, hcc26, hyy26⟩ := zh_arr hh25 rqA (show RTg[28]? = some (1, 0, 8, [(0, (-1000000), 1000000)]) from rfl)
            refine tz_iast hx hb (zAr hKn.1 0 (by decide)) hh25 rqA (show RTg[28]? = some (1, 0, 8, [(0, (-1000000), 1000000)]) from rfl) mc25_bA (zs_arr (mc25_bA.symm.trans hcc26) hyy26) (by omega) (by omega) (tz_i (by omega) (by omega)) (eX12_rule (277, .iastore, 1) (List.mem_of_getElem? (i := 142) rfl)) (fun H26 lo26 hh26 hc26 hk26 hq26 _ => ?_)
            rw [show zi.toNatClampNeg = zi.toInt.toNat by show zi.toInt.toNat = _; omega] at hc26
            have mf26_a_0 := (hk26.1 a 11 0 11 0 fsX12 ha rfl (by decide) (by decide)).trans mf25_a_0
            have mf26_a_29 := (hk26.1 a 11 29 11 0 fsX12 ha rfl (by decide) (by decide)).trans mf25_a_29
            have mf26_a_30 := (hk26.1 a 11 30 11 0 fsX12 ha rfl (by decide) (by decide)).trans mf25_a_30
            have mf26_a_31 := (hk26.1 a 11 31 11 0 fsX12 ha rfl (by decide) (by decide)).trans mf25_a_31
            have mf26_a_13 := (hk26.1 a 11 13 11 0 fsX12 ha rfl (by decide) (by decide)).trans mf25_a_13
            have mf26_a_8 := (hk26.1 a 11 8 11 0 fsX12 ha rfl (by decide) (by decide)).trans mf25_a_8
            have mf26_a_9 := (hk26.1 a 11 9 11 0 fsX12 ha rfl (by decide) (by decide)).trans mf25_a_9
            have mf26_a_10 := (hk26.1 a 11 10 11 0 fsX12 ha rfl (by decide) (by decide)).trans mf25_a_10
            have mf26_a_11 := (hk26.1 a 11 11 11 0 fsX12 ha rfl (by decide) (by decide)).trans mf25_a_11
            have mf26_a_32 := (hk26.1 a 11 32 11 0 fsX12 ha rfl (by decide) (by decide)).trans mf25_a_32
            have mc26_bB := (hk26.2 bB 29 0 0 80 _ rqB rfl (by decide)).trans mc25_bB
            have mc26_ad := (hk26.2 ad 35 0 0 10 _ rad rfl (by decide)).trans mc25_ad
            have mc26_b8 := (hk26.2 b8 26 0 0 8 _ rq8 rfl (by decide)).trans mc25_b8
            have mc26_b9 := (hk26.2 b9 27 0 0 8 _ rq9 rfl (by decide)).trans hc25
            have kp26 := kp25.trans (hk26.mono (ms' := yMr) (fun x hx => by cases List.mem_singleton.mp hx; decide))
            have jz26 := jz25.kept ha hk26 (by decide)
            refine ff_iconst hx hb (eX12_rule (278, .iconst 0, 1) (List.mem_of_getElem? (i := 143) rfl)) (by decide) (by decide) (fun v27 e27 => ?_)
            refine lv_istore hx hb (eX12_rule (279, .istore 6, 2) (List.mem_of_getElem? (i := 144) rfl)) hl (by decide) rfl (fun ls28 hl28 => ?_)
            have loop : ∀ (n0 i : Nat) (iv : Int32) (z7 : Nat → Value) (ls : Array Slot) (H : Heap) (lo0 : List Loc), i + n0 = 10 → iv.toInt = (i : Int) → (∀ j, j < i → z7 (10 * zi.toInt.toNat + j) = zd j) → (∀ k j, k ≠ zi.toInt.toNat → j < 10 → z7 (10 * k + j) = zB (10 * k + j)) → H[bB]? = some (arrV (cA 0) 80 z7) → H[ad]? = some (arrV (cA 0) 10 zd) → H[b8]? = some (arrV (cA 0) 8 (updV z8 (zi.toInt.toNat) (.int v23))) → H[b9]? = some (arrV (cA 0) 8 (updV z9 (zi.toInt.toNat) (.int v15))) → H[bA]? = some (arrV (cA 0) 8 (updV zA (zi.toInt.toNat) (.int ot))) → zh_f D H a 11 8 = .ref b8 → zh_f D H a 11 9 = .ref b9 → zh_f D H a 11 10 = .ref bA → zh_f D H a 11 11 = .ref bB → zh_f D H a 11 32 = .ref ad → zh_f D H a 11 0 = .int v7 → zh_ok D cA RTg ro sz H0 H lo0 → zc_kept D RTg ro yMr s.heap H → jRZ D cA ro H a L Z → lv_has ls 7 [(6, .int iv), (0, .ref a), (1, .int zi)] → W p l e (headSpec (gW yX12_rule cX12_rule 7 (some .long)) { frames := 4, cells := 0, slots := 0, locals := 90 }).room s m ([.ref a, .int zi] : List Value).toArray below meth c H lo0 0 0 (MQ below (yy_QR D cA ro sz H0 a vL (spUY zi.toInt T L (Z, R))) ([.ref a, .int zi] : List Value).toArray s 0 0 (zy_fr sz)) (F0 m 281 ls []) := by
              intro n0
              induction n0 with
              | zero =>
                intro i iv z7 ls H lo0 hi hiv hz1 hz2 c29 c35 c26 c27 c28 f8 f9 fA fB fd fw hh0 kpl jzl hl
                refine lv_iload hx hb (eX12_rule (281, .iload 6, 2) (List.mem_of_getElem? (i := 145) rfl)) (lv_at hl 0 rfl) ?_
                refine ff_bipush hx hb (eX12_rule (283, .bipush 10, 2) (List.mem_of_getElem? (i := 146) rfl)) (by decide) (by decide) (fun v29 e29 => ?_)
                refine ff_icmp_ge hx hb (eX12_rule (285, .if_icmp .ge 28, 3) (List.mem_of_getElem? (i := 147) rfl)) (tgt := 313) rfl (fun c30 => ?_) (fun c30 => (by exfalso; omega))
                refine ff_ldc2 (n := (-9223372036854775808)) hx hb hown h2 (clX12_ok 83 (-9223372036854775808) (List.mem_of_getElem? (i := 2) rfl)) (eX12_rule (313, .ldc2_w 83, 3) (List.mem_of_getElem? (i := 162) rfl)) (fun v31 e31 => ?_)
                have hpq := jRp_set (R := R) (zB' := z7) (zd := zd) (i := zi.toInt.toNat) (n1 := v23) (o1 := v15) (o2 := ot) (r' := (ruF T).1) (by omega) (by rw [hr1]; show _ = R9.1; rcases hdn with h | h; (have := h.1; have := h.2.1; omega); (have := h.1; have := h.2.1; omega)) (fun _ => by rw [hr2]; show _ = R9.2.1; rcases hdn with h | h; exact h.2.2.symm; exact h.2.2.1.symm) (fun q => by rw [hr3 q]; have q2 : R9.1 = 2 := (by have h9 : (ruF T).1.1 = R9.1 := hr1; omega); exact ⟨(hcd q2).1.symm, (hcd q2).2⟩) (fun j hj => hz1 j (by omega)) hz2 hrp
                exact W.lret hx hb hr (fun t ht hW => ⟨_, _, _, L, (Z, ruN T R zi.toInt.toNat), rfl, ⟨_, rfl, rfl⟩, by rw [ht]; exact hh0.l0, by rw [ht]; exact kpl, by rw [ht]; exact fw, by rw [ht]; exact ⟨jzl, ⟨b8, b9, bA, bB, _, _, _, _, ⟨f8, rq8, c26⟩, ⟨f9, rq9, c27⟩, ⟨fA, rqA, c28⟩, ⟨fB, rqB, c29⟩, (show jRp _ _ _ _ (ruN T R zi.toInt.toNat) by unfold ruN; rw [if_pos hN]; exact hpq), (show ∀ r ∈ ruN T R zi.toInt.toNat, rW r by unfold ruN; rw [if_pos hN]; exact rW_set (ru_ok hN) hrw)⟩, (show (ruN T R zi.toInt.toNat).length = Z.length by unfold ruN; rw [if_pos hN, List.length_set]; exact hRl), hsr⟩, rfl, rfl, Or.inr ⟨by omega, by omega, by show _ < (Z.length : Int); omega, by rw [hN]; unfold NONEI; omega, rfl⟩⟩) hh0.2.2.1 (eX12_rule (316, .lreturn, 1) (List.mem_of_getElem? (i := 163) rfl))
              | succ n0 ih =>
                intro i iv z7 ls H lo0 hi hiv hz1 hz2 c29 c35 c26 c27 c28 f8 f9 fA fB fd fw hh0 kpl jzl hl
                refine lv_iload hx hb (eX12_rule (281, .iload 6, 2) (List.mem_of_getElem? (i := 145) rfl)) (lv_at hl 0 rfl) ?_
                refine ff_bipush hx hb (eX12_rule (283, .bipush 10, 2) (List.mem_of_getElem? (i := 146) rfl)) (by decide) (by decide) (fun v32 e32 => ?_)
                refine ff_icmp_ge hx hb (eX12_rule (285, .if_icmp .ge 28, 3) (List.mem_of_getElem? (i := 147) rfl)) (tgt := 313) rfl (fun c33 => (by exfalso; omega)) (fun c33 => ?_)
                refine lv_aload_n hx hb (eX12_rule (288, .aload_n 0, 1) (List.mem_of_getElem? (i := 148) rfl)) rfl (lv_at hl 1 rfl) ?_
                refine tz_get (r := 11) (k := 11) (t := (62, 0, 0)) hx hb hh0 ha rfl rfl (hcl11 37 11 (62, 0, 0) (by decide) rfl).1 fB (eX12_rule (289, .getfield 37, 3) (List.mem_of_getElem? (i := 149) rfl)) ?_
                refine ff_bipush hx hb (eX12_rule (292, .bipush 10, 2) (List.mem_of_getElem? (i := 150) rfl)) (by decide) (by decide) (fun v34 e34 => ?_)
                refine lv_iload_n hx hb (eX12_rule (294, .iload_n 1, 1) (List.mem_of_getElem? (i := 151) rfl)) rfl (lv_at hl 2 rfl) ?_
                refine ff_imulL hx hb (eX12_rule (295, .imul, 1) (List.mem_of_getElem? (i := 152) rfl)) (e34) (by omega) (by omega) (fun v35 e35 => ?_)
                refine lv_iload hx hb (eX12_rule (296, .iload 6, 2) (List.mem_of_getElem? (i := 153) rfl)) (lv_at hl 0 rfl) ?_
                refine ff_iadd hx hb (eX12_rule (298, .iadd, 1) (List.mem_of_getElem? (i := 154) rfl)) (by omega) (by omega) (fun v36 e36 => ?_)
                refine lv_aload_n hx hb (eX12_rule (299, .aload_n 0, 1) (List.mem_of_getElem? (i := 155) rfl)) rfl (lv_at hl 1 rfl) ?_
                refine tz_get (r := 11) (k := 32) (t := (74, 0, 0)) hx hb hh0 ha rfl rfl (hcl11 56 32 (74, 0, 0) (by decide) rfl).1 fd (eX12_rule (300, .getfield 56, 3) (List.mem_of_getElem? (i := 156) rfl)) ?_
                refine lv_iload hx hb (eX12_rule (303, .iload 6, 2) (List.mem_of_getElem? (i := 157) rfl)) (lv_at hl 0 rfl) ?_
                refine tz_iald hx hb (zAr hKn.1 0 (by decide)) c35 (by omega) (by omega) (eX12_rule (305, .iaload, 1) (List.mem_of_getElem? (i := 158) rfl)) ?_
                obtain ⟨-, zz37, hcc37, hyy37⟩ := zh_arr hh0 rad (show RTg[35]? = some (1, 0, 10, [(0, (-1000000), 1000000)]) from rfl)
                obtain ⟨v37, hv9, l37, m37⟩ := (zs_arr (c35.symm.trans hcc37) hyy37) i (by omega)
                dsimp only at l37 m37
                rw [show iv.toNatClampNeg = i by show iv.toInt.toNat = _; omega, hv9]
                obtain ⟨-, zz38, hcc38, hyy38⟩ := zh_arr hh0 rqB (show RTg[29]? = some (1, 0, 80, [(0, (-1000000), 1000000)]) from rfl)
                refine tz_iast hx hb (zAr hKn.1 0 (by decide)) hh0 rqB (show RTg[29]? = some (1, 0, 80, [(0, (-1000000), 1000000)]) from rfl) c29 (zs_arr (c29.symm.trans hcc38) hyy38) (by omega) (by omega) (tz_i (by omega) (by omega)) (eX12_rule (306, .iastore, 1) (List.mem_of_getElem? (i := 159) rfl)) (fun H38 lo38 hh38 hc38 hk38 hq38 _ => ?_)
                rw [show v36.toNatClampNeg = 10 * zi.toInt.toNat + i by show v36.toInt.toNat = _; omega] at hc38
                have mf38_a_0 := (hk38.1 a 11 0 11 0 fsX12 ha rfl (by decide) (by decide)).trans fw
                have mf38_a_8 := (hk38.1 a 11 8 11 0 fsX12 ha rfl (by decide) (by decide)).trans f8
                have mf38_a_9 := (hk38.1 a 11 9 11 0 fsX12 ha rfl (by decide) (by decide)).trans f9
                have mf38_a_10 := (hk38.1 a 11 10 11 0 fsX12 ha rfl (by decide) (by decide)).trans fA
                have mf38_a_11 := (hk38.1 a 11 11 11 0 fsX12 ha rfl (by decide) (by decide)).trans fB
                have mf38_a_32 := (hk38.1 a 11 32 11 0 fsX12 ha rfl (by decide) (by decide)).trans fd
                have mc38_ad := (hk38.2 ad 35 0 0 10 _ rad rfl (by decide)).trans c35
                have mc38_b8 := (hk38.2 b8 26 0 0 8 _ rq8 rfl (by decide)).trans c26
                have mc38_b9 := (hk38.2 b9 27 0 0 8 _ rq9 rfl (by decide)).trans c27
                have mc38_bA := (hk38.2 bA 28 0 0 8 _ rqA rfl (by decide)).trans c28
                have kp38 := kpl.trans (hk38.mono (ms' := yMr) (fun x hx => by cases List.mem_singleton.mp hx; decide))
                have jz38 := jzl.kept ha hk38 (by decide)
                refine ff_iinc (k := 0) hx hb (eX12_rule (307, .iinc 6 1, 3) (List.mem_of_getElem? (i := 160) rfl)) hl rfl (by decide) (by decide) (by decide) (by omega) (by omega) (fun v39 e39 ls39 hl39 => ?_)
                refine lv_goto hx hb (eX12_rule (310, .goto (-29), 3) (List.mem_of_getElem? (i := 161) rfl)) (tgt := 281) rfl ?_
                exact ih (i + 1) v39 _ ls39 _ _ (by omega) (by omega) (fun j hj => by by_cases e9 : j = i; (subst e9; rw [updV_eq]; exact hv9.symm); (rw [updV_ne (by omega)]; exact hz1 j (by omega))) (fun k j hk hj => by rw [updV_ne (by omega)]; exact hz2 k j hk hj) hc38 mc38_ad mc38_b8 mc38_b9 mc38_bA mf38_a_8 mf38_a_9 mf38_a_10 mf38_a_11 mf38_a_32 mf38_a_0 hh38 kp38 jz38 (lv_sub hl39 [0, 1, 2] rfl)
            exact loop 10 0 v27 zB ls28 _ _ (by omega) (by omega) (fun j hj => absurd hj (Nat.not_lt_zero _)) (fun k j _ _ => rfl) mc26_bB mc26_ad mc26_b8 mc26_b9 hc26 mf26_a_8 mf26_a_9 mf26_a_10 mf26_a_11 mf26_a_32 mf26_a_0 hh26 kp26 jz26 (lv_sub hl28 [0, 3, 4] rfl)
          · skip
            refine ff_iconst hx hb (eX12_rule (257, .iconst 2, 1) (List.mem_of_getElem? (i := 129) rfl)) (by decide) (by decide) (fun v40 e40 => ?_)
            refine lv_goto hx hb (eX12_rule (258, .goto 4, 3) (List.mem_of_getElem? (i := 130) rfl)) (tgt := 262) rfl ?_
            obtain ⟨-, zz41, hcc41, hyy41⟩ := zh_arr hh0 rq8 (show RTg[26]? = some (1, 0, 8, [(0, 0, 2)]) from rfl)
            refine tz_iast hx hb (zAr hKn.1 0 (by decide)) hh0 rq8 (show RTg[26]? = some (1, 0, 8, [(0, 0, 2)]) from rfl) cq8 (zs_arr (cq8.symm.trans hcc41) hyy41) (by omega) (by omega) (tz_i (by omega) (by omega)) (eX12_rule (262, .iastore, 1) (List.mem_of_getElem? (i := 132) rfl)) (fun H41 lo41 hh41 hc41 hk41 hq41 _ => ?_)
            rw [show zi.toNatClampNeg = zi.toInt.toNat by show zi.toInt.toNat = _; omega] at hc41
            have mf41_a_0 := (hk41.1 a 11 0 11 0 fsX12 ha rfl (by decide) (by decide)).trans fw
            have mf41_a_29 := (hk41.1 a 11 29 11 0 fsX12 ha rfl (by decide) (by decide)).trans f2918
            have mf41_a_30 := (hk41.1 a 11 30 11 0 fsX12 ha rfl (by decide) (by decide)).trans f3018
            have mf41_a_31 := (hk41.1 a 11 31 11 0 fsX12 ha rfl (by decide) (by decide)).trans f3118
            have mf41_a_13 := (hk41.1 a 11 13 11 0 fsX12 ha rfl (by decide) (by decide)).trans f1318
            have mf41_a_8 := (hk41.1 a 11 8 11 0 fsX12 ha rfl (by decide) (by decide)).trans fq8
            have mf41_a_9 := (hk41.1 a 11 9 11 0 fsX12 ha rfl (by decide) (by decide)).trans fq9
            have mf41_a_10 := (hk41.1 a 11 10 11 0 fsX12 ha rfl (by decide) (by decide)).trans fqA
            have mf41_a_11 := (hk41.1 a 11 11 11 0 fsX12 ha rfl (by decide) (by decide)).trans fqB
            have mf41_a_32 := (hk41.1 a 11 32 11 0 fsX12 ha rfl (by decide) (by decide)).trans fqd
            have mc41_b9 := (hk41.2 b9 27 0 0 8 _ rq9 rfl (by decide)).trans cq9
            have mc41_bA := (hk41.2 bA 28 0 0 8 _ rqA rfl (by decide)).trans cqA
            have mc41_bB := (hk41.2 bB 29 0 0 80 _ rqB rfl (by decide)).trans cqB
            have mc41_ad := (hk41.2 ad 35 0 0 10 _ rad rfl (by decide)).trans cqd
            have kp41 := kpl.trans (hk41.mono (ms' := yMr) (fun x hx => by cases List.mem_singleton.mp hx; decide))
            have jz41 := hJz9.kept ha hk41 (by decide)
            refine lv_aload_n hx hb (eX12_rule (263, .aload_n 0, 1) (List.mem_of_getElem? (i := 133) rfl)) rfl (lv_at hl 2 rfl) ?_
            refine tz_get (r := 11) (k := 9) (t := (58, 0, 0)) hx hb hh41 ha rfl rfl (hcl11 31 9 (58, 0, 0) (by decide) rfl).1 mf41_a_9 (eX12_rule (264, .getfield 31, 3) (List.mem_of_getElem? (i := 134) rfl)) ?_
            refine lv_iload_n hx hb (eX12_rule (267, .iload_n 1, 1) (List.mem_of_getElem? (i := 135) rfl)) rfl (lv_at hl 3 rfl) ?_
            refine lv_iload_n hx hb (eX12_rule (268, .iload_n 2, 1) (List.mem_of_getElem? (i := 136) rfl)) rfl (lv_at hl 4 rfl) ?_
            obtain ⟨-, zz42, hcc42, hyy42⟩ := zh_arr hh41 rq9 (show RTg[27]? = some (1, 0, 8, [(0, (-1000000), 1000000)]) from rfl)
            refine tz_iast hx hb (zAr hKn.1 0 (by decide)) hh41 rq9 (show RTg[27]? = some (1, 0, 8, [(0, (-1000000), 1000000)]) from rfl) mc41_b9 (zs_arr (mc41_b9.symm.trans hcc42) hyy42) (by omega) (by omega) (tz_i (by omega) (by omega)) (eX12_rule (269, .iastore, 1) (List.mem_of_getElem? (i := 137) rfl)) (fun H42 lo42 hh42 hc42 hk42 hq42 _ => ?_)
            rw [show zi.toNatClampNeg = zi.toInt.toNat by show zi.toInt.toNat = _; omega] at hc42
            have mf42_a_0 := (hk42.1 a 11 0 11 0 fsX12 ha rfl (by decide) (by decide)).trans mf41_a_0
            have mf42_a_29 := (hk42.1 a 11 29 11 0 fsX12 ha rfl (by decide) (by decide)).trans mf41_a_29
            have mf42_a_30 := (hk42.1 a 11 30 11 0 fsX12 ha rfl (by decide) (by decide)).trans mf41_a_30
            have mf42_a_31 := (hk42.1 a 11 31 11 0 fsX12 ha rfl (by decide) (by decide)).trans mf41_a_31
            have mf42_a_13 := (hk42.1 a 11 13 11 0 fsX12 ha rfl (by decide) (by decide)).trans mf41_a_13
            have mf42_a_8 := (hk42.1 a 11 8 11 0 fsX12 ha rfl (by decide) (by decide)).trans mf41_a_8
            have mf42_a_9 := (hk42.1 a 11 9 11 0 fsX12 ha rfl (by decide) (by decide)).trans mf41_a_9
            have mf42_a_10 := (hk42.1 a 11 10 11 0 fsX12 ha rfl (by decide) (by decide)).trans mf41_a_10
            have mf42_a_11 := (hk42.1 a 11 11 11 0 fsX12 ha rfl (by decide) (by decide)).trans mf41_a_11
            have mf42_a_32 := (hk42.1 a 11 32 11 0 fsX12 ha rfl (by decide) (by decide)).trans mf41_a_32
            have mc42_bA := (hk42.2 bA 28 0 0 8 _ rqA rfl (by decide)).trans mc41_bA
            have mc42_bB := (hk42.2 bB 29 0 0 80 _ rqB rfl (by decide)).trans mc41_bB
            have mc42_ad := (hk42.2 ad 35 0 0 10 _ rad rfl (by decide)).trans mc41_ad
            have mc42_b8 := (hk42.2 b8 26 0 0 8 _ rq8 rfl (by decide)).trans hc41
            have kp42 := kp41.trans (hk42.mono (ms' := yMr) (fun x hx => by cases List.mem_singleton.mp hx; decide))
            have jz42 := jz41.kept ha hk42 (by decide)
            refine lv_aload_n hx hb (eX12_rule (270, .aload_n 0, 1) (List.mem_of_getElem? (i := 138) rfl)) rfl (lv_at hl 2 rfl) ?_
            refine tz_get (r := 11) (k := 10) (t := (60, 0, 0)) hx hb hh42 ha rfl rfl (hcl11 34 10 (60, 0, 0) (by decide) rfl).1 mf42_a_10 (eX12_rule (271, .getfield 34, 3) (List.mem_of_getElem? (i := 139) rfl)) ?_
            refine lv_iload_n hx hb (eX12_rule (274, .iload_n 1, 1) (List.mem_of_getElem? (i := 140) rfl)) rfl (lv_at hl 3 rfl) ?_
            refine lv_iload hx hb (eX12_rule (275, .iload 4, 2) (List.mem_of_getElem? (i := 141) rfl)) (lv_at hl 0 rfl) ?_
            obtain ⟨-, zz43, hcc43, hyy43⟩ := zh_arr hh42 rqA (show RTg[28]? = some (1, 0, 8, [(0, (-1000000), 1000000)]) from rfl)
            refine tz_iast hx hb (zAr hKn.1 0 (by decide)) hh42 rqA (show RTg[28]? = some (1, 0, 8, [(0, (-1000000), 1000000)]) from rfl) mc42_bA (zs_arr (mc42_bA.symm.trans hcc43) hyy43) (by omega) (by omega) (tz_i (by omega) (by omega)) (eX12_rule (277, .iastore, 1) (List.mem_of_getElem? (i := 142) rfl)) (fun H43 lo43 hh43 hc43 hk43 hq43 _ => ?_)
            rw [show zi.toNatClampNeg = zi.toInt.toNat by show zi.toInt.toNat = _; omega] at hc43
            have mf43_a_0 := (hk43.1 a 11 0 11 0 fsX12 ha rfl (by decide) (by decide)).trans mf42_a_0
            have mf43_a_29 := (hk43.1 a 11 29 11 0 fsX12 ha rfl (by decide) (by decide)).trans mf42_a_29
            have mf43_a_30 := (hk43.1 a 11 30 11 0 fsX12 ha rfl (by decide) (by decide)).trans mf42_a_30
            have mf43_a_31 := (hk43.1 a 11 31 11 0 fsX12 ha rfl (by decide) (by decide)).trans mf42_a_31
            have mf43_a_13 := (hk43.1 a 11 13 11 0 fsX12 ha rfl (by decide) (by decide)).trans mf42_a_13
            have mf43_a_8 := (hk43.1 a 11 8 11 0 fsX12 ha rfl (by decide) (by decide)).trans mf42_a_8
            have mf43_a_9 := (hk43.1 a 11 9 11 0 fsX12 ha rfl (by decide) (by decide)).trans mf42_a_9
            have mf43_a_10 := (hk43.1 a 11 10 11 0 fsX12 ha rfl (by decide) (by decide)).trans mf42_a_10
            have mf43_a_11 := (hk43.1 a 11 11 11 0 fsX12 ha rfl (by decide) (by decide)).trans mf42_a_11
            have mf43_a_32 := (hk43.1 a 11 32 11 0 fsX12 ha rfl (by decide) (by decide)).trans mf42_a_32
            have mc43_bB := (hk43.2 bB 29 0 0 80 _ rqB rfl (by decide)).trans mc42_bB
            have mc43_ad := (hk43.2 ad 35 0 0 10 _ rad rfl (by decide)).trans mc42_ad
            have mc43_b8 := (hk43.2 b8 26 0 0 8 _ rq8 rfl (by decide)).trans mc42_b8
            have mc43_b9 := (hk43.2 b9 27 0 0 8 _ rq9 rfl (by decide)).trans hc42
            have kp43 := kp42.trans (hk43.mono (ms' := yMr) (fun x hx => by cases List.mem_singleton.mp hx; decide))
            have jz43 := jz42.kept ha hk43 (by decide)
            refine ff_iconst hx hb (eX12_rule (278, .iconst 0, 1) (List.mem_of_getElem? (i := 143) rfl)) (by decide) (by decide) (fun v44 e44 => ?_)
            refine lv_istore hx hb (eX12_rule (279, .istore 6, 2) (List.mem_of_getElem? (i := 144) rfl)) hl (by decide) rfl (fun ls45 hl45 => ?_)
            have loop : ∀ (n0 i : Nat) (iv : Int32) (z7 : Nat → Value) (ls : Array Slot) (H : Heap) (lo0 : List Loc), i + n0 = 10 → iv.toInt = (i : Int) → (∀ j, j < i → z7 (10 * zi.toInt.toNat + j) = zd j) → (∀ k j, k ≠ zi.toInt.toNat → j < 10 → z7 (10 * k + j) = zB (10 * k + j)) → H[bB]? = some (arrV (cA 0) 80 z7) → H[ad]? = some (arrV (cA 0) 10 zd) → H[b8]? = some (arrV (cA 0) 8 (updV z8 (zi.toInt.toNat) (.int v40))) → H[b9]? = some (arrV (cA 0) 8 (updV z9 (zi.toInt.toNat) (.int v15))) → H[bA]? = some (arrV (cA 0) 8 (updV zA (zi.toInt.toNat) (.int ot))) → zh_f D H a 11 8 = .ref b8 → zh_f D H a 11 9 = .ref b9 → zh_f D H a 11 10 = .ref bA → zh_f D H a 11 11 = .ref bB → zh_f D H a 11 32 = .ref ad → zh_f D H a 11 0 = .int v7 → zh_ok D cA RTg ro sz H0 H lo0 → zc_kept D RTg ro yMr s.heap H → jRZ D cA ro H a L Z → lv_has ls 7 [(6, .int iv), (0, .ref a), (1, .int zi)] → W p l e (headSpec (gW yX12_rule cX12_rule 7 (some .long)) { frames := 4, cells := 0, slots := 0, locals := 90 }).room s m ([.ref a, .int zi] : List Value).toArray below meth c H lo0 0 0 (MQ below (yy_QR D cA ro sz H0 a vL (spUY zi.toInt T L (Z, R))) ([.ref a, .int zi] : List Value).toArray s 0 0 (zy_fr sz)) (F0 m 281 ls []) := by
              intro n0
              induction n0 with
              | zero =>
                intro i iv z7 ls H lo0 hi hiv hz1 hz2 c29 c35 c26 c27 c28 f8 f9 fA fB fd fw hh0 kpl jzl hl
                refine lv_iload hx hb (eX12_rule (281, .iload 6, 2) (List.mem_of_getElem? (i := 145) rfl)) (lv_at hl 0 rfl) ?_
                refine ff_bipush hx hb (eX12_rule (283, .bipush 10, 2) (List.mem_of_getElem? (i := 146) rfl)) (by decide) (by decide) (fun v46 e46 => ?_)
                refine ff_icmp_ge hx hb (eX12_rule (285, .if_icmp .ge 28, 3) (List.mem_of_getElem? (i := 147) rfl)) (tgt := 313) rfl (fun c47 => ?_) (fun c47 => (by exfalso; omega))
                refine ff_ldc2 (n := (-9223372036854775808)) hx hb hown h2 (clX12_ok 83 (-9223372036854775808) (List.mem_of_getElem? (i := 2) rfl)) (eX12_rule (313, .ldc2_w 83, 3) (List.mem_of_getElem? (i := 162) rfl)) (fun v48 e48 => ?_)
                have hpq := jRp_set (R := R) (zB' := z7) (zd := zd) (i := zi.toInt.toNat) (n1 := v40) (o1 := v15) (o2 := ot) (r' := (ruF T).1) (by omega) (by rw [hr1]; show _ = R9.1; rcases hdn with h | h; (have := h.1; have := h.2.1; omega); (have := h.1; have := h.2.1; omega)) (fun _ => by rw [hr2]; show _ = R9.2.1; rcases hdn with h | h; exact h.2.2.symm; exact h.2.2.1.symm) (fun q => by rw [hr3 q]; have q2 : R9.1 = 2 := (by have h9 : (ruF T).1.1 = R9.1 := hr1; omega); exact ⟨(hcd q2).1.symm, (hcd q2).2⟩) (fun j hj => hz1 j (by omega)) hz2 hrp
                exact W.lret hx hb hr (fun t ht hW => ⟨_, _, _, L, (Z, ruN T R zi.toInt.toNat), rfl, ⟨_, rfl, rfl⟩, by rw [ht]; exact hh0.l0, by rw [ht]; exact kpl, by rw [ht]; exact fw, by rw [ht]; exact ⟨jzl, ⟨b8, b9, bA, bB, _, _, _, _, ⟨f8, rq8, c26⟩, ⟨f9, rq9, c27⟩, ⟨fA, rqA, c28⟩, ⟨fB, rqB, c29⟩, (show jRp _ _ _ _ (ruN T R zi.toInt.toNat) by unfold ruN; rw [if_pos hN]; exact hpq), (show ∀ r ∈ ruN T R zi.toInt.toNat, rW r by unfold ruN; rw [if_pos hN]; exact rW_set (ru_ok hN) hrw)⟩, (show (ruN T R zi.toInt.toNat).length = Z.length by unfold ruN; rw [if_pos hN, List.length_set]; exact hRl), hsr⟩, rfl, rfl, Or.inr ⟨by omega, by omega, by show _ < (Z.length : Int); omega, by rw [hN]; unfold NONEI; omega, rfl⟩⟩) hh0.2.2.1 (eX12_rule (316, .lreturn, 1) (List.mem_of_getElem? (i := 163) rfl))
              | succ n0 ih =>
                intro i iv z7 ls H lo0 hi hiv hz1 hz2 c29 c35 c26 c27 c28 f8 f9 fA fB fd fw hh0 kpl jzl hl
                refine lv_iload hx hb (eX12_rule (281, .iload 6, 2) (List.mem_of_getElem? (i := 145) rfl)) (lv_at hl 0 rfl) ?_
                refine ff_bipush hx hb (eX12_rule (283, .bipush 10, 2) (List.mem_of_getElem? (i := 146) rfl)) (by decide) (by decide) (fun v49 e49 => ?_)
                refine ff_icmp_ge hx hb (eX12_rule (285, .if_icmp .ge 28, 3) (List.mem_of_getElem? (i := 147) rfl)) (tgt := 313) rfl (fun c50 => (by exfalso; omega)) (fun c50 => ?_)
                refine lv_aload_n hx hb (eX12_rule (288, .aload_n 0, 1) (List.mem_of_getElem? (i := 148) rfl)) rfl (lv_at hl 1 rfl) ?_
                refine tz_get (r := 11) (k := 11) (t := (62, 0, 0)) hx hb hh0 ha rfl rfl (hcl11 37 11 (62, 0, 0) (by decide) rfl).1 fB (eX12_rule (289, .getfield 37, 3) (List.mem_of_getElem? (i := 149) rfl)) ?_
                refine ff_bipush hx hb (eX12_rule (292, .bipush 10, 2) (List.mem_of_getElem? (i := 150) rfl)) (by decide) (by decide) (fun v51 e51 => ?_)
                refine lv_iload_n hx hb (eX12_rule (294, .iload_n 1, 1) (List.mem_of_getElem? (i := 151) rfl)) rfl (lv_at hl 2 rfl) ?_
                refine ff_imulL hx hb (eX12_rule (295, .imul, 1) (List.mem_of_getElem? (i := 152) rfl)) (e51) (by omega) (by omega) (fun v52 e52 => ?_)
                refine lv_iload hx hb (eX12_rule (296, .iload 6, 2) (List.mem_of_getElem? (i := 153) rfl)) (lv_at hl 0 rfl) ?_
                refine ff_iadd hx hb (eX12_rule (298, .iadd, 1) (List.mem_of_getElem? (i := 154) rfl)) (by omega) (by omega) (fun v53 e53 => ?_)
                refine lv_aload_n hx hb (eX12_rule (299, .aload_n 0, 1) (List.mem_of_getElem? (i := 155) rfl)) rfl (lv_at hl 1 rfl) ?_
                refine tz_get (r := 11) (k := 32) (t := (74, 0, 0)) hx hb hh0 ha rfl rfl (hcl11 56 32 (74, 0, 0) (by decide) rfl).1 fd (eX12_rule (300, .getfield 56, 3) (List.mem_of_getElem? (i := 156) rfl)) ?_
                refine lv_iload hx hb (eX12_rule (303, .iload 6, 2) (List.mem_of_getElem? (i := 157) rfl)) (lv_at hl 0 rfl) ?_
                refine tz_iald hx hb (zAr hKn.1 0 (by decide)) c35 (by omega) (by omega) (eX12_rule (305, .iaload, 1) (List.mem_of_getElem? (i := 158) rfl)) ?_
                obtain ⟨-, zz54, hcc54, hyy54⟩ := zh_arr hh0 rad (show RTg[35]? = some (1, 0, 10, [(0, (-1000000), 1000000)]) from rfl)
                obtain ⟨v54, hv9, l54, m54⟩ := (zs_arr (c35.symm.trans hcc54) hyy54) i (by omega)
                dsimp only at l54 m54
                rw [show iv.toNatClampNeg = i by show iv.toInt.toNat = _; omega, hv9]
                obtain ⟨-, zz55, hcc55, hyy55⟩ := zh_arr hh0 rqB (show RTg[29]? = some (1, 0, 80, [(0, (-1000000), 1000000)]) from rfl)
                refine tz_iast hx hb (zAr hKn.1 0 (by decide)) hh0 rqB (show RTg[29]? = some (1, 0, 80, [(0, (-1000000), 1000000)]) from rfl) c29 (zs_arr (c29.symm.trans hcc55) hyy55) (by omega) (by omega) (tz_i (by omega) (by omega)) (eX12_rule (306, .iastore, 1) (List.mem_of_getElem? (i := 159) rfl)) (fun H55 lo55 hh55 hc55 hk55 hq55 _ => ?_)
                rw [show v53.toNatClampNeg = 10 * zi.toInt.toNat + i by show v53.toInt.toNat = _; omega] at hc55
                have mf55_a_0 := (hk55.1 a 11 0 11 0 fsX12 ha rfl (by decide) (by decide)).trans fw
                have mf55_a_8 := (hk55.1 a 11 8 11 0 fsX12 ha rfl (by decide) (by decide)).trans f8
                have mf55_a_9 := (hk55.1 a 11 9 11 0 fsX12 ha rfl (by decide) (by decide)).trans f9
                have mf55_a_10 := (hk55.1 a 11 10 11 0 fsX12 ha rfl (by decide) (by decide)).trans fA
                have mf55_a_11 := (hk55.1 a 11 11 11 0 fsX12 ha rfl (by decide) (by decide)).trans fB
                have mf55_a_32 := (hk55.1 a 11 32 11 0 fsX12 ha rfl (by decide) (by decide)).trans fd
                have mc55_ad := (hk55.2 ad 35 0 0 10 _ rad rfl (by decide)).trans c35
                have mc55_b8 := (hk55.2 b8 26 0 0 8 _ rq8 rfl (by decide)).trans c26
                have mc55_b9 := (hk55.2 b9 27 0 0 8 _ rq9 rfl (by decide)).trans c27
                have mc55_bA := (hk55.2 bA 28 0 0 8 _ rqA rfl (by decide)).trans c28
                have kp55 := kpl.trans (hk55.mono (ms' := yMr) (fun x hx => by cases List.mem_singleton.mp hx; decide))
                have jz55 := jzl.kept ha hk55 (by decide)
                refine ff_iinc (k := 0) hx hb (eX12_rule (307, .iinc 6 1, 3) (List.mem_of_getElem? (i := 160) rfl)) hl rfl (by decide) (by decide) (by decide) (by omega) (by omega) (fun v56 e56 ls56 hl56 => ?_)
                refine lv_goto hx hb (eX12_rule (310, .goto (-29), 3) (List.mem_of_getElem? (i := 161) rfl)) (tgt := 281) rfl ?_
                exact ih (i + 1) v56 _ ls56 _ _ (by omega) (by omega) (fun j hj => by by_cases e9 : j = i; (subst e9; rw [updV_eq]; exact hv9.symm); (rw [updV_ne (by omega)]; exact hz1 j (by omega))) (fun k j hk hj => by rw [updV_ne (by omega)]; exact hz2 k j hk hj) hc55 mc55_ad mc55_b8 mc55_b9 mc55_bA mf55_a_8 mf55_a_9 mf55_a_10 mf55_a_11 mf55_a_32 mf55_a_0 hh55 kp55 jz55 (lv_sub hl56 [0, 1, 2] rfl)
            exact loop 10 0 v44 zB ls45 _ _ (by omega) (by omega) (fun j hj => absurd hj (Nat.not_lt_zero _)) (fun k j _ _ => rfl) mc43_bB mc43_ad mc43_b8 mc43_b9 hc43 mf43_a_8 mf43_a_9 mf43_a_10 mf43_a_11 mf43_a_32 mf43_a_0 hh43 kp43 jz43 (lv_sub hl45 [0, 3, 4] rfl)
        · skip
          refine lv_aload_n hx hb (eX12_rule (241, .aload_n 0, 1) (List.mem_of_getElem? (i := 120) rfl)) rfl (lv_at hl 2 rfl) ?_
          refine tz_get (r := 11) (k := 31) (t := (0, (-2147483648), 2147483647)) hx hb hh0 ha rfl rfl (hcl11 299 31 (0, (-2147483648), 2147483647) (by decide) rfl).1 f3118 (eX12_rule (242, .getfield 299, 3) (List.mem_of_getElem? (i := 121) rfl)) ?_
          refine ff_i2l hx hb (eX12_rule (245, .i2l, 1) (List.mem_of_getElem? (i := 122) rfl)) (fun v57 e57 => ?_)
          have hvd : v57.toInt = vdG g := by unfold vdG; (first | (rw [if_pos (by omega)]; omega) | (rw [if_neg (by omega), if_pos (by omega)]; omega))
          have hvf : vdF (ruF T).2 = vdG g := by rw [(ru_same hT).1.verdict hT, htot]
          have h32 := zn_i32 bv18
          have hnN : ¬ vdF (ruF T).2 = NONEI := by rw [hvf, ← hvd]; unfold NONEI; omega
          exact W.lret hx hb hr (fun t ht hW => ⟨_, _, _, L, (Z, ruN T R zi.toInt.toNat), rfl, ⟨_, rfl, rfl⟩, by rw [ht]; exact hh0.l0, by rw [ht]; exact kpl, by rw [ht]; exact fw, by rw [ht]; exact (show jRY D cA ro _ a L (Z, ruN T R zi.toInt.toNat) by unfold ruN; rw [if_neg hnN]; exact jyl), rfl, rfl, Or.inr ⟨by omega, by omega, by show _ < (Z.length : Int); omega, by rw [hvf]; exact hvd, rfl⟩⟩) hh0.2.2.1 (eX12_rule (246, .lreturn, 1) (List.mem_of_getElem? (i := 123) rfl))
      · skip
        refine lv_aload_n hx hb (eX12_rule (225, .aload_n 0, 1) (List.mem_of_getElem? (i := 112) rfl)) rfl (lv_at hl 2 rfl) ?_
        refine tz_get (r := 11) (k := 30) (t := (0, (-1), 120)) hx hb hh0 ha rfl rfl (hcl11 296 30 (0, (-1), 120) (by decide) rfl).1 f3018 (eX12_rule (226, .getfield 296, 3) (List.mem_of_getElem? (i := 113) rfl)) ?_
        refine ff_i2l hx hb (eX12_rule (229, .i2l, 1) (List.mem_of_getElem? (i := 114) rfl)) (fun v58 e58 => ?_)
        have hvd : v58.toInt = vdG g := by unfold vdG; (first | (rw [if_pos (by omega)]; omega) | (rw [if_neg (by omega), if_pos (by omega)]; omega))
        have hvf : vdF (ruF T).2 = vdG g := by rw [(ru_same hT).1.verdict hT, htot]
        have h32 := zn_i32 fv18
        have hnN : ¬ vdF (ruF T).2 = NONEI := by rw [hvf, ← hvd]; unfold NONEI; omega
        exact W.lret hx hb hr (fun t ht hW => ⟨_, _, _, L, (Z, ruN T R zi.toInt.toNat), rfl, ⟨_, rfl, rfl⟩, by rw [ht]; exact hh0.l0, by rw [ht]; exact kpl, by rw [ht]; exact fw, by rw [ht]; exact (show jRY D cA ro _ a L (Z, ruN T R zi.toInt.toNat) by unfold ruN; rw [if_neg hnN]; exact jyl), rfl, rfl, Or.inr ⟨by omega, by omega, by show _ < (Z.length : Int); omega, by rw [hvf]; exact hvd, rfl⟩⟩) hh0.2.2.1 (eX12_rule (230, .lreturn, 1) (List.mem_of_getElem? (i := 115) rfl))
    have jn174 : ∀ (ot tw : Int32) (g : uS) (ls : Array Slot) (H : Heap) (lo0 : List Loc), (-6099 ≤ ot.toInt ∧ ot.toInt ≤ 6099) → tw.toInt = 1 → (x14.2.2.1 < 0 ∧ x14.2.1 < (T.length : Int)) → secG T x14.1.2 (-x14.1.1) (n1G T x14.2) = (ot.toInt, g) → zh_f D H a 11 0 = .int v7 → zh_ok D cA RTg ro sz H0 H lo0 → zc_kept D RTg ro yMr s.heap H → jRY D cA ro H a L (Z, R) → jV D cA ro H a T g → lv_has ls 7 [(4, .int ot), (5, .int tw), (0, .ref a), (1, .int zi), (2, .int v15), (3, .int hv14)] → W p l e (headSpec (gW yX12_rule cX12_rule 7 (some .long)) { frames := 4, cells := 0, slots := 0, locals := 90 }).room s m ([.ref a, .int zi] : List Value).toArray below meth c H lo0 0 0 (MQ below (yy_QR D cA ro sz H0 a vL (spUY zi.toInt T L (Z, R))) ([.ref a, .int zi] : List Value).toArray s 0 0 (zy_fr sz)) (F0 m 174 ls []) := by
      intro ot tw g ls H lo0 b1 b2 hgd htot fw hh0 kpl jyl jl hl
      have hul := jl.2.2
      unfold vOK at hul
      obtain ⟨zd0, hjd9⟩ := jDf_any hh0 ha
      refine lv_aload_n hx hb (eX12_rule (174, .aload_n 0, 1) (List.mem_of_getElem? (i := 87) rfl)) rfl (lv_at hl 2 rfl) ?_
      refine ff_bipush hx hb (eX12_rule (175, .bipush 44, 2) (List.mem_of_getElem? (i := 88) rfl)) (by decide) (by decide) (fun v59 e59 => ?_)
      refine tz_rowV (As := [.int v59]) (st := []) (b := a) (C := RX12) (Ts := gT) hx hb hml hown h2 (fun _ h => h) (hX12_expect l D cA ro sz H0 a v59 44 T (g) ha (by omega) (by decide)) ⟨rfl, rfl⟩ ⟨by decide, by decide⟩ ⟨by decide, by decide⟩ (tb_8 35 rfl rfl) (tb_1 12 rfl rfl) (tb_8 32 rfl rfl) (tb_8 34 rfl rfl) (tb_0 34 rfl rfl) (show yX12_expect.cls ≠ "java/lang/invoke/MethodHandle" ∧ yX12_expect.cls ≠ "java/lang/invoke/VarHandle" ∧ (parseMethodDescriptor yX12_expect.desc).map (fun d => d.parameters.length) = some 1 by decide +kernel) zs_blind (zs_ob hh0 ha (show RTg[11]? = some (0, 11, 0, fsX12) from rfl) (zCX12 hKn.1)) (fun U hU hW => ⟨rfl, by rw [hU]; exact hh0.l0, zKb s U hW.alike hKn, by rw [hU]; exact jl⟩) hh0.2.2.1 hl.1 (Nat.le_of_ble_eq_true rfl) (eX12_rule (177, .invokevirtual 325, 3) (List.mem_of_getElem? (i := 89) rfl)) (fun r60 s60 t60 lo60 g60 f60 l60 => ?_)
      obtain ⟨q60, z60, c60, j60⟩ := f60
      cases q60
      rw [g60] at c60
      have hh60 : zh_ok D cA RTg ro sz H0 t60.heap lo60 := ⟨z60.1, z60.2.1, l60, z60.2.2.2⟩
      have kp60 := kpl.trans (c60.mono (ms' := yMr) (by decide))
      generalize hx60 : exG T 44 g = x60 at j60
      have uu60 := j60.2.2
      unfold vOK at uu60
      have mf60_a_0 := (c60.1 a 11 0 11 0 fsX12 ha rfl (by decide) (by decide)).trans fw
      have jy60 := jyl.kept ha c60 (by decide)
      have jd60 := hjd9.kept ha c60 (by decide)
      refine W.eq (g2 := F0 m 180 ls []) rfl ?_
      refine lv_aload_n hx hb (eX12_rule (180, .aload_n 0, 1) (List.mem_of_getElem? (i := 90) rfl)) rfl (lv_at hl 2 rfl) ?_
      refine ff_iconst hx hb (eX12_rule (181, .iconst 0, 1) (List.mem_of_getElem? (i := 91) rfl)) (by decide) (by decide) (fun v61 e61 => ?_)
      have hjd0 := jd60
      refine tz_rowV (As := [.int v61]) (st := []) (b := a) (C := RX12) (Ts := gT) hx hb hml hown h2 (fun _ h => h) (hX12_ruleDateY l D cA ro sz H0 a v61 0 T (x60) zd0 ha (by omega) (by decide)) ⟨rfl, rfl⟩ ⟨by decide, by decide⟩ ⟨by decide, by decide⟩ (tb_8 51 rfl rfl) (tb_1 12 rfl rfl) (tb_8 48 rfl rfl) (tb_8 50 rfl rfl) (tb_0 38 rfl rfl) (show yX12_ruleDate.cls ≠ "java/lang/invoke/MethodHandle" ∧ yX12_ruleDate.cls ≠ "java/lang/invoke/VarHandle" ∧ (parseMethodDescriptor yX12_ruleDate.desc).map (fun d => d.parameters.length) = some 1 by decide +kernel) zs_blind (zs_ob hh60 ha (show RTg[11]? = some (0, 11, 0, fsX12) from rfl) (zCX12 hKn.1)) (fun U hU hW => ⟨rfl, by rw [hU]; exact hh60.l0, zKb s U hW.alike hKn, by rw [hU]; exact ⟨j60, hjd0⟩⟩) hh60.2.2.1 hl.1 (Nat.le_of_ble_eq_true rfl) (eX12_rule (182, .invokevirtual 351, 3) (List.mem_of_getElem? (i := 92) rfl)) (fun r62 s62 t62 lo62 g62 f62 l62 => ?_)
      obtain ⟨q62, z62, c62, j62, zd62, jd62, dn62, nb62⟩ := f62
      cases q62
      rw [g62] at c62
      have hh62 : zh_ok D cA RTg ro sz H0 t62.heap lo62 := ⟨z62.1, z62.2.1, l62, z62.2.2.2⟩
      have kp62 := kp60.trans (c62.mono (ms' := yMr) (by decide))
      generalize hx62 : dateG T x60 = x62 at j62 dn62
      have uu62 := j62.2.2
      unfold vOK at uu62
      have mf62_a_0 := (c62.1 a 11 0 11 0 fsX12 ha rfl (by decide) (by decide)).trans mf60_a_0
      have jy62 := jy60.kept ha c62 (by decide)
      refine W.eq (g2 := F0 m 185 ls []) rfl ?_
      refine lv_aload_n hx hb (eX12_rule (185, .aload_n 0, 1) (List.mem_of_getElem? (i := 93) rfl)) rfl (lv_at hl 2 rfl) ?_
      refine ff_bipush hx hb (eX12_rule (186, .bipush 44, 2) (List.mem_of_getElem? (i := 94) rfl)) (by decide) (by decide) (fun v63 e63 => ?_)
      refine tz_rowV (As := [.int v63]) (st := []) (b := a) (C := RX12) (Ts := gT) hx hb hml hown h2 (fun _ h => h) (hX12_expect l D cA ro sz H0 a v63 44 T (x62.2) ha (by omega) (by decide)) ⟨rfl, rfl⟩ ⟨by decide, by decide⟩ ⟨by decide, by decide⟩ (tb_8 35 rfl rfl) (tb_1 12 rfl rfl) (tb_8 32 rfl rfl) (tb_8 34 rfl rfl) (tb_0 34 rfl rfl) (show yX12_expect.cls ≠ "java/lang/invoke/MethodHandle" ∧ yX12_expect.cls ≠ "java/lang/invoke/VarHandle" ∧ (parseMethodDescriptor yX12_expect.desc).map (fun d => d.parameters.length) = some 1 by decide +kernel) zs_blind (zs_ob hh62 ha (show RTg[11]? = some (0, 11, 0, fsX12) from rfl) (zCX12 hKn.1)) (fun U hU hW => ⟨rfl, by rw [hU]; exact hh62.l0, zKb s U hW.alike hKn, by rw [hU]; exact j62⟩) hh62.2.2.1 hl.1 (Nat.le_of_ble_eq_true rfl) (eX12_rule (188, .invokevirtual 325, 3) (List.mem_of_getElem? (i := 95) rfl)) (fun r64 s64 t64 lo64 g64 f64 l64 => ?_)
      obtain ⟨q64, z64, c64, j64⟩ := f64
      cases q64
      rw [g64] at c64
      have hh64 : zh_ok D cA RTg ro sz H0 t64.heap lo64 := ⟨z64.1, z64.2.1, l64, z64.2.2.2⟩
      have kp64 := kp62.trans (c64.mono (ms' := yMr) (by decide))
      generalize hx64 : exG T 44 x62.2 = x64 at j64
      have uu64 := j64.2.2
      unfold vOK at uu64
      have mf64_a_0 := (c64.1 a 11 0 11 0 fsX12 ha rfl (by decide) (by decide)).trans mf62_a_0
      have jy64 := jy62.kept ha c64 (by decide)
      have jd64 := jd62.kept ha c64 (by decide)
      refine W.eq (g2 := F0 m 191 ls []) rfl ?_
      refine lv_aload_n hx hb (eX12_rule (191, .aload_n 0, 1) (List.mem_of_getElem? (i := 96) rfl)) rfl (lv_at hl 2 rfl) ?_
      refine ff_iconst hx hb (eX12_rule (192, .iconst 5, 1) (List.mem_of_getElem? (i := 97) rfl)) (by decide) (by decide) (fun v65 e65 => ?_)
      refine tz_rowV (As := [.int v65]) (st := []) (b := a) (C := RX12) (Ts := gT) hx hb hml hown h2 (fun _ h => h) (hX12_ruleDateY l D cA ro sz H0 a v65 5 T (x64) zd62 ha (by omega) (by decide)) ⟨rfl, rfl⟩ ⟨by decide, by decide⟩ ⟨by decide, by decide⟩ (tb_8 51 rfl rfl) (tb_1 12 rfl rfl) (tb_8 48 rfl rfl) (tb_8 50 rfl rfl) (tb_0 38 rfl rfl) (show yX12_ruleDate.cls ≠ "java/lang/invoke/MethodHandle" ∧ yX12_ruleDate.cls ≠ "java/lang/invoke/VarHandle" ∧ (parseMethodDescriptor yX12_ruleDate.desc).map (fun d => d.parameters.length) = some 1 by decide +kernel) zs_blind (zs_ob hh64 ha (show RTg[11]? = some (0, 11, 0, fsX12) from rfl) (zCX12 hKn.1)) (fun U hU hW => ⟨rfl, by rw [hU]; exact hh64.l0, zKb s U hW.alike hKn, by rw [hU]; exact ⟨j64, jd64⟩⟩) hh64.2.2.1 hl.1 (Nat.le_of_ble_eq_true rfl) (eX12_rule (193, .invokevirtual 351, 3) (List.mem_of_getElem? (i := 98) rfl)) (fun r66 s66 t66 lo66 g66 f66 l66 => ?_)
      obtain ⟨q66, z66, c66, j66, zd66, jd66, dn66, nb66⟩ := f66
      cases q66
      rw [g66] at c66
      have hh66 : zh_ok D cA RTg ro sz H0 t66.heap lo66 := ⟨z66.1, z66.2.1, l66, z66.2.2.2⟩
      have kp66 := kp64.trans (c66.mono (ms' := yMr) (by decide))
      generalize hx66 : dateG T x64 = x66 at j66 dn66
      have uu66 := j66.2.2
      unfold vOK at uu66
      have mf66_a_0 := (c66.1 a 11 0 11 0 fsX12 ha rfl (by decide) (by decide)).trans mf64_a_0
      have dz66 := dN_eq (b' := 0) dn62 (fun j hj => nb66 (0 + j) (by omega))
      have jy66 := jy64.kept ha c66 (by decide)
      refine W.eq (g2 := F0 m 196 ls []) rfl ?_
      refine lv_aload_n hx hb (eX12_rule (196, .aload_n 0, 1) (List.mem_of_getElem? (i := 99) rfl)) rfl (lv_at hl 2 rfl) ?_
      refine tz_rowV (As := []) (st := []) (b := a) (C := RX12) (Ts := gT) hx hb hml hown h2 (fun _ h => h) (hX12_isGood l D cA ro sz H0 a T (x66.2) ha) ⟨rfl, rfl⟩ ⟨by decide, by decide⟩ ⟨by decide, by decide⟩ (tb_8 17 rfl rfl) (tb_1 12 rfl rfl) (tb_8 14 rfl rfl) (tb_8 16 rfl rfl) (tb_0 31 rfl rfl) (show yX12_isGood.cls ≠ "java/lang/invoke/MethodHandle" ∧ yX12_isGood.cls ≠ "java/lang/invoke/VarHandle" ∧ (parseMethodDescriptor yX12_isGood.desc).map (fun d => d.parameters.length) = some 0 by decide +kernel) zs_blind (zs_ob hh66 ha (show RTg[11]? = some (0, 11, 0, fsX12) from rfl) (zCX12 hKn.1)) (fun U hU hW => ⟨rfl, by rw [hU]; exact hh66.l0, zKb s U hW.alike hKn, by rw [hU]; exact j66⟩) hh66.2.2.1 hl.1 (Nat.le_of_ble_eq_true rfl) (eX12_rule (197, .invokevirtual 305, 3) (List.mem_of_getElem? (i := 100) rfl)) (fun r67 s67 t67 lo67 g67 f67 l67 => ?_)
      obtain ⟨z67, v67, q67, e67⟩ := f67
      cases q67
      rw [z67, g67]
      have hh67 : zh_ok D cA RTg ro sz H0 t66.heap lo67 := ⟨hh66.1, hh66.2.1, l67, hh66.2.2.2⟩
      refine W.eq (g2 := F0 m 200 ls [.int v67]) rfl ?_
      refine ff_if_eq hx hb (eX12_rule (200, .ifCond .eq 18, 3) (List.mem_of_getElem? (i := 101) rfl)) (tgt := 218) rfl (fun c68 => ?_) (fun c68 => ?_)
      · skip
        have h8 : ruG T = ru2G T x14.1.2 (-x14.1.1) x14.2 := by unfold ruG; dsimp only; rw [hx11, hx14, if_pos hgd]
        have h218 : ruG T = ((2, -x14.1.1, ot.toInt, x62.1, x66.1), x66.2) := by rw [h8]; unfold ru2G; dsimp only; rw [htot]; dsimp only; rw [hx60, hx62, hx64, hx66]; unfold neG; rw [if_neg (by omega)]
        exact jn218 ot tw (x66.2) (2, -x14.1.1, ot.toInt, x62.1, x66.1) ls _ _ (by omega) (by omega) h218 (Or.inr ⟨by omega, rfl, by show -x14.1.1 = _; omega, rfl, _, jd66, dz66, dn66⟩) mf66_a_0 hh67 kp66 jy66 j66 (lv_sub hl [0, 1, 2, 3, 4, 5] rfl)
      · skip
        refine lv_aload_n hx hb (eX12_rule (203, .aload_n 0, 1) (List.mem_of_getElem? (i := 102) rfl)) rfl (lv_at hl 2 rfl) ?_
        obtain ⟨jt69, ⟨av69, fv69, bv69, f2969, f3069, f3169, hav69, hfv69, hbv69⟩, hu69⟩ := id j66
        have hw69 := hu69
        unfold vOK at hw69
        obtain ⟨tb69, n69, z69, f1269, r069, f1369, hn69, hc69, hz69⟩ := id jt69
        refine tz_get (r := 11) (k := 29) (t := (0, 0, 120)) hx hb hh67 ha rfl rfl (hcl11 293 29 (0, 0, 120) (by decide) rfl).1 f2969 (eX12_rule (204, .getfield 293, 3) (List.mem_of_getElem? (i := 103) rfl)) ?_
        refine lv_aload_n hx hb (eX12_rule (207, .aload_n 0, 1) (List.mem_of_getElem? (i := 104) rfl)) rfl (lv_at hl 2 rfl) ?_
        refine tz_get (r := 11) (k := 13) (t := (0, 0, 120)) hx hb hh67 ha rfl rfl (hcl11 302 13 (0, 0, 120) (by decide) rfl).1 f1369 (eX12_rule (208, .getfield 302, 3) (List.mem_of_getElem? (i := 105) rfl)) ?_
        refine ff_icmp_ge hx hb (eX12_rule (211, .if_icmp .ge 7, 3) (List.mem_of_getElem? (i := 106) rfl)) (tgt := 218) rfl (fun c70 => ?_) (fun c70 => ?_)
        · skip
          have h8 : ruG T = ru2G T x14.1.2 (-x14.1.1) x14.2 := by unfold ruG; dsimp only; rw [hx11, hx14, if_pos hgd]
          have h218 : ruG T = ((2, -x14.1.1, ot.toInt, x62.1, x66.1), x66.2) := by rw [h8]; unfold ru2G; dsimp only; rw [htot]; dsimp only; rw [hx60, hx62, hx64, hx66]; unfold neG; rw [if_neg (by omega)]
          exact jn218 ot tw (x66.2) (2, -x14.1.1, ot.toInt, x62.1, x66.1) ls _ _ (by omega) (by omega) h218 (Or.inr ⟨by omega, rfl, by show -x14.1.1 = _; omega, rfl, _, jd66, dz66, dn66⟩) mf66_a_0 hh67 kp66 jy66 j66 (lv_sub hl [0, 1, 2, 3, 4, 5] rfl)
        · skip
          refine lv_aload_n hx hb (eX12_rule (214, .aload_n 0, 1) (List.mem_of_getElem? (i := 107) rfl)) rfl (lv_at hl 2 rfl) ?_
          refine tz_rowV (As := []) (st := []) (b := a) (C := RX12) (Ts := gT) hx hb hml hown h2 (fun _ h => h) (hX12_fail l D cA ro sz H0 a T (x66.2) ha) ⟨rfl, rfl⟩ ⟨by decide, by decide⟩ ⟨by decide, by decide⟩ (tb_8 31 rfl rfl) (tb_1 12 rfl rfl) (tb_8 28 rfl rfl) (tb_8 30 rfl rfl) (tb_0 33 rfl rfl) (show yX12_fail.cls ≠ "java/lang/invoke/MethodHandle" ∧ yX12_fail.cls ≠ "java/lang/invoke/VarHandle" ∧ (parseMethodDescriptor yX12_fail.desc).map (fun d => d.parameters.length) = some 0 by decide +kernel) zs_blind (zs_ob hh67 ha (show RTg[11]? = some (0, 11, 0, fsX12) from rfl) (zCX12 hKn.1)) (fun U hU hW => ⟨rfl, by rw [hU]; exact hh67.l0, zKb s U hW.alike hKn, by rw [hU]; exact j66⟩) hh67.2.2.1 hl.1 (Nat.le_of_ble_eq_true rfl) (eX12_rule (215, .invokevirtual 316, 3) (List.mem_of_getElem? (i := 108) rfl)) (fun r71 s71 t71 lo71 g71 f71 l71 => ?_)
          obtain ⟨q71, z71, c71, j71⟩ := f71
          cases q71
          rw [g71] at c71
          have hh71 : zh_ok D cA RTg ro sz H0 t71.heap lo71 := ⟨z71.1, z71.2.1, l71, z71.2.2.2⟩
          have kp71 := kp66.trans (c71.mono (ms' := yMr) (by decide))
          generalize hx71 : flG x66.2 = x71 at j71
          have uu71 := j71.2.2
          unfold vOK at uu71
          have mf71_a_0 := (c71.1 a 11 0 11 0 fsX12 ha rfl (by decide) (by decide)).trans mf66_a_0
          have mf71_a_13 := (c71.1 a 11 13 11 0 fsX12 ha rfl (by decide) (by decide)).trans f1369
          have jy71 := jy66.kept ha c71 (by decide)
          have jd71 := jd66.kept ha c71 (by decide)
          refine W.eq (g2 := F0 m 218 ls []) rfl ?_
          have h8 : ruG T = ru2G T x14.1.2 (-x14.1.1) x14.2 := by unfold ruG; dsimp only; rw [hx11, hx14, if_pos hgd]
          have h218 : ruG T = ((2, -x14.1.1, ot.toInt, x62.1, x66.1), x71) := by rw [h8]; unfold ru2G; dsimp only; rw [htot]; dsimp only; rw [hx60, hx62, hx64, hx66]; unfold neG; rw [if_pos ⟨by omega, by omega⟩, hx71]
          exact jn218 ot tw (x71) (2, -x14.1.1, ot.toInt, x62.1, x66.1) ls _ _ (by omega) (by omega) h218 (Or.inr ⟨by omega, rfl, by show -x14.1.1 = _; omega, rfl, _, jd71, dz66, dn66⟩) mf71_a_0 hh71 kp71 jy71 j71 (lv_sub hl [0, 1, 2, 3, 4, 5] rfl)
    have jn104 : ∀ (ot tw : Int32) (g : uS) (ls : Array Slot) (H : Heap) (lo0 : List Loc), tw.toInt = 1 → (x14.2.2.1 < 0 ∧ x14.2.1 < (T.length : Int)) → n1G T x14.2 = nameG T g → zh_f D H a 11 0 = .int v7 → zh_ok D cA RTg ro sz H0 H lo0 → zc_kept D RTg ro yMr s.heap H → jRY D cA ro H a L (Z, R) → jV D cA ro H a T g → lv_has ls 7 [(4, .int ot), (5, .int tw), (0, .ref a), (1, .int zi), (2, .int v15), (3, .int hv14)] → W p l e (headSpec (gW yX12_rule cX12_rule 7 (some .long)) { frames := 4, cells := 0, slots := 0, locals := 90 }).room s m ([.ref a, .int zi] : List Value).toArray below meth c H lo0 0 0 (MQ below (yy_QR D cA ro sz H0 a vL (spUY zi.toInt T L (Z, R))) ([.ref a, .int zi] : List Value).toArray s 0 0 (zy_fr sz)) (F0 m 104 ls []) := by
      intro ot tw g ls H lo0 b2 hgd htot fw hh0 kpl jyl jl hl
      have hul := jl.2.2
      unfold vOK at hul
      refine lv_aload_n hx hb (eX12_rule (104, .aload_n 0, 1) (List.mem_of_getElem? (i := 53) rfl)) rfl (lv_at hl 2 rfl) ?_
      refine tz_rowV (As := []) (st := []) (b := a) (C := RX12) (Ts := gT) hx hb hml hown h2 (fun _ h => h) (hX12_ruleName l D cA ro sz H0 a T (g) ha) ⟨rfl, rfl⟩ ⟨by decide, by decide⟩ ⟨by decide, by decide⟩ (tb_8 9 rfl rfl) (tb_1 12 rfl rfl) (tb_8 6 rfl rfl) (tb_8 8 rfl rfl) (tb_0 29 rfl rfl) (show yX12_ruleName.cls ≠ "java/lang/invoke/MethodHandle" ∧ yX12_ruleName.cls ≠ "java/lang/invoke/VarHandle" ∧ (parseMethodDescriptor yX12_ruleName.desc).map (fun d => d.parameters.length) = some 0 by decide +kernel) zs_blind (zs_ob hh0 ha (show RTg[11]? = some (0, 11, 0, fsX12) from rfl) (zCX12 hKn.1)) (fun U hU hW => ⟨rfl, by rw [hU]; exact hh0.l0, zKb s U hW.alike hKn, by rw [hU]; exact jl⟩) hh0.2.2.1 hl.1 (Nat.le_of_ble_eq_true rfl) (eX12_rule (105, .invokevirtual 348, 3) (List.mem_of_getElem? (i := 54) rfl)) (fun r72 s72 t72 lo72 g72 f72 l72 => ?_)
      obtain ⟨q72, z72, c72, j72⟩ := f72
      cases q72
      rw [g72] at c72
      have hh72 : zh_ok D cA RTg ro sz H0 t72.heap lo72 := ⟨z72.1, z72.2.1, l72, z72.2.2.2⟩
      have kp72 := kpl.trans (c72.mono (ms' := yMr) (by decide))
      generalize hx72 : nameG T g = x72 at j72
      have uu72 := j72.2.2
      unfold vOK at uu72
      have mf72_a_0 := (c72.1 a 11 0 11 0 fsX12 ha rfl (by decide) (by decide)).trans fw
      have jy72 := jyl.kept ha c72 (by decide)
      refine W.eq (g2 := F0 m 108 ls []) rfl ?_
      refine lv_aload_n hx hb (eX12_rule (108, .aload_n 0, 1) (List.mem_of_getElem? (i := 55) rfl)) rfl (lv_at hl 2 rfl) ?_
      refine tz_rowV (As := []) (st := []) (b := a) (C := RX12) (Ts := gT) hx hb hml hown h2 (fun _ h => h) (hX12_isGood l D cA ro sz H0 a T (x72) ha) ⟨rfl, rfl⟩ ⟨by decide, by decide⟩ ⟨by decide, by decide⟩ (tb_8 17 rfl rfl) (tb_1 12 rfl rfl) (tb_8 14 rfl rfl) (tb_8 16 rfl rfl) (tb_0 31 rfl rfl) (show yX12_isGood.cls ≠ "java/lang/invoke/MethodHandle" ∧ yX12_isGood.cls ≠ "java/lang/invoke/VarHandle" ∧ (parseMethodDescriptor yX12_isGood.desc).map (fun d => d.parameters.length) = some 0 by decide +kernel) zs_blind (zs_ob hh72 ha (show RTg[11]? = some (0, 11, 0, fsX12) from rfl) (zCX12 hKn.1)) (fun U hU hW => ⟨rfl, by rw [hU]; exact hh72.l0, zKb s U hW.alike hKn, by rw [hU]; exact j72⟩) hh72.2.2.1 hl.1 (Nat.le_of_ble_eq_true rfl) (eX12_rule (109, .invokevirtual 305, 3) (List.mem_of_getElem? (i := 56) rfl)) (fun r73 s73 t73 lo73 g73 f73 l73 => ?_)
      obtain ⟨z73, v73, q73, e73⟩ := f73
      cases q73
      rw [z73, g73]
      have hh73 : zh_ok D cA RTg ro sz H0 t72.heap lo73 := ⟨hh72.1, hh72.2.1, l73, hh72.2.2.2⟩
      refine W.eq (g2 := F0 m 112 ls [.int v73]) rfl ?_
      refine ff_if_eq hx hb (eX12_rule (112, .ifCond .eq 25, 3) (List.mem_of_getElem? (i := 57) rfl)) (tgt := 137) rfl (fun c74 => ?_) (fun c74 => ?_)
      · skip
        refine lv_iload_n hx hb (eX12_rule (137, .iload_n 2, 1) (List.mem_of_getElem? (i := 69) rfl)) rfl (lv_at hl 4 rfl) ?_
        refine ff_bipush hx hb (eX12_rule (138, .bipush 60, 2) (List.mem_of_getElem? (i := 70) rfl)) (by decide) (by decide) (fun v75 e75 => ?_)
        refine ff_iadd hx hb (eX12_rule (140, .iadd, 1) (List.mem_of_getElem? (i := 71) rfl)) (by omega) (by omega) (fun v76 e76 => ?_)
        refine lv_istore hx hb (eX12_rule (141, .istore 4, 2) (List.mem_of_getElem? (i := 72) rfl)) hl (by decide) rfl (fun ls77 hl77 => ?_)
        refine lv_aload_n hx hb (eX12_rule (143, .aload_n 0, 1) (List.mem_of_getElem? (i := 73) rfl)) rfl (lv_at hl77 2 rfl) ?_
        refine tz_rowV (As := []) (st := []) (b := a) (C := RX12) (Ts := gT) hx hb hml hown h2 (fun _ h => h) (hX12_isGood l D cA ro sz H0 a T (x72) ha) ⟨rfl, rfl⟩ ⟨by decide, by decide⟩ ⟨by decide, by decide⟩ (tb_8 17 rfl rfl) (tb_1 12 rfl rfl) (tb_8 14 rfl rfl) (tb_8 16 rfl rfl) (tb_0 31 rfl rfl) (show yX12_isGood.cls ≠ "java/lang/invoke/MethodHandle" ∧ yX12_isGood.cls ≠ "java/lang/invoke/VarHandle" ∧ (parseMethodDescriptor yX12_isGood.desc).map (fun d => d.parameters.length) = some 0 by decide +kernel) zs_blind (zs_ob hh73 ha (show RTg[11]? = some (0, 11, 0, fsX12) from rfl) (zCX12 hKn.1)) (fun U hU hW => ⟨rfl, by rw [hU]; exact hh73.l0, zKb s U hW.alike hKn, by rw [hU]; exact j72⟩) hh73.2.2.1 hl77.1 (Nat.le_of_ble_eq_true rfl) (eX12_rule (144, .invokevirtual 305, 3) (List.mem_of_getElem? (i := 74) rfl)) (fun r78 s78 t78 lo78 g78 f78 l78 => ?_)
        obtain ⟨z78, v78, q78, e78⟩ := f78
        cases q78
        rw [z78, g78]
        have hh78 : zh_ok D cA RTg ro sz H0 t72.heap lo78 := ⟨hh73.1, hh73.2.1, l78, hh73.2.2.2⟩
        refine W.eq (g2 := F0 m 147 ls77 [.int v78]) rfl ?_
        refine ff_if_eq hx hb (eX12_rule (147, .ifCond .eq 27, 3) (List.mem_of_getElem? (i := 75) rfl)) (tgt := 174) rfl (fun c79 => ?_) (fun c79 => ?_)
        · skip
          exact jn174 v76 tw (x72) ls77 _ _ (by omega) (by omega) hgd (by rw [htot, hx72]; unfold secG; rw [if_neg (by omega), show -x14.1.1 = v15.toInt by omega]; rw [if_neg (fun q => by have q1 := q.1; have q2 := q.2.1; omega), show v76.toInt = v15.toInt + 60 by omega]) mf72_a_0 hh78 kp72 jy72 j72 (lv_sub hl77 [0, 1, 2, 3, 4, 5] rfl)
        · skip
          refine lv_aload_n hx hb (eX12_rule (150, .aload_n 0, 1) (List.mem_of_getElem? (i := 76) rfl)) rfl (lv_at hl77 2 rfl) ?_
          obtain ⟨jt80, ⟨av80, fv80, bv80, f2980, f3080, f3180, hav80, hfv80, hbv80⟩, hu80⟩ := id j72
          have hw80 := hu80
          unfold vOK at hw80
          obtain ⟨tb80, n80, z80, f1280, r080, f1380, hn80, hc80, hz80⟩ := id jt80
          refine tz_get (r := 11) (k := 31) (t := (0, (-2147483648), 2147483647)) hx hb hh78 ha rfl rfl (hcl11 299 31 (0, (-2147483648), 2147483647) (by decide) rfl).1 f3180 (eX12_rule (151, .getfield 299, 3) (List.mem_of_getElem? (i := 77) rfl)) ?_
          refine ff_sipush hx hb (eX12_rule (154, .sipush 1000, 3) (List.mem_of_getElem? (i := 78) rfl)) (by decide) (by decide) (fun v81 e81 => ?_)
          refine ff_icmp_ne hx hb (eX12_rule (157, .if_icmp .ne 17, 3) (List.mem_of_getElem? (i := 79) rfl)) (tgt := 174) rfl (fun c82 => ?_) (fun c82 => ?_)
          · skip
            exact jn174 v76 tw (x72) ls77 _ _ (by omega) (by omega) hgd (by rw [htot, hx72]; unfold secG; rw [if_neg (by omega), show -x14.1.1 = v15.toInt by omega]; rw [if_neg (fun q => by have q1 := q.1; have q2 := q.2.1; omega), show v76.toInt = v15.toInt + 60 by omega]) mf72_a_0 hh78 kp72 jy72 j72 (lv_sub hl77 [0, 1, 2, 3, 4, 5] rfl)
          · skip
            refine lv_iload hx hb (eX12_rule (160, .iload 4, 2) (List.mem_of_getElem? (i := 80) rfl)) (lv_at hl77 0 rfl) ?_
            refine ff_i2l hx hb (eX12_rule (162, .i2l, 1) (List.mem_of_getElem? (i := 81) rfl)) (fun v83 e83 => ?_)
            refine zu_S (vs := [.long v83]) (rest := []) hx hb hml hown hts0 zu_BT (hX12_isOffset l v83) ⟨rfl, rfl⟩ ⟨by decide, by decide⟩ ⟨by decide, by decide⟩ (tb_7 153 rfl rfl) (tb_1 12 rfl rfl) (tb_7 151 rfl rfl) (tb_7 152 rfl rfl) (show yX12_isOffset.cls ≠ "java/lang/invoke/MethodHandle" ∧ yX12_isOffset.cls ≠ "java/lang/invoke/VarHandle" ∧ (parseMethodDescriptor yX12_isOffset.desc).map (fun d => d.parameters.length) = some 1 by decide +kernel) rfl (fun _ _ _ => trivial) hl77.1 (Nat.le_of_ble_eq_true rfl) (eX12_rule (163, .invokestatic 218, 3) (List.mem_of_getElem? (i := 82) rfl)) (fun w84 f84 => ?_)
            obtain ⟨v84, rfl, e84⟩ := f84
            refine ff_if_ne hx hb (eX12_rule (166, .ifCond .ne 8, 3) (List.mem_of_getElem? (i := 83) rfl)) (tgt := 174) rfl (fun c85 => ?_) (fun c85 => ?_)
            · have hio : oInG (v15.toInt + 60) := by unfold oInG; omega
              exact jn174 v76 tw (x72) ls77 _ _ (by omega) (by omega) hgd (by rw [htot, hx72]; unfold secG; rw [if_neg (by omega), show -x14.1.1 = v15.toInt by omega]; rw [if_neg (fun q => q.2.2 hio), show v76.toInt = v15.toInt + 60 by omega]) mf72_a_0 hh78 kp72 jy72 j72 (lv_sub hl77 [0, 1, 2, 3, 4, 5] rfl)
            · have hno : ¬ oInG (v15.toInt + 60) := by unfold oInG; omega
              refine lv_aload_n hx hb (eX12_rule (169, .aload_n 0, 1) (List.mem_of_getElem? (i := 84) rfl)) rfl (lv_at hl77 2 rfl) ?_
              refine lv_iload_n hx hb (eX12_rule (170, .iload_n 3, 1) (List.mem_of_getElem? (i := 85) rfl)) rfl (lv_at hl77 5 rfl) ?_
              refine tz_rowV (As := [.int hv14]) (st := []) (b := a) (C := RX12) (Ts := gT) hx hb hml hown h2 (fun _ h => h) (hX12_bad l D cA ro sz H0 a hv14 (x14.1.2) T (x72) ha (by omega)) ⟨rfl, rfl⟩ ⟨by decide, by decide⟩ ⟨by decide, by decide⟩ (tb_8 47 rfl rfl) (tb_1 12 rfl rfl) (tb_8 44 rfl rfl) (tb_8 46 rfl rfl) (tb_0 37 rfl rfl) (show yX12_bad.cls ≠ "java/lang/invoke/MethodHandle" ∧ yX12_bad.cls ≠ "java/lang/invoke/VarHandle" ∧ (parseMethodDescriptor yX12_bad.desc).map (fun d => d.parameters.length) = some 1 by decide +kernel) zs_blind (zs_ob hh78 ha (show RTg[11]? = some (0, 11, 0, fsX12) from rfl) (zCX12 hKn.1)) (fun U hU hW => ⟨rfl, by rw [hU]; exact hh78.l0, zKb s U hW.alike hKn, by rw [hU]; exact j72⟩) hh78.2.2.1 hl77.1 (Nat.le_of_ble_eq_true rfl) (eX12_rule (171, .invokevirtual 335, 3) (List.mem_of_getElem? (i := 86) rfl)) (fun r86 s86 t86 lo86 g86 f86 l86 => ?_)
              obtain ⟨q86, z86, c86, j86⟩ := f86
              cases q86
              rw [g86] at c86
              have hh86 : zh_ok D cA RTg ro sz H0 t86.heap lo86 := ⟨z86.1, z86.2.1, l86, z86.2.2.2⟩
              have kp86 := kp72.trans (c86.mono (ms' := yMr) (by decide))
              generalize hx86 : bdG (x14.1.2) x72 = x86 at j86
              have uu86 := j86.2.2
              unfold vOK at uu86
              have mf86_a_0 := (c86.1 a 11 0 11 0 fsX12 ha rfl (by decide) (by decide)).trans mf72_a_0
              have mf86_a_13 := (c86.1 a 11 13 11 0 fsX12 ha rfl (by decide) (by decide)).trans f1380
              have jy86 := jy72.kept ha c86 (by decide)
              refine W.eq (g2 := F0 m 174 ls77 []) rfl ?_
              exact jn174 v76 tw (x86) ls77 _ _ (by omega) (by omega) hgd (by rw [htot, hx72]; unfold secG; rw [if_neg (by omega), show -x14.1.1 = v15.toInt by omega]; rw [if_pos ⟨by omega, by omega, hno⟩, hx86, show v76.toInt = v15.toInt + 60 by omega]) mf86_a_0 hh86 kp86 jy86 j86 (lv_sub hl77 [0, 1, 2, 3, 4, 5] rfl)
      · skip
        refine lv_aload_n hx hb (eX12_rule (115, .aload_n 0, 1) (List.mem_of_getElem? (i := 58) rfl)) rfl (lv_at hl 2 rfl) ?_
        refine tz_rowV (As := []) (st := []) (b := a) (C := RX12) (Ts := gT) hx hb hml hown h2 (fun _ h => h) (hX12_sign l D cA ro sz H0 a T (x72) ha) ⟨rfl, rfl⟩ ⟨by decide, by decide⟩ ⟨by decide, by decide⟩ (tb_8 21 rfl rfl) (tb_1 12 rfl rfl) (tb_8 18 rfl rfl) (tb_8 20 rfl rfl) (tb_0 32 rfl rfl) (show yX12_sign.cls ≠ "java/lang/invoke/MethodHandle" ∧ yX12_sign.cls ≠ "java/lang/invoke/VarHandle" ∧ (parseMethodDescriptor yX12_sign.desc).map (fun d => d.parameters.length) = some 0 by decide +kernel) zs_blind (zs_ob hh73 ha (show RTg[11]? = some (0, 11, 0, fsX12) from rfl) (zCX12 hKn.1)) (fun U hU hW => ⟨rfl, by rw [hU]; exact hh73.l0, zKb s U hW.alike hKn, by rw [hU]; exact j72⟩) hh73.2.2.1 hl.1 (Nat.le_of_ble_eq_true rfl) (eX12_rule (116, .invokevirtual 309, 3) (List.mem_of_getElem? (i := 59) rfl)) (fun r87 s87 t87 lo87 g87 f87 l87 => ?_)
        obtain ⟨z87, v87, q87, e87⟩ := f87
        cases q87
        rw [z87, g87]
        have hh87 : zh_ok D cA RTg ro sz H0 t72.heap lo87 := ⟨hh73.1, hh73.2.1, l87, hh73.2.2.2⟩
        refine W.eq (g2 := F0 m 119 ls [.int v87]) rfl ?_
        refine ff_bipush hx hb (eX12_rule (119, .bipush 44, 2) (List.mem_of_getElem? (i := 60) rfl)) (by decide) (by decide) (fun v88 e88 => ?_)
        refine ff_icmp_eq hx hb (eX12_rule (121, .if_icmp .eq 16, 3) (List.mem_of_getElem? (i := 61) rfl)) (tgt := 137) rfl (fun c89 => ?_) (fun c89 => ?_)
        · skip
          refine lv_iload_n hx hb (eX12_rule (137, .iload_n 2, 1) (List.mem_of_getElem? (i := 69) rfl)) rfl (lv_at hl 4 rfl) ?_
          refine ff_bipush hx hb (eX12_rule (138, .bipush 60, 2) (List.mem_of_getElem? (i := 70) rfl)) (by decide) (by decide) (fun v90 e90 => ?_)
          refine ff_iadd hx hb (eX12_rule (140, .iadd, 1) (List.mem_of_getElem? (i := 71) rfl)) (by omega) (by omega) (fun v91 e91 => ?_)
          refine lv_istore hx hb (eX12_rule (141, .istore 4, 2) (List.mem_of_getElem? (i := 72) rfl)) hl (by decide) rfl (fun ls92 hl92 => ?_)
          refine lv_aload_n hx hb (eX12_rule (143, .aload_n 0, 1) (List.mem_of_getElem? (i := 73) rfl)) rfl (lv_at hl92 2 rfl) ?_
          refine tz_rowV (As := []) (st := []) (b := a) (C := RX12) (Ts := gT) hx hb hml hown h2 (fun _ h => h) (hX12_isGood l D cA ro sz H0 a T (x72) ha) ⟨rfl, rfl⟩ ⟨by decide, by decide⟩ ⟨by decide, by decide⟩ (tb_8 17 rfl rfl) (tb_1 12 rfl rfl) (tb_8 14 rfl rfl) (tb_8 16 rfl rfl) (tb_0 31 rfl rfl) (show yX12_isGood.cls ≠ "java/lang/invoke/MethodHandle" ∧ yX12_isGood.cls ≠ "java/lang/invoke/VarHandle" ∧ (parseMethodDescriptor yX12_isGood.desc).map (fun d => d.parameters.length) = some 0 by decide +kernel) zs_blind (zs_ob hh87 ha (show RTg[11]? = some (0, 11, 0, fsX12) from rfl) (zCX12 hKn.1)) (fun U hU hW => ⟨rfl, by rw [hU]; exact hh87.l0, zKb s U hW.alike hKn, by rw [hU]; exact j72⟩) hh87.2.2.1 hl92.1 (Nat.le_of_ble_eq_true rfl) (eX12_rule (144, .invokevirtual 305, 3) (List.mem_of_getElem? (i := 74) rfl)) (fun r93 s93 t93 lo93 g93 f93 l93 => ?_)
          obtain ⟨z93, v93, q93, e93⟩ := f93
          cases q93
          rw [z93, g93]
          have hh93 : zh_ok D cA RTg ro sz H0 t72.heap lo93 := ⟨hh87.1, hh87.2.1, l93, hh87.2.2.2⟩
          refine W.eq (g2 := F0 m 147 ls92 [.int v93]) rfl ?_
          refine ff_if_eq hx hb (eX12_rule (147, .ifCond .eq 27, 3) (List.mem_of_getElem? (i := 75) rfl)) (tgt := 174) rfl (fun c94 => ?_) (fun c94 => ?_)
          · skip
            exact jn174 v91 tw (x72) ls92 _ _ (by omega) (by omega) hgd (by rw [htot, hx72]; unfold secG; rw [if_neg (by omega), show -x14.1.1 = v15.toInt by omega]; rw [if_neg (fun q => by have q1 := q.1; have q2 := q.2.1; omega), show v91.toInt = v15.toInt + 60 by omega]) mf72_a_0 hh93 kp72 jy72 j72 (lv_sub hl92 [0, 1, 2, 3, 4, 5] rfl)
          · skip
            refine lv_aload_n hx hb (eX12_rule (150, .aload_n 0, 1) (List.mem_of_getElem? (i := 76) rfl)) rfl (lv_at hl92 2 rfl) ?_
            obtain ⟨jt95, ⟨av95, fv95, bv95, f2995, f3095, f3195, hav95, hfv95, hbv95⟩, hu95⟩ := id j72
            have hw95 := hu95
            unfold vOK at hw95
            obtain ⟨tb95, n95, z95, f1295, r095, f1395, hn95, hc95, hz95⟩ := id jt95
            refine tz_get (r := 11) (k := 31) (t := (0, (-2147483648), 2147483647)) hx hb hh93 ha rfl rfl (hcl11 299 31 (0, (-2147483648), 2147483647) (by decide) rfl).1 f3195 (eX12_rule (151, .getfield 299, 3) (List.mem_of_getElem? (i := 77) rfl)) ?_
            refine ff_sipush hx hb (eX12_rule (154, .sipush 1000, 3) (List.mem_of_getElem? (i := 78) rfl)) (by decide) (by decide) (fun v96 e96 => ?_)
            refine ff_icmp_ne hx hb (eX12_rule (157, .if_icmp .ne 17, 3) (List.mem_of_getElem? (i := 79) rfl)) (tgt := 174) rfl (fun c97 => ?_) (fun c97 => ?_)
            · skip
              exact jn174 v91 tw (x72) ls92 _ _ (by omega) (by omega) hgd (by rw [htot, hx72]; unfold secG; rw [if_neg (by omega), show -x14.1.1 = v15.toInt by omega]; rw [if_neg (fun q => by have q1 := q.1; have q2 := q.2.1; omega), show v91.toInt = v15.toInt + 60 by omega]) mf72_a_0 hh93 kp72 jy72 j72 (lv_sub hl92 [0, 1, 2, 3, 4, 5] rfl)
            · skip
              refine lv_iload hx hb (eX12_rule (160, .iload 4, 2) (List.mem_of_getElem? (i := 80) rfl)) (lv_at hl92 0 rfl) ?_
              refine ff_i2l hx hb (eX12_rule (162, .i2l, 1) (List.mem_of_getElem? (i := 81) rfl)) (fun v98 e98 => ?_)
              refine zu_S (vs := [.long v98]) (rest := []) hx hb hml hown hts0 zu_BT (hX12_isOffset l v98) ⟨rfl, rfl⟩ ⟨by decide, by decide⟩ ⟨by decide, by decide⟩ (tb_7 153 rfl rfl) (tb_1 12 rfl rfl) (tb_7 151 rfl rfl) (tb_7 152 rfl rfl) (show yX12_isOffset.cls ≠ "java/lang/invoke/MethodHandle" ∧ yX12_isOffset.cls ≠ "java/lang/invoke/VarHandle" ∧ (parseMethodDescriptor yX12_isOffset.desc).map (fun d => d.parameters.length) = some 1 by decide +kernel) rfl (fun _ _ _ => trivial) hl92.1 (Nat.le_of_ble_eq_true rfl) (eX12_rule (163, .invokestatic 218, 3) (List.mem_of_getElem? (i := 82) rfl)) (fun w99 f99 => ?_)
              obtain ⟨v99, rfl, e99⟩ := f99
              refine ff_if_ne hx hb (eX12_rule (166, .ifCond .ne 8, 3) (List.mem_of_getElem? (i := 83) rfl)) (tgt := 174) rfl (fun c100 => ?_) (fun c100 => ?_)
              · have hio : oInG (v15.toInt + 60) := by unfold oInG; omega
                exact jn174 v91 tw (x72) ls92 _ _ (by omega) (by omega) hgd (by rw [htot, hx72]; unfold secG; rw [if_neg (by omega), show -x14.1.1 = v15.toInt by omega]; rw [if_neg (fun q => q.2.2 hio), show v91.toInt = v15.toInt + 60 by omega]) mf72_a_0 hh93 kp72 jy72 j72 (lv_sub hl92 [0, 1, 2, 3, 4, 5] rfl)
              · have hno : ¬ oInG (v15.toInt + 60) := by unfold oInG; omega
                refine lv_aload_n hx hb (eX12_rule (169, .aload_n 0, 1) (List.mem_of_getElem? (i := 84) rfl)) rfl (lv_at hl92 2 rfl) ?_
                refine lv_iload_n hx hb (eX12_rule (170, .iload_n 3, 1) (List.mem_of_getElem? (i := 85) rfl)) rfl (lv_at hl92 5 rfl) ?_
                refine tz_rowV (As := [.int hv14]) (st := []) (b := a) (C := RX12) (Ts := gT) hx hb hml hown h2 (fun _ h => h) (hX12_bad l D cA ro sz H0 a hv14 (x14.1.2) T (x72) ha (by omega)) ⟨rfl, rfl⟩ ⟨by decide, by decide⟩ ⟨by decide, by decide⟩ (tb_8 47 rfl rfl) (tb_1 12 rfl rfl) (tb_8 44 rfl rfl) (tb_8 46 rfl rfl) (tb_0 37 rfl rfl) (show yX12_bad.cls ≠ "java/lang/invoke/MethodHandle" ∧ yX12_bad.cls ≠ "java/lang/invoke/VarHandle" ∧ (parseMethodDescriptor yX12_bad.desc).map (fun d => d.parameters.length) = some 1 by decide +kernel) zs_blind (zs_ob hh93 ha (show RTg[11]? = some (0, 11, 0, fsX12) from rfl) (zCX12 hKn.1)) (fun U hU hW => ⟨rfl, by rw [hU]; exact hh93.l0, zKb s U hW.alike hKn, by rw [hU]; exact j72⟩) hh93.2.2.1 hl92.1 (Nat.le_of_ble_eq_true rfl) (eX12_rule (171, .invokevirtual 335, 3) (List.mem_of_getElem? (i := 86) rfl)) (fun r101 s101 t101 lo101 g101 f101 l101 => ?_)
                obtain ⟨q101, z101, c101, j101⟩ := f101
                cases q101
                rw [g101] at c101
                have hh101 : zh_ok D cA RTg ro sz H0 t101.heap lo101 := ⟨z101.1, z101.2.1, l101, z101.2.2.2⟩
                have kp101 := kp72.trans (c101.mono (ms' := yMr) (by decide))
                generalize hx101 : bdG (x14.1.2) x72 = x101 at j101
                have uu101 := j101.2.2
                unfold vOK at uu101
                have mf101_a_0 := (c101.1 a 11 0 11 0 fsX12 ha rfl (by decide) (by decide)).trans mf72_a_0
                have mf101_a_13 := (c101.1 a 11 13 11 0 fsX12 ha rfl (by decide) (by decide)).trans f1395
                have jy101 := jy72.kept ha c101 (by decide)
                refine W.eq (g2 := F0 m 174 ls92 []) rfl ?_
                exact jn174 v91 tw (x101) ls92 _ _ (by omega) (by omega) hgd (by rw [htot, hx72]; unfold secG; rw [if_neg (by omega), show -x14.1.1 = v15.toInt by omega]; rw [if_pos ⟨by omega, by omega, hno⟩, hx101, show v91.toInt = v15.toInt + 60 by omega]) mf101_a_0 hh101 kp101 jy101 j101 (lv_sub hl92 [0, 1, 2, 3, 4, 5] rfl)
        · skip
          refine lv_aload_n hx hb (eX12_rule (124, .aload_n 0, 1) (List.mem_of_getElem? (i := 62) rfl)) rfl (lv_at hl 2 rfl) ?_
          refine ff_iconst hx hb (eX12_rule (125, .iconst 1, 1) (List.mem_of_getElem? (i := 63) rfl)) (by decide) (by decide) (fun v102 e102 => ?_)
          refine ff_bipush hx hb (eX12_rule (126, .bipush 23, 2) (List.mem_of_getElem? (i := 64) rfl)) (by decide) (by decide) (fun v103 e103 => ?_)
          refine tz_rowV (As := [.int v102, .int v103]) (st := []) (b := a) (C := RX12) (Ts := gT) hx hb hml hown h2 (fun _ h => h) (hX12_ruleTime l D cA ro sz H0 a v102 v103 1 23 T (x72) ha (by omega) (by omega) (by decide)) ⟨rfl, rfl⟩ ⟨by decide, by decide⟩ ⟨by decide, by decide⟩ (tb_8 39 rfl rfl) (tb_1 12 rfl rfl) (tb_8 36 rfl rfl) (tb_8 38 rfl rfl) (tb_0 35 rfl rfl) (show yX12_ruleTime.cls ≠ "java/lang/invoke/MethodHandle" ∧ yX12_ruleTime.cls ≠ "java/lang/invoke/VarHandle" ∧ (parseMethodDescriptor yX12_ruleTime.desc).map (fun d => d.parameters.length) = some 2 by decide +kernel) zs_blind (zs_ob hh87 ha (show RTg[11]? = some (0, 11, 0, fsX12) from rfl) (zCX12 hKn.1)) (fun U hU hW => ⟨rfl, by rw [hU]; exact hh87.l0, zKb s U hW.alike hKn, by rw [hU]; exact j72⟩) hh87.2.2.1 hl.1 (Nat.le_of_ble_eq_true rfl) (eX12_rule (128, .invokevirtual 342, 3) (List.mem_of_getElem? (i := 65) rfl)) (fun r104 s104 t104 lo104 g104 f104 l104 => ?_)
          obtain ⟨v104, hv104, q104, e104, fh104, eh104, z104, c104, j104⟩ := f104
          cases q104
          rw [g104] at c104
          have hh104 : zh_ok D cA RTg ro sz H0 t104.heap lo104 := ⟨z104.1, z104.2.1, l104, z104.2.2.2⟩
          have kp104 := kp72.trans (c104.mono (ms' := yMr) (by decide))
          have kf104 := tmG_up T 1 23 x72
          generalize hx104 : tmG T 1 23 x72 = x104 at j104 e104 eh104 kf104
          have uu104 := j104.2.2
          unfold vOK at uu104
          have mf104_a_0 := (c104.1 a 11 0 11 0 fsX12 ha rfl (by decide) (by decide)).trans mf72_a_0
          have jy104 := jy72.kept ha c104 (by decide)
          refine W.eq (g2 := F0 m 131 ls [.int v104]) rfl ?_
          refine ff_ineg hx hb (eX12_rule (131, .ineg, 1) (List.mem_of_getElem? (i := 66) rfl)) (by omega) (by omega) (fun v105 e105 => ?_)
          refine lv_istore hx hb (eX12_rule (132, .istore 4, 2) (List.mem_of_getElem? (i := 67) rfl)) hl (by decide) rfl (fun ls106 hl106 => ?_)
          refine lv_goto hx hb (eX12_rule (134, .goto 40, 3) (List.mem_of_getElem? (i := 68) rfl)) (tgt := 174) rfl ?_
          exact jn174 v105 tw (x104.2) ls106 _ _ (by omega) (by omega) hgd (by rw [htot, hx72]; unfold secG; rw [if_pos ⟨by omega, by omega⟩, hx104, show v105.toInt = -x104.1.1 by omega]) mf104_a_0 hh104 kp104 jy104 j104 (lv_sub hl106 [0, 1, 2, 3, 4, 5] rfl)
    refine ff_iconst hx hb (eX12_rule (48, .iconst 0, 1) (List.mem_of_getElem? (i := 27) rfl)) (by decide) (by decide) (fun v107 e107 => ?_)
    refine lv_istore hx hb (eX12_rule (49, .istore 4, 2) (List.mem_of_getElem? (i := 28) rfl)) hl17 (by decide) rfl (fun ls108 hl108 => ?_)
    refine lv_aload_n hx hb (eX12_rule (51, .aload_n 0, 1) (List.mem_of_getElem? (i := 29) rfl)) rfl (lv_at hl108 3 rfl) ?_
    refine tz_rowV (As := []) (st := []) (b := a) (C := RX12) (Ts := gT) hx hb hml hown h2 (fun _ h => h) (hX12_isGood l D cA ro sz H0 a T (x14.2) ha) ⟨rfl, rfl⟩ ⟨by decide, by decide⟩ ⟨by decide, by decide⟩ (tb_8 17 rfl rfl) (tb_1 12 rfl rfl) (tb_8 14 rfl rfl) (tb_8 16 rfl rfl) (tb_0 31 rfl rfl) (show yX12_isGood.cls ≠ "java/lang/invoke/MethodHandle" ∧ yX12_isGood.cls ≠ "java/lang/invoke/VarHandle" ∧ (parseMethodDescriptor yX12_isGood.desc).map (fun d => d.parameters.length) = some 0 by decide +kernel) zs_blind (zs_ob hh14 ha (show RTg[11]? = some (0, 11, 0, fsX12) from rfl) (zCX12 hKn.1)) (fun U hU hW => ⟨rfl, by rw [hU]; exact hh14.l0, zKb s U hW.alike hKn, by rw [hU]; exact j14⟩) hh14.2.2.1 hl108.1 (Nat.le_of_ble_eq_true rfl) (eX12_rule (52, .invokevirtual 305, 3) (List.mem_of_getElem? (i := 30) rfl)) (fun r109 s109 t109 lo109 g109 f109 l109 => ?_)
    obtain ⟨z109, v109, q109, e109⟩ := f109
    cases q109
    rw [z109, g109]
    have hh109 : zh_ok D cA RTg ro sz H0 t14.heap lo109 := ⟨hh14.1, hh14.2.1, l109, hh14.2.2.2⟩
    refine W.eq (g2 := F0 m 55 ls108 [.int v109]) rfl ?_
    refine ff_if_eq hx hb (eX12_rule (55, .ifCond .eq 18, 3) (List.mem_of_getElem? (i := 31) rfl)) (tgt := 73) rfl (fun c110 => ?_) (fun c110 => ?_)
    · skip
      refine ff_iconst hx hb (eX12_rule (73, .iconst 0, 1) (List.mem_of_getElem? (i := 39) rfl)) (by decide) (by decide) (fun v111 e111 => ?_)
      refine lv_istore hx hb (eX12_rule (74, .istore 5, 2) (List.mem_of_getElem? (i := 40) rfl)) hl108 (by decide) rfl (fun ls112 hl112 => ?_)
      refine lv_iload hx hb (eX12_rule (76, .iload 5, 2) (List.mem_of_getElem? (i := 41) rfl)) (lv_at hl112 0 rfl) ?_
      refine ff_if_eq hx hb (eX12_rule (78, .ifCond .eq 140, 3) (List.mem_of_getElem? (i := 42) rfl)) (tgt := 218) rfl (fun c113 => ?_) (fun c113 => (by exfalso; omega))
      have h218 : ruG T = ((1, -x14.1.1, 0, rD0, rD0), x14.2) := by unfold ruG; dsimp only; rw [hx11, hx14, if_neg (by omega)]
      exact jn218 v107 v111 (x14.2) (1, -x14.1.1, 0, rD0, rD0) ls112 _ _ (by omega) (by omega) h218 (Or.inl ⟨by omega, rfl, by show -x14.1.1 = _; omega⟩) mf14_a_0 hh109 kp14 jy14 j14 (lv_sub hl112 [1, 0, 4, 5, 3, 2] rfl)
    · skip
      refine lv_aload_n hx hb (eX12_rule (58, .aload_n 0, 1) (List.mem_of_getElem? (i := 32) rfl)) rfl (lv_at hl108 3 rfl) ?_
      obtain ⟨jt114, ⟨av114, fv114, bv114, f29114, f30114, f31114, hav114, hfv114, hbv114⟩, hu114⟩ := id j14
      have hw114 := hu114
      unfold vOK at hw114
      obtain ⟨tb114, n114, z114, f12114, r0114, f13114, hn114, hc114, hz114⟩ := id jt114
      refine tz_get (r := 11) (k := 29) (t := (0, 0, 120)) hx hb hh109 ha rfl rfl (hcl11 293 29 (0, 0, 120) (by decide) rfl).1 f29114 (eX12_rule (59, .getfield 293, 3) (List.mem_of_getElem? (i := 33) rfl)) ?_
      refine lv_aload_n hx hb (eX12_rule (62, .aload_n 0, 1) (List.mem_of_getElem? (i := 34) rfl)) rfl (lv_at hl108 3 rfl) ?_
      refine tz_get (r := 11) (k := 13) (t := (0, 0, 120)) hx hb hh109 ha rfl rfl (hcl11 302 13 (0, 0, 120) (by decide) rfl).1 f13114 (eX12_rule (63, .getfield 302, 3) (List.mem_of_getElem? (i := 35) rfl)) ?_
      refine ff_icmp_ge hx hb (eX12_rule (66, .if_icmp .ge 7, 3) (List.mem_of_getElem? (i := 36) rfl)) (tgt := 73) rfl (fun c115 => ?_) (fun c115 => ?_)
      · skip
        refine ff_iconst hx hb (eX12_rule (73, .iconst 0, 1) (List.mem_of_getElem? (i := 39) rfl)) (by decide) (by decide) (fun v116 e116 => ?_)
        refine lv_istore hx hb (eX12_rule (74, .istore 5, 2) (List.mem_of_getElem? (i := 40) rfl)) hl108 (by decide) rfl (fun ls117 hl117 => ?_)
        refine lv_iload hx hb (eX12_rule (76, .iload 5, 2) (List.mem_of_getElem? (i := 41) rfl)) (lv_at hl117 0 rfl) ?_
        refine ff_if_eq hx hb (eX12_rule (78, .ifCond .eq 140, 3) (List.mem_of_getElem? (i := 42) rfl)) (tgt := 218) rfl (fun c118 => ?_) (fun c118 => (by exfalso; omega))
        have h218 : ruG T = ((1, -x14.1.1, 0, rD0, rD0), x14.2) := by unfold ruG; dsimp only; rw [hx11, hx14, if_neg (by omega)]
        exact jn218 v107 v116 (x14.2) (1, -x14.1.1, 0, rD0, rD0) ls117 _ _ (by omega) (by omega) h218 (Or.inl ⟨by omega, rfl, by show -x14.1.1 = _; omega⟩) mf14_a_0 hh109 kp14 jy14 j14 (lv_sub hl117 [1, 0, 4, 5, 3, 2] rfl)
      · skip
        refine ff_iconst hx hb (eX12_rule (69, .iconst 1, 1) (List.mem_of_getElem? (i := 37) rfl)) (by decide) (by decide) (fun v119 e119 => ?_)
        refine lv_goto hx hb (eX12_rule (70, .goto 4, 3) (List.mem_of_getElem? (i := 38) rfl)) (tgt := 74) rfl ?_
        refine lv_istore hx hb (eX12_rule (74, .istore 5, 2) (List.mem_of_getElem? (i := 40) rfl)) hl108 (by decide) rfl (fun ls120 hl120 => ?_)
        refine lv_iload hx hb (eX12_rule (76, .iload 5, 2) (List.mem_of_getElem? (i := 41) rfl)) (lv_at hl120 0 rfl) ?_
        refine ff_if_eq hx hb (eX12_rule (78, .ifCond .eq 140, 3) (List.mem_of_getElem? (i := 42) rfl)) (tgt := 218) rfl (fun c121 => (by exfalso; omega)) (fun c121 => ?_)
        refine lv_aload_n hx hb (eX12_rule (81, .aload_n 0, 1) (List.mem_of_getElem? (i := 43) rfl)) rfl (lv_at hl120 4 rfl) ?_
        refine tz_rowV (As := []) (st := []) (b := a) (C := RX12) (Ts := gT) hx hb hml hown h2 (fun _ h => h) (hX12_sign l D cA ro sz H0 a T (x14.2) ha) ⟨rfl, rfl⟩ ⟨by decide, by decide⟩ ⟨by decide, by decide⟩ (tb_8 21 rfl rfl) (tb_1 12 rfl rfl) (tb_8 18 rfl rfl) (tb_8 20 rfl rfl) (tb_0 32 rfl rfl) (show yX12_sign.cls ≠ "java/lang/invoke/MethodHandle" ∧ yX12_sign.cls ≠ "java/lang/invoke/VarHandle" ∧ (parseMethodDescriptor yX12_sign.desc).map (fun d => d.parameters.length) = some 0 by decide +kernel) zs_blind (zs_ob hh109 ha (show RTg[11]? = some (0, 11, 0, fsX12) from rfl) (zCX12 hKn.1)) (fun U hU hW => ⟨rfl, by rw [hU]; exact hh109.l0, zKb s U hW.alike hKn, by rw [hU]; exact j14⟩) hh109.2.2.1 hl120.1 (Nat.le_of_ble_eq_true rfl) (eX12_rule (82, .invokevirtual 309, 3) (List.mem_of_getElem? (i := 44) rfl)) (fun r122 s122 t122 lo122 g122 f122 l122 => ?_)
        obtain ⟨z122, v122, q122, e122⟩ := f122
        cases q122
        rw [z122, g122]
        have hh122 : zh_ok D cA RTg ro sz H0 t14.heap lo122 := ⟨hh109.1, hh109.2.1, l122, hh109.2.2.2⟩
        refine W.eq (g2 := F0 m 85 ls120 [.int v122]) rfl ?_
        refine zu_S (vs := [.int v122]) (rest := []) hx hb hml hown hts0 zu_BT (hX12_isLetter l v122) ⟨rfl, rfl⟩ ⟨by decide, by decide⟩ ⟨by decide, by decide⟩ (tb_8 24 rfl rfl) (tb_1 12 rfl rfl) (tb_8 22 rfl rfl) (tb_8 23 rfl rfl) (show yX12_isLetter.cls ≠ "java/lang/invoke/MethodHandle" ∧ yX12_isLetter.cls ≠ "java/lang/invoke/VarHandle" ∧ (parseMethodDescriptor yX12_isLetter.desc).map (fun d => d.parameters.length) = some 1 by decide +kernel) rfl (fun _ _ _ => trivial) hl120.1 (Nat.le_of_ble_eq_true rfl) (eX12_rule (85, .invokestatic 322, 3) (List.mem_of_getElem? (i := 45) rfl)) (fun w123 f123 => ?_)
        obtain ⟨v123, rfl, e123⟩ := f123
        refine ff_if_ne hx hb (eX12_rule (88, .ifCond .ne 16, 3) (List.mem_of_getElem? (i := 46) rfl)) (tgt := 104) rfl (fun c124 => ?_) (fun c124 => ?_)
        · have hnl : isT (byI T x14.2.1) := by rcases e123 with h | h; rw [← e122]; exact h.2; exfalso; omega
          exact jn104 v107 v119 (x14.2) ls120 _ _ (by omega) (by omega) (by unfold n1G; rw [if_neg (fun q => q.1 hnl)]) mf14_a_0 hh122 kp14 jy14 j14 (lv_sub hl120 [1, 0, 4, 5, 3, 2] rfl)
        · have hnl : ¬ isT (byI T x14.2.1) := by rcases e123 with h | h; exfalso; omega; rw [← e122]; exact h.2
          refine lv_aload_n hx hb (eX12_rule (91, .aload_n 0, 1) (List.mem_of_getElem? (i := 47) rfl)) rfl (lv_at hl120 4 rfl) ?_
          refine tz_rowV (As := []) (st := []) (b := a) (C := RX12) (Ts := gT) hx hb hml hown h2 (fun _ h => h) (hX12_sign l D cA ro sz H0 a T (x14.2) ha) ⟨rfl, rfl⟩ ⟨by decide, by decide⟩ ⟨by decide, by decide⟩ (tb_8 21 rfl rfl) (tb_1 12 rfl rfl) (tb_8 18 rfl rfl) (tb_8 20 rfl rfl) (tb_0 32 rfl rfl) (show yX12_sign.cls ≠ "java/lang/invoke/MethodHandle" ∧ yX12_sign.cls ≠ "java/lang/invoke/VarHandle" ∧ (parseMethodDescriptor yX12_sign.desc).map (fun d => d.parameters.length) = some 0 by decide +kernel) zs_blind (zs_ob hh122 ha (show RTg[11]? = some (0, 11, 0, fsX12) from rfl) (zCX12 hKn.1)) (fun U hU hW => ⟨rfl, by rw [hU]; exact hh122.l0, zKb s U hW.alike hKn, by rw [hU]; exact j14⟩) hh122.2.2.1 hl120.1 (Nat.le_of_ble_eq_true rfl) (eX12_rule (92, .invokevirtual 309, 3) (List.mem_of_getElem? (i := 48) rfl)) (fun r125 s125 t125 lo125 g125 f125 l125 => ?_)
          obtain ⟨z125, v125, q125, e125⟩ := f125
          cases q125
          rw [z125, g125]
          have hh125 : zh_ok D cA RTg ro sz H0 t14.heap lo125 := ⟨hh122.1, hh122.2.1, l125, hh122.2.2.2⟩
          refine W.eq (g2 := F0 m 95 ls120 [.int v125]) rfl ?_
          refine ff_bipush hx hb (eX12_rule (95, .bipush 60, 2) (List.mem_of_getElem? (i := 49) rfl)) (by decide) (by decide) (fun v126 e126 => ?_)
          refine ff_icmp_eq hx hb (eX12_rule (97, .if_icmp .eq 7, 3) (List.mem_of_getElem? (i := 50) rfl)) (tgt := 104) rfl (fun c127 => ?_) (fun c127 => ?_)
          · skip
            exact jn104 v107 v119 (x14.2) ls120 _ _ (by omega) (by omega) (by unfold n1G; rw [if_neg (fun q => q.2 (by omega))]) mf14_a_0 hh125 kp14 jy14 j14 (lv_sub hl120 [1, 0, 4, 5, 3, 2] rfl)
          · skip
            refine lv_aload_n hx hb (eX12_rule (100, .aload_n 0, 1) (List.mem_of_getElem? (i := 51) rfl)) rfl (lv_at hl120 4 rfl) ?_
            refine tz_rowV (As := []) (st := []) (b := a) (C := RX12) (Ts := gT) hx hb hml hown h2 (fun _ h => h) (hX12_fail l D cA ro sz H0 a T (x14.2) ha) ⟨rfl, rfl⟩ ⟨by decide, by decide⟩ ⟨by decide, by decide⟩ (tb_8 31 rfl rfl) (tb_1 12 rfl rfl) (tb_8 28 rfl rfl) (tb_8 30 rfl rfl) (tb_0 33 rfl rfl) (show yX12_fail.cls ≠ "java/lang/invoke/MethodHandle" ∧ yX12_fail.cls ≠ "java/lang/invoke/VarHandle" ∧ (parseMethodDescriptor yX12_fail.desc).map (fun d => d.parameters.length) = some 0 by decide +kernel) zs_blind (zs_ob hh125 ha (show RTg[11]? = some (0, 11, 0, fsX12) from rfl) (zCX12 hKn.1)) (fun U hU hW => ⟨rfl, by rw [hU]; exact hh125.l0, zKb s U hW.alike hKn, by rw [hU]; exact j14⟩) hh125.2.2.1 hl120.1 (Nat.le_of_ble_eq_true rfl) (eX12_rule (101, .invokevirtual 316, 3) (List.mem_of_getElem? (i := 52) rfl)) (fun r128 s128 t128 lo128 g128 f128 l128 => ?_)
            obtain ⟨q128, z128, c128, j128⟩ := f128
            cases q128
            rw [g128] at c128
            have hh128 : zh_ok D cA RTg ro sz H0 t128.heap lo128 := ⟨z128.1, z128.2.1, l128, z128.2.2.2⟩
            have kp128 := kp14.trans (c128.mono (ms' := yMr) (by decide))
            generalize hx128 : flG x14.2 = x128 at j128
            have uu128 := j128.2.2
            unfold vOK at uu128
            have mf128_a_3 := (c128.1 a 11 3 11 0 fsX12 ha rfl (by decide) (by decide)).trans mf14_a_3
            have mf128_a_0 := (c128.1 a 11 0 11 0 fsX12 ha rfl (by decide) (by decide)).trans mf14_a_0
            have mf128_a_33 := (c128.1 a 11 33 11 0 fsX12 ha rfl (by decide) (by decide)).trans fh14
            have mf128_a_13 := (c128.1 a 11 13 11 0 fsX12 ha rfl (by decide) (by decide)).trans f13114
            have jy128 := jy14.kept ha c128 (by decide)
            refine W.eq (g2 := F0 m 104 ls120 []) rfl ?_
            exact jn104 v107 v119 (x128) ls120 _ _ (by omega) (by omega) (by unfold n1G; rw [if_pos ⟨hnl, by omega⟩, hx128]) mf128_a_0 hh128 kp128 jy128 j128 (lv_sub hl120 [1, 0, 4, 5, 3, 2] rfl)
