/-- now moves -/
theorem jG.now {D : va_G} {cA : Nat → ClassId} {ro : Nat → Option Nat} {H H' : Heap} {a n m : Nat} {g h : fN} {mv : Int32} (ha : ro a = some 11) (hk : zc_kept D RTg ro [(11, 36)] H H') (hf : zh_f D H' a 11 36 = .int mv) (hm : mv.toInt = (m : Int)) (hn : n ≤ 1) (hm1 : m ≤ 1) (j : jG D cA ro H a n g h) : jG D cA ro H' a m (if m = n then g else h) (if m = n then h else g) := by
  obtain ⟨ga, z, nv, j1, j2, j3, j4, j5, j6⟩ := j
  refine ⟨ga, z, mv, (hk.1 a 11 34 11 0 fsX12 ha rfl (by decide) (by decide)).trans j1, j2, (hk.2 ga 36 0 1 64 _ j2 rfl (by decide)).trans j3, fun k h9 => ?_, hf, hm⟩
  obtain ⟨⟨v, v1, v2⟩, w, w1, w2⟩ := j4 k h9
  by_cases e : m = n
  · subst e
    rw [if_pos rfl, if_pos rfl]
    exact ⟨⟨v, v1, v2⟩, w, w1, w2⟩
  · rw [if_neg e, if_neg e]
    have e1 : m = 1 - n := by omega
    have e2 : n = 1 - m := by omega
    exact ⟨⟨w, by rw [e1]; exact w1, w2⟩, v, by rw [← e2]; exact v1, v2⟩
theorem jG.now01 {D : va_G} {cA : Nat → ClassId} {ro : Nat → Option Nat} {H H' : Heap} {a : Nat} {g h : fN} {mv : Int32} (ha : ro a = some 11) (hk : zc_kept D RTg ro [(11, 36)] H H') (hf : zh_f D H' a 11 36 = .int mv) (hm : mv.toInt = 1) (j : jG D cA ro H a 0 g h) : jG D cA ro H' a 1 h g := jG.now (m := 1) ha hk hf hm (by decide) (by decide) j
theorem jG.now00 {D : va_G} {cA : Nat → ClassId} {ro : Nat → Option Nat} {H H' : Heap} {a : Nat} {g h : fN} {mv : Int32} (ha : ro a = some 11) (hk : zc_kept D RTg ro [(11, 36)] H H') (hf : zh_f D H' a 11 36 = .int mv) (hm : mv.toInt = 0) (j : jG D cA ro H a 0 g h) : jG D cA ro H' a 0 g h := jG.now (m := 0) ha hk hf hm (by decide) (by decide) j
theorem jG.now10 {D : va_G} {cA : Nat → ClassId} {ro : Nat → Option Nat} {H H' : Heap} {a : Nat} {g h : fN} {mv : Int32} (ha : ro a = some 11) (hk : zc_kept D RTg ro [(11, 36)] H H') (hf : zh_f D H' a 11 36 = .int mv) (hm : mv.toInt = 0) (j : jG D cA ro H a 1 g h) : jG D cA ro H' a 0 h g := jG.now (m := 0) ha hk hf hm (by decide) (by decide) j
def iM : List (Nat × Nat) := [(11, 29), (11, 30), (11, 31), (11, 36), (11, 37), (36, 0), (37, 0)]
set_option maxRecDepth 100000 in
set_option maxHeartbeats 4000000 in
theorem hX12_readInterval (l : Launch) (D : va_G) (cA : Nat → ClassId) (ro : Nat → Option Nat) (sz : Nat) (H0 : Heap) (a : Nat)  (T : List Int) (sg : uS) (g h : fN) (ha : ro a = some 11) (hT : (T.length : Int) ≤ 120) : Met l yX12_readInterval (gW yX12_readInterval cX12_readInterval 2 none) { frames := 5, cells := 0, slots := 0, locals := 113 } (zs_P D cA ro sz H0 (fun H => jV D cA ro H a T sg ∧ jG D cA ro H a 0 g h) [.ref a]) (fun _ st oc t => oc = .returned none ∧ zh_ok D cA RTg ro sz H0 t.heap [] ∧ zc_kept D RTg ro iM st.heap t.heap ∧ jV D cA ro t.heap a T (inG T sg).2.2 ∧ jG D cA ro t.heap a 1 (inG T sg).2.1 (inG T sg).1) 0 0 (zy_fr sz) := by
  refine zy_ofW (cc := cX12_readInterval) (maxL := 2) (ret := none) (by decide +kernel) rfl ?_
  intro p e s m args below meth c s1 B hml hv
  obtain ⟨rfl, hh, hKn, hJ⟩ := hv
  have hx := B.exec
  have hb := B.bytes
  have hr := B.returns
  have hlk := B.notSynchronized
  have hts0 := atoms_spec (ws := gW yX12_readInterval cX12_readInterval 2 none) B.pre
  have h2 : ∀ w ∈ gT, w.before ([.ref a] : List Value).toArray s = true := fun w hw => hts0 w (List.mem_cons_of_mem _ hw)
  have hown : s.vm.findClass RX12 = some m.cls := findClass_of_methodNamed B.named
  have hl := lv_entry [.ref a] (n := 2) (Nat.le_of_ble_eq_true rfl)
  rw [lg_entry_eq]
  generalize (lg_sl [.ref a] ++ List.replicate (2 - (lg_sl [.ref a]).length) Slot.unset).toArray = ls at hl ⊢
  have hD := zD_all h2 hKn.1
  have hcl11 := fun (idx k : Nat) (t : zt_T) (h : (idx, 11, k) ∈ gfX12) (hk : fsX12[k]? = some t) => zf_clause (ro := ro) (ms := iM) h2 hown hKn.1 gfX12_ok (by decide +kernel) idx 11 k 11 0 fsX12 t h rfl hk
  have kp0 : zc_kept D RTg ro iM s.heap s.heap := zc_kept.refl
  obtain ⟨jv0, jg0⟩ := hJ
  have hu := jv0.2.2
  unfold vOK at hu
  have hbb := byI_bd T sg.1
  refine lv_aload_n hx hb (eX12_readInterval (0, .aload_n 0, 1) (List.mem_of_getElem? (i := 0) rfl)) rfl (lv_at hl 0 rfl) ?_
  refine ff_iconst hx hb (eX12_readInterval (1, .iconst 0, 1) (List.mem_of_getElem? (i := 1) rfl)) (by decide) (by decide) (fun v1 e1 => ?_)
  refine tz_put (r := 11) (k := 36) (t := (0, 0, 3)) hx hb hD hh ha rfl rfl ((hcl11 354 36 (0, 0, 3) (by decide) rfl).2 (by decide)) (tz_i (by omega) (by omega)) (eX12_readInterval (2, .putfield 354, 3) (List.mem_of_getElem? (i := 2) rfl)) (fun H2 lo2 hh2 hf2 hk2 _ hq2 => ?_)
  have kp2 := kp0.trans (hk2.mono (ms' := iM) (fun x hx => by cases List.mem_singleton.mp hx; decide))
  have jv2 := jv0.kept ha hk2 (by decide)
  have jg2 := jG.now00 ha hk2 hf2 (by omega) jg0
  refine lv_aload_n hx hb (eX12_readInterval (5, .aload_n 0, 1) (List.mem_of_getElem? (i := 3) rfl)) rfl (lv_at hl 0 rfl) ?_
  refine tz_rowV (As := []) (st := []) (b := a) (C := RX12) (Ts := gT) hx hb hml hown h2 (fun _ h => h) (hX12_sign l D cA ro sz H0 a T (sg) ha) ⟨rfl, rfl⟩ ⟨by decide, by decide⟩ ⟨by decide, by decide⟩ (tb_8 21 rfl rfl) (tb_1 12 rfl rfl) (tb_8 18 rfl rfl) (tb_8 20 rfl rfl) (tb_0 32 rfl rfl) (show yX12_sign.cls ≠ "java/lang/invoke/MethodHandle" ∧ yX12_sign.cls ≠ "java/lang/invoke/VarHandle" ∧ (parseMethodDescriptor yX12_sign.desc).map (fun d => d.parameters.length) = some 0 by decide +kernel) zs_blind (zs_ob hh2 ha (show RTg[11]? = some (0, 11, 0, fsX12) from rfl) (zCX12 hKn.1)) (fun U hU hW => ⟨rfl, by rw [hU]; exact hh2.l0, zKb s U hW.alike hKn, by rw [hU]; exact jv2⟩) hh2.2.2.1 hl.1 (Nat.le_of_ble_eq_true rfl) (eX12_readInterval (6, .invokevirtual 309, 3) (List.mem_of_getElem? (i := 4) rfl)) (fun r3 s3 t3 lo3 g3 f3 l3 => ?_)
  obtain ⟨z3, v3, q3, e3⟩ := f3
  cases q3
  rw [z3, g3]
  have hh3 : zh_ok D cA RTg ro sz H0 H2 lo3 := ⟨hh2.1, hh2.2.1, l3, hh2.2.2.2⟩
  refine W.eq (g2 := F0 m 9 ls [.int v3]) rfl ?_
  refine ff_bipush hx hb (eX12_readInterval (9, .bipush 80, 2) (List.mem_of_getElem? (i := 5) rfl)) (by decide) (by decide) (fun v4 e4 => ?_)
  refine ff_icmp_ne hx hb (eX12_readInterval (11, .if_icmp .ne 7, 3) (List.mem_of_getElem? (i := 6) rfl)) (tgt := 18) rfl (fun c5 => ?_) (fun c5 => ?_)
  · skip
    have d6 : ¬ (byI T sg.1 = 80) := by omega
    refine ff_iconst hx hb (eX12_readInterval (18, .iconst 0, 1) (List.mem_of_getElem? (i := 9) rfl)) (by decide) (by decide) (fun v7 e7 => ?_)
    refine lv_istore_n hx hb (eX12_readInterval (19, .istore_n 1, 1) (List.mem_of_getElem? (i := 10) rfl)) rfl hl (by decide) rfl (fun ls8 hl8 => ?_)
    refine lv_iload_n hx hb (eX12_readInterval (20, .iload_n 1, 1) (List.mem_of_getElem? (i := 11) rfl)) rfl (lv_at hl8 0 rfl) ?_
    refine ff_if_eq hx hb (eX12_readInterval (21, .ifCond .eq 10, 3) (List.mem_of_getElem? (i := 12) rfl)) (tgt := 31) rfl (fun c9 => ?_) (fun c9 => (by exfalso; omega))
    refine lv_aload_n hx hb (eX12_readInterval (31, .aload_n 0, 1) (List.mem_of_getElem? (i := 16) rfl)) rfl (lv_at hl8 1 rfl) ?_
    refine tz_rowV (As := []) (st := []) (b := a) (C := RX12) (Ts := gT) hx hb hml hown h2 (fun _ h => h) (hX12_readBoth l D cA ro sz H0 a   T (sg) 0 g h ha (by decide) hT ) ⟨rfl, rfl⟩ ⟨by decide, by decide⟩ ⟨by decide, by decide⟩ (tb_8 102 rfl rfl) (tb_1 12 rfl rfl) (tb_8 99 rfl rfl) (tb_8 101 rfl rfl) (tb_0 49 rfl rfl) (show yX12_readBoth.cls ≠ "java/lang/invoke/MethodHandle" ∧ yX12_readBoth.cls ≠ "java/lang/invoke/VarHandle" ∧ (parseMethodDescriptor yX12_readBoth.desc).map (fun d => d.parameters.length) = some 0 by decide +kernel) zs_blind (zs_ob hh3 ha (show RTg[11]? = some (0, 11, 0, fsX12) from rfl) (zCX12 hKn.1)) (fun U hU hW => ⟨rfl, by rw [hU]; exact hh3.l0, zKb s U hW.alike hKn, by rw [hU]; exact ⟨jv2, jg2⟩⟩) hh3.2.2.1 hl8.1 (Nat.le_of_ble_eq_true rfl) (eX12_readInterval (32, .invokevirtual 401, 3) (List.mem_of_getElem? (i := 17) rfl)) (fun r10 s10 t10 lo10 g10 f10 l10 => ?_)
    obtain ⟨q10, z10, c10, jv10, jg10⟩ := f10
    cases q10
    rw [g10] at c10
    have hh10 : zh_ok D cA RTg ro sz H0 t10.heap lo10 := ⟨z10.1, z10.2.1, l10, z10.2.2.2⟩
    have kp10 := kp2.trans (c10.mono (ms' := iM) (by decide))
    generalize hx10 : rbG T sg = x10 at jv10 jg10
    have uu10 := jv10.2.2
    unfold vOK at uu10
    have bb10 := byI_bd T x10.2.1
    refine W.eq (g2 := F0 m 35 ls8 []) rfl ?_
    refine lv_aload_n hx hb (eX12_readInterval (35, .aload_n 0, 1) (List.mem_of_getElem? (i := 18) rfl)) rfl (lv_at hl8 1 rfl) ?_
    refine ff_bipush hx hb (eX12_readInterval (36, .bipush 47, 2) (List.mem_of_getElem? (i := 19) rfl)) (by decide) (by decide) (fun v11 e11 => ?_)
    refine tz_rowV (As := [.int v11]) (st := []) (b := a) (C := RX12) (Ts := gT) hx hb hml hown h2 (fun _ h => h) (hX12_expect l D cA ro sz H0 a v11 47 T (x10.2) ha (by omega) (by decide)) ⟨rfl, rfl⟩ ⟨by decide, by decide⟩ ⟨by decide, by decide⟩ (tb_8 35 rfl rfl) (tb_1 12 rfl rfl) (tb_8 32 rfl rfl) (tb_8 34 rfl rfl) (tb_0 34 rfl rfl) (show yX12_expect.cls ≠ "java/lang/invoke/MethodHandle" ∧ yX12_expect.cls ≠ "java/lang/invoke/VarHandle" ∧ (parseMethodDescriptor yX12_expect.desc).map (fun d => d.parameters.length) = some 1 by decide +kernel) zs_blind (zs_ob hh10 ha (show RTg[11]? = some (0, 11, 0, fsX12) from rfl) (zCX12 hKn.1)) (fun U hU hW => ⟨rfl, by rw [hU]; exact hh10.l0, zKb s U hW.alike hKn, by rw [hU]; exact jv10⟩) hh10.2.2.1 hl8.1 (Nat.le_of_ble_eq_true rfl) (eX12_readInterval (38, .invokevirtual 325, 3) (List.mem_of_getElem? (i := 20) rfl)) (fun r12 s12 t12 lo12 g12 f12 l12 => ?_)
    obtain ⟨q12, z12, c12, jv12⟩ := f12
    cases q12
    rw [g12] at c12
    have hh12 : zh_ok D cA RTg ro sz H0 t12.heap lo12 := ⟨z12.1, z12.2.1, l12, z12.2.2.2⟩
    have kp12 := kp10.trans (c12.mono (ms' := iM) (by decide))
    generalize hx12 : exG T 47 x10.2 = x12 at jv12
    have uu12 := jv12.2.2
    unfold vOK at uu12
    have bb12 := byI_bd T x12.1
    have jg12 := jg10.kept ha c12 (by decide)
    refine W.eq (g2 := F0 m 41 ls8 []) rfl ?_
    refine lv_aload_n hx hb (eX12_readInterval (41, .aload_n 0, 1) (List.mem_of_getElem? (i := 21) rfl)) rfl (lv_at hl8 1 rfl) ?_
    refine ff_iconst hx hb (eX12_readInterval (42, .iconst 1, 1) (List.mem_of_getElem? (i := 22) rfl)) (by decide) (by decide) (fun v13 e13 => ?_)
    refine tz_put (r := 11) (k := 36) (t := (0, 0, 3)) hx hb hD hh12 ha rfl rfl ((hcl11 354 36 (0, 0, 3) (by decide) rfl).2 (by decide)) (tz_i (by omega) (by omega)) (eX12_readInterval (43, .putfield 354, 3) (List.mem_of_getElem? (i := 23) rfl)) (fun H14 lo14 hh14 hf14 hk14 _ hq14 => ?_)
    have kp14 := kp12.trans (hk14.mono (ms' := iM) (fun x hx => by cases List.mem_singleton.mp hx; decide))
    have jv14 := jv12.kept ha hk14 (by decide)
    have jg14 := jG.now01 ha hk14 hf14 (by omega) jg12
    refine lv_iload_n hx hb (eX12_readInterval (46, .iload_n 1, 1) (List.mem_of_getElem? (i := 24) rfl)) rfl (lv_at hl8 0 rfl) ?_
    refine ff_if_ne hx hb (eX12_readInterval (47, .ifCond .ne 26, 3) (List.mem_of_getElem? (i := 25) rfl)) (tgt := 73) rfl (fun c15 => (by exfalso; omega)) (fun c15 => ?_)
    refine lv_aload_n hx hb (eX12_readInterval (50, .aload_n 0, 1) (List.mem_of_getElem? (i := 26) rfl)) rfl (lv_at hl8 1 rfl) ?_
    refine tz_rowV (As := []) (st := []) (b := a) (C := RX12) (Ts := gT) hx hb hml hown h2 (fun _ h => h) (hX12_isGood l D cA ro sz H0 a T (x12) ha) ⟨rfl, rfl⟩ ⟨by decide, by decide⟩ ⟨by decide, by decide⟩ (tb_8 17 rfl rfl) (tb_1 12 rfl rfl) (tb_8 14 rfl rfl) (tb_8 16 rfl rfl) (tb_0 31 rfl rfl) (show yX12_isGood.cls ≠ "java/lang/invoke/MethodHandle" ∧ yX12_isGood.cls ≠ "java/lang/invoke/VarHandle" ∧ (parseMethodDescriptor yX12_isGood.desc).map (fun d => d.parameters.length) = some 0 by decide +kernel) zs_blind (zs_ob hh14 ha (show RTg[11]? = some (0, 11, 0, fsX12) from rfl) (zCX12 hKn.1)) (fun U hU hW => ⟨rfl, by rw [hU]; exact hh14.l0, zKb s U hW.alike hKn, by rw [hU]; exact jv14⟩) hh14.2.2.1 hl8.1 (Nat.le_of_ble_eq_true rfl) (eX12_readInterval (51, .invokevirtual 305, 3) (List.mem_of_getElem? (i := 27) rfl)) (fun r16 s16 t16 lo16 g16 f16 l16 => ?_)
    obtain ⟨z16, v16, q16, e16⟩ := f16
    cases q16
    rw [z16, g16]
    have hh16 : zh_ok D cA RTg ro sz H0 H14 lo16 := ⟨hh14.1, hh14.2.1, l16, hh14.2.2.2⟩
    refine W.eq (g2 := F0 m 54 ls8 [.int v16]) rfl ?_
    refine ff_if_eq hx hb (eX12_readInterval (54, .ifCond .eq 19, 3) (List.mem_of_getElem? (i := 28) rfl)) (tgt := 73) rfl (fun c17 => ?_) (fun c17 => ?_)
    · skip
      have d18 : ¬ (x12.2.1 < 0 ∧ byI T x12.1 = 80) := by omega
      refine lv_aload_n hx hb (eX12_readInterval (73, .aload_n 0, 1) (List.mem_of_getElem? (i := 36) rfl)) rfl (lv_at hl8 1 rfl) ?_
      refine tz_rowV (As := []) (st := []) (b := a) (C := RX12) (Ts := gT) hx hb hml hown h2 (fun _ h => h) (hX12_readBoth l D cA ro sz H0 a   T (x12) 1 h x10.1 ha (by decide) hT ) ⟨rfl, rfl⟩ ⟨by decide, by decide⟩ ⟨by decide, by decide⟩ (tb_8 102 rfl rfl) (tb_1 12 rfl rfl) (tb_8 99 rfl rfl) (tb_8 101 rfl rfl) (tb_0 49 rfl rfl) (show yX12_readBoth.cls ≠ "java/lang/invoke/MethodHandle" ∧ yX12_readBoth.cls ≠ "java/lang/invoke/VarHandle" ∧ (parseMethodDescriptor yX12_readBoth.desc).map (fun d => d.parameters.length) = some 0 by decide +kernel) zs_blind (zs_ob hh16 ha (show RTg[11]? = some (0, 11, 0, fsX12) from rfl) (zCX12 hKn.1)) (fun U hU hW => ⟨rfl, by rw [hU]; exact hh16.l0, zKb s U hW.alike hKn, by rw [hU]; exact ⟨jv14, jg14⟩⟩) hh16.2.2.1 hl8.1 (Nat.le_of_ble_eq_true rfl) (eX12_readInterval (74, .invokevirtual 401, 3) (List.mem_of_getElem? (i := 37) rfl)) (fun r19 s19 t19 lo19 g19 f19 l19 => ?_)
      obtain ⟨q19, z19, c19, jv19, jg19⟩ := f19
      cases q19
      rw [g19] at c19
      have hh19 : zh_ok D cA RTg ro sz H0 t19.heap lo19 := ⟨z19.1, z19.2.1, l19, z19.2.2.2⟩
      have kp19 := kp14.trans (c19.mono (ms' := iM) (by decide))
      generalize hx19 : rbG T x12 = x19 at jv19 jg19
      have uu19 := jv19.2.2
      unfold vOK at uu19
      have bb19 := byI_bd T x19.2.1
      refine W.eq (g2 := F0 m 77 ls8 []) rfl ?_
      have hfin : inG T sg = (x10.1, x19.1, x19.2) := by first | (simp only [inG, hx10, hx12, hx19, if_neg d6, if_neg d18, up_eq]; done) | (simp only [inG, hx10, hx12, hx19, if_neg d6, if_neg d18, up_eq] <;> rfl) | rfl
      exact W.vret hx hb hr (fun t ht hW => ⟨rfl, by rw [ht]; exact hh19.l0, by rw [ht]; exact kp19, by rw [ht, hfin]; exact jv19, by rw [ht, hfin]; exact jg19⟩) hh19.2.2.1 (eX12_readInterval (77, .return_, 1) (List.mem_of_getElem? (i := 38) rfl))
    · skip
      refine lv_aload_n hx hb (eX12_readInterval (57, .aload_n 0, 1) (List.mem_of_getElem? (i := 29) rfl)) rfl (lv_at hl8 1 rfl) ?_
      refine tz_rowV (As := []) (st := []) (b := a) (C := RX12) (Ts := gT) hx hb hml hown h2 (fun _ h => h) (hX12_sign l D cA ro sz H0 a T (x12) ha) ⟨rfl, rfl⟩ ⟨by decide, by decide⟩ ⟨by decide, by decide⟩ (tb_8 21 rfl rfl) (tb_1 12 rfl rfl) (tb_8 18 rfl rfl) (tb_8 20 rfl rfl) (tb_0 32 rfl rfl) (show yX12_sign.cls ≠ "java/lang/invoke/MethodHandle" ∧ yX12_sign.cls ≠ "java/lang/invoke/VarHandle" ∧ (parseMethodDescriptor yX12_sign.desc).map (fun d => d.parameters.length) = some 0 by decide +kernel) zs_blind (zs_ob hh16 ha (show RTg[11]? = some (0, 11, 0, fsX12) from rfl) (zCX12 hKn.1)) (fun U hU hW => ⟨rfl, by rw [hU]; exact hh16.l0, zKb s U hW.alike hKn, by rw [hU]; exact jv14⟩) hh16.2.2.1 hl8.1 (Nat.le_of_ble_eq_true rfl) (eX12_readInterval (58, .invokevirtual 309, 3) (List.mem_of_getElem? (i := 30) rfl)) (fun r20 s20 t20 lo20 g20 f20 l20 => ?_)
      obtain ⟨z20, v20, q20, e20⟩ := f20
      cases q20
      rw [z20, g20]
      have hh20 : zh_ok D cA RTg ro sz H0 H14 lo20 := ⟨hh16.1, hh16.2.1, l20, hh16.2.2.2⟩
      refine W.eq (g2 := F0 m 61 ls8 [.int v20]) rfl ?_
      refine ff_bipush hx hb (eX12_readInterval (61, .bipush 80, 2) (List.mem_of_getElem? (i := 31) rfl)) (by decide) (by decide) (fun v21 e21 => ?_)
      refine ff_icmp_ne hx hb (eX12_readInterval (63, .if_icmp .ne 10, 3) (List.mem_of_getElem? (i := 32) rfl)) (tgt := 73) rfl (fun c22 => ?_) (fun c22 => ?_)
      · skip
        have d23 : ¬ (x12.2.1 < 0 ∧ byI T x12.1 = 80) := by omega
        refine lv_aload_n hx hb (eX12_readInterval (73, .aload_n 0, 1) (List.mem_of_getElem? (i := 36) rfl)) rfl (lv_at hl8 1 rfl) ?_
        refine tz_rowV (As := []) (st := []) (b := a) (C := RX12) (Ts := gT) hx hb hml hown h2 (fun _ h => h) (hX12_readBoth l D cA ro sz H0 a   T (x12) 1 h x10.1 ha (by decide) hT ) ⟨rfl, rfl⟩ ⟨by decide, by decide⟩ ⟨by decide, by decide⟩ (tb_8 102 rfl rfl) (tb_1 12 rfl rfl) (tb_8 99 rfl rfl) (tb_8 101 rfl rfl) (tb_0 49 rfl rfl) (show yX12_readBoth.cls ≠ "java/lang/invoke/MethodHandle" ∧ yX12_readBoth.cls ≠ "java/lang/invoke/VarHandle" ∧ (parseMethodDescriptor yX12_readBoth.desc).map (fun d => d.parameters.length) = some 0 by decide +kernel) zs_blind (zs_ob hh20 ha (show RTg[11]? = some (0, 11, 0, fsX12) from rfl) (zCX12 hKn.1)) (fun U hU hW => ⟨rfl, by rw [hU]; exact hh20.l0, zKb s U hW.alike hKn, by rw [hU]; exact ⟨jv14, jg14⟩⟩) hh20.2.2.1 hl8.1 (Nat.le_of_ble_eq_true rfl) (eX12_readInterval (74, .invokevirtual 401, 3) (List.mem_of_getElem? (i := 37) rfl)) (fun r24 s24 t24 lo24 g24 f24 l24 => ?_)
        obtain ⟨q24, z24, c24, jv24, jg24⟩ := f24
        cases q24
        rw [g24] at c24
        have hh24 : zh_ok D cA RTg ro sz H0 t24.heap lo24 := ⟨z24.1, z24.2.1, l24, z24.2.2.2⟩
        have kp24 := kp14.trans (c24.mono (ms' := iM) (by decide))
        generalize hx24 : rbG T x12 = x24 at jv24 jg24
        have uu24 := jv24.2.2
        unfold vOK at uu24
        have bb24 := byI_bd T x24.2.1
        refine W.eq (g2 := F0 m 77 ls8 []) rfl ?_
        have hfin : inG T sg = (x10.1, x24.1, x24.2) := by first | (simp only [inG, hx10, hx12, hx24, if_neg d6, if_neg d23, up_eq]; done) | (simp only [inG, hx10, hx12, hx24, if_neg d6, if_neg d23, up_eq] <;> rfl) | rfl
        exact W.vret hx hb hr (fun t ht hW => ⟨rfl, by rw [ht]; exact hh24.l0, by rw [ht]; exact kp24, by rw [ht, hfin]; exact jv24, by rw [ht, hfin]; exact jg24⟩) hh24.2.2.1 (eX12_readInterval (77, .return_, 1) (List.mem_of_getElem? (i := 38) rfl))
      · skip
        have d25 : x12.2.1 < 0 ∧ byI T x12.1 = 80 := by omega
        refine lv_aload_n hx hb (eX12_readInterval (66, .aload_n 0, 1) (List.mem_of_getElem? (i := 33) rfl)) rfl (lv_at hl8 1 rfl) ?_
        refine tz_rowV (As := []) (st := []) (b := a) (C := RX12) (Ts := gT) hx hb hml hown h2 (fun _ h => h) (hX12_readDuration l D cA ro sz H0 a   T (x12) 1 h x10.1 ha (by decide) hT ) ⟨rfl, rfl⟩ ⟨by decide, by decide⟩ ⟨by decide, by decide⟩ (tb_8 106 rfl rfl) (tb_1 12 rfl rfl) (tb_8 103 rfl rfl) (tb_8 105 rfl rfl) (tb_0 50 rfl rfl) (show yX12_readDuration.cls ≠ "java/lang/invoke/MethodHandle" ∧ yX12_readDuration.cls ≠ "java/lang/invoke/VarHandle" ∧ (parseMethodDescriptor yX12_readDuration.desc).map (fun d => d.parameters.length) = some 0 by decide +kernel) zs_blind (zs_ob hh20 ha (show RTg[11]? = some (0, 11, 0, fsX12) from rfl) (zCX12 hKn.1)) (fun U hU hW => ⟨rfl, by rw [hU]; exact hh20.l0, zKb s U hW.alike hKn, by rw [hU]; exact ⟨jv14, jg14⟩⟩) hh20.2.2.1 hl8.1 (Nat.le_of_ble_eq_true rfl) (eX12_readInterval (67, .invokevirtual 398, 3) (List.mem_of_getElem? (i := 34) rfl)) (fun r26 s26 t26 lo26 g26 f26 l26 => ?_)
        obtain ⟨q26, z26, c26, jv26, jg26⟩ := f26
        cases q26
        rw [g26] at c26
        have hh26 : zh_ok D cA RTg ro sz H0 t26.heap lo26 := ⟨z26.1, z26.2.1, l26, z26.2.2.2⟩
        have kp26 := kp14.trans (c26.mono (ms' := iM) (by decide))
        generalize hx26 : duG T x12 = x26 at jv26 jg26
        have uu26 := jv26.2.2
        unfold vOK at uu26
        have bb26 := byI_bd T x26.2.1
        refine W.eq (g2 := F0 m 70 ls8 []) rfl ?_
        refine lv_goto hx hb (eX12_readInterval (70, .goto 7, 3) (List.mem_of_getElem? (i := 35) rfl)) (tgt := 77) rfl ?_
        have hfin : inG T sg = (x10.1, x26.1, x26.2) := by first | (simp only [inG, hx10, hx12, hx26, if_neg d6, if_pos d25, up_eq]; done) | (simp only [inG, hx10, hx12, hx26, if_neg d6, if_pos d25, up_eq] <;> rfl) | rfl
        exact W.vret hx hb hr (fun t ht hW => ⟨rfl, by rw [ht]; exact hh26.l0, by rw [ht]; exact kp26, by rw [ht, hfin]; exact jv26, by rw [ht, hfin]; exact jg26⟩) hh26.2.2.1 (eX12_readInterval (77, .return_, 1) (List.mem_of_getElem? (i := 38) rfl))
  · skip
    have d27 : byI T sg.1 = 80 := by omega
    refine ff_iconst hx hb (eX12_readInterval (14, .iconst 1, 1) (List.mem_of_getElem? (i := 7) rfl)) (by decide) (by decide) (fun v28 e28 => ?_)
    refine lv_goto hx hb (eX12_readInterval (15, .goto 4, 3) (List.mem_of_getElem? (i := 8) rfl)) (tgt := 19) rfl ?_
    refine lv_istore_n hx hb (eX12_readInterval (19, .istore_n 1, 1) (List.mem_of_getElem? (i := 10) rfl)) rfl hl (by decide) rfl (fun ls29 hl29 => ?_)
    refine lv_iload_n hx hb (eX12_readInterval (20, .iload_n 1, 1) (List.mem_of_getElem? (i := 11) rfl)) rfl (lv_at hl29 0 rfl) ?_
    refine ff_if_eq hx hb (eX12_readInterval (21, .ifCond .eq 10, 3) (List.mem_of_getElem? (i := 12) rfl)) (tgt := 31) rfl (fun c30 => (by exfalso; omega)) (fun c30 => ?_)
    refine lv_aload_n hx hb (eX12_readInterval (24, .aload_n 0, 1) (List.mem_of_getElem? (i := 13) rfl)) rfl (lv_at hl29 1 rfl) ?_
    refine tz_rowV (As := []) (st := []) (b := a) (C := RX12) (Ts := gT) hx hb hml hown h2 (fun _ h => h) (hX12_readDuration l D cA ro sz H0 a   T (sg) 0 g h ha (by decide) hT ) ⟨rfl, rfl⟩ ⟨by decide, by decide⟩ ⟨by decide, by decide⟩ (tb_8 106 rfl rfl) (tb_1 12 rfl rfl) (tb_8 103 rfl rfl) (tb_8 105 rfl rfl) (tb_0 50 rfl rfl) (show yX12_readDuration.cls ≠ "java/lang/invoke/MethodHandle" ∧ yX12_readDuration.cls ≠ "java/lang/invoke/VarHandle" ∧ (parseMethodDescriptor yX12_readDuration.desc).map (fun d => d.parameters.length) = some 0 by decide +kernel) zs_blind (zs_ob hh3 ha (show RTg[11]? = some (0, 11, 0, fsX12) from rfl) (zCX12 hKn.1)) (fun U hU hW => ⟨rfl, by rw [hU]; exact hh3.l0, zKb s U hW.alike hKn, by rw [hU]; exact ⟨jv2, jg2⟩⟩) hh3.2.2.1 hl29.1 (Nat.le_of_ble_eq_true rfl) (eX12_readInterval (25, .invokevirtual 398, 3) (List.mem_of_getElem? (i := 14) rfl)) (fun r31 s31 t31 lo31 g31 f31 l31 => ?_)
    obtain ⟨q31, z31, c31, jv31, jg31⟩ := f31
    cases q31
    rw [g31] at c31
    have hh31 : zh_ok D cA RTg ro sz H0 t31.heap lo31 := ⟨z31.1, z31.2.1, l31, z31.2.2.2⟩
    have kp31 := kp2.trans (c31.mono (ms' := iM) (by decide))
    generalize hx31 : duG T sg = x31 at jv31 jg31
    have uu31 := jv31.2.2
    unfold vOK at uu31
    have bb31 := byI_bd T x31.2.1
    refine W.eq (g2 := F0 m 28 ls29 []) rfl ?_
    refine lv_goto hx hb (eX12_readInterval (28, .goto 7, 3) (List.mem_of_getElem? (i := 15) rfl)) (tgt := 35) rfl ?_
    refine lv_aload_n hx hb (eX12_readInterval (35, .aload_n 0, 1) (List.mem_of_getElem? (i := 18) rfl)) rfl (lv_at hl29 1 rfl) ?_
    refine ff_bipush hx hb (eX12_readInterval (36, .bipush 47, 2) (List.mem_of_getElem? (i := 19) rfl)) (by decide) (by decide) (fun v32 e32 => ?_)
    refine tz_rowV (As := [.int v32]) (st := []) (b := a) (C := RX12) (Ts := gT) hx hb hml hown h2 (fun _ h => h) (hX12_expect l D cA ro sz H0 a v32 47 T (x31.2) ha (by omega) (by decide)) ⟨rfl, rfl⟩ ⟨by decide, by decide⟩ ⟨by decide, by decide⟩ (tb_8 35 rfl rfl) (tb_1 12 rfl rfl) (tb_8 32 rfl rfl) (tb_8 34 rfl rfl) (tb_0 34 rfl rfl) (show yX12_expect.cls ≠ "java/lang/invoke/MethodHandle" ∧ yX12_expect.cls ≠ "java/lang/invoke/VarHandle" ∧ (parseMethodDescriptor yX12_expect.desc).map (fun d => d.parameters.length) = some 1 by decide +kernel) zs_blind (zs_ob hh31 ha (show RTg[11]? = some (0, 11, 0, fsX12) from rfl) (zCX12 hKn.1)) (fun U hU hW => ⟨rfl, by rw [hU]; exact hh31.l0, zKb s U hW.alike hKn, by rw [hU]; exact jv31⟩) hh31.2.2.1 hl29.1 (Nat.le_of_ble_eq_true rfl) (eX12_readInterval (38, .invokevirtual 325, 3) (List.mem_of_getElem? (i := 20) rfl)) (fun r33 s33 t33 lo33 g33 f33 l33 => ?_)
    obtain ⟨q33, z33, c33, jv33⟩ := f33
    cases q33
    rw [g33] at c33
    have hh33 : zh_ok D cA RTg ro sz H0 t33.heap lo33 := ⟨z33.1, z33.2.1, l33, z33.2.2.2⟩
    have kp33 := kp31.trans (c33.mono (ms' := iM) (by decide))
    generalize hx33 : exG T 47 x31.2 = x33 at jv33
    have uu33 := jv33.2.2
    unfold vOK at uu33
    have bb33 := byI_bd T x33.1
    have jg33 := jg31.kept ha c33 (by decide)
    refine W.eq (g2 := F0 m 41 ls29 []) rfl ?_
    refine lv_aload_n hx hb (eX12_readInterval (41, .aload_n 0, 1) (List.mem_of_getElem? (i := 21) rfl)) rfl (lv_at hl29 1 rfl) ?_
    refine ff_iconst hx hb (eX12_readInterval (42, .iconst 1, 1) (List.mem_of_getElem? (i := 22) rfl)) (by decide) (by decide) (fun v34 e34 => ?_)
    refine tz_put (r := 11) (k := 36) (t := (0, 0, 3)) hx hb hD hh33 ha rfl rfl ((hcl11 354 36 (0, 0, 3) (by decide) rfl).2 (by decide)) (tz_i (by omega) (by omega)) (eX12_readInterval (43, .putfield 354, 3) (List.mem_of_getElem? (i := 23) rfl)) (fun H35 lo35 hh35 hf35 hk35 _ hq35 => ?_)
    have kp35 := kp33.trans (hk35.mono (ms' := iM) (fun x hx => by cases List.mem_singleton.mp hx; decide))
    have jv35 := jv33.kept ha hk35 (by decide)
    have jg35 := jG.now01 ha hk35 hf35 (by omega) jg33
    refine lv_iload_n hx hb (eX12_readInterval (46, .iload_n 1, 1) (List.mem_of_getElem? (i := 24) rfl)) rfl (lv_at hl29 0 rfl) ?_
    refine ff_if_ne hx hb (eX12_readInterval (47, .ifCond .ne 26, 3) (List.mem_of_getElem? (i := 25) rfl)) (tgt := 73) rfl (fun c36 => ?_) (fun c36 => (by exfalso; omega))
    refine lv_aload_n hx hb (eX12_readInterval (73, .aload_n 0, 1) (List.mem_of_getElem? (i := 36) rfl)) rfl (lv_at hl29 1 rfl) ?_
    refine tz_rowV (As := []) (st := []) (b := a) (C := RX12) (Ts := gT) hx hb hml hown h2 (fun _ h => h) (hX12_readBoth l D cA ro sz H0 a   T (x33) 1 h x31.1 ha (by decide) hT ) ⟨rfl, rfl⟩ ⟨by decide, by decide⟩ ⟨by decide, by decide⟩ (tb_8 102 rfl rfl) (tb_1 12 rfl rfl) (tb_8 99 rfl rfl) (tb_8 101 rfl rfl) (tb_0 49 rfl rfl) (show yX12_readBoth.cls ≠ "java/lang/invoke/MethodHandle" ∧ yX12_readBoth.cls ≠ "java/lang/invoke/VarHandle" ∧ (parseMethodDescriptor yX12_readBoth.desc).map (fun d => d.parameters.length) = some 0 by decide +kernel) zs_blind (zs_ob hh35 ha (show RTg[11]? = some (0, 11, 0, fsX12) from rfl) (zCX12 hKn.1)) (fun U hU hW => ⟨rfl, by rw [hU]; exact hh35.l0, zKb s U hW.alike hKn, by rw [hU]; exact ⟨jv35, jg35⟩⟩) hh35.2.2.1 hl29.1 (Nat.le_of_ble_eq_true rfl) (eX12_readInterval (74, .invokevirtual 401, 3) (List.mem_of_getElem? (i := 37) rfl)) (fun r37 s37 t37 lo37 g37 f37 l37 => ?_)
    obtain ⟨q37, z37, c37, jv37, jg37⟩ := f37
    cases q37
    rw [g37] at c37
    have hh37 : zh_ok D cA RTg ro sz H0 t37.heap lo37 := ⟨z37.1, z37.2.1, l37, z37.2.2.2⟩
    have kp37 := kp35.trans (c37.mono (ms' := iM) (by decide))
    generalize hx37 : rbG T x33 = x37 at jv37 jg37
    have uu37 := jv37.2.2
    unfold vOK at uu37
    have bb37 := byI_bd T x37.2.1
    refine W.eq (g2 := F0 m 77 ls29 []) rfl ?_
    have hfin : inG T sg = (x31.1, x37.1, x37.2) := by first | (simp only [inG, hx31, hx33, hx37, if_pos d27, up_eq]; done) | (simp only [inG, hx31, hx33, hx37, if_pos d27, up_eq] <;> rfl) | rfl
    exact W.vret hx hb hr (fun t ht hW => ⟨rfl, by rw [ht]; exact hh37.l0, by rw [ht]; exact kp37, by rw [ht, hfin]; exact jv37, by rw [ht, hfin]; exact jg37⟩) hh37.2.2.1 (eX12_readInterval (77, .return_, 1) (List.mem_of_getElem? (i := 38) rfl))
