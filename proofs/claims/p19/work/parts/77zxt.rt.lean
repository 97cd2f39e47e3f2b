set_option maxRecDepth 100000 in
set_option maxHeartbeats 4000000 in
theorem hX12_readTime (l : Launch) (D : va_G) (cA : Nat → ClassId) (ro : Nat → Option Nat) (sz : Nat) (H0 : Heap) (a : Nat) (mv : Int32) (mo : Int) (T : List Int) (sg : uS) (n : Nat) (g h : fN) (ha : ro a = some 11) (hn1 : n ≤ 1) (hT : (T.length : Int) ≤ 120) (hmo : mv.toInt = mo) : Met l yX12_readTime (gW yX12_readTime cX12_readTime 3 none) { frames := 3, cells := 0, slots := 0, locals := 64 } (zs_P D cA ro sz H0 (fun H => jV D cA ro H a T sg ∧ jG D cA ro H a n g h) [.ref a, .int mv]) (rg_V D cA ro sz H0 gM a n T h (trG T mo (g, sg))) 0 0 (zy_fr sz) := by
  refine zy_ofW (cc := cX12_readTime) (maxL := 3) (ret := none) (by decide +kernel) rfl ?_
  intro p e s m args below meth c s1 B hml hv
  obtain ⟨rfl, hh, hKn, hJ⟩ := hv
  have hx := B.exec
  have hb := B.bytes
  have hr := B.returns
  have hlk := B.notSynchronized
  have hts0 := atoms_spec (ws := gW yX12_readTime cX12_readTime 3 none) B.pre
  have h2 : ∀ w ∈ gT, w.before ([.ref a, .int mv] : List Value).toArray s = true := fun w hw => hts0 w (List.mem_cons_of_mem _ hw)
  have hown : s.vm.findClass RX12 = some m.cls := findClass_of_methodNamed B.named
  have hl := lv_entry [.ref a, .int mv] (n := 3) (Nat.le_of_ble_eq_true rfl)
  rw [lg_entry_eq]
  generalize (lg_sl [.ref a, .int mv] ++ List.replicate (3 - (lg_sl [.ref a, .int mv]).length) Slot.unset).toArray = ls at hl ⊢
  have b_mv := zn_i32 mv
  have hD := zD_all h2 hKn.1
  have hcl11 := fun (idx k : Nat) (t : zt_T) (h : (idx, 11, k) ∈ gfX12) (hk : fsX12[k]? = some t) => zf_clause (ro := ro) (ms := gM) h2 hown hKn.1 gfX12_ok (by decide +kernel) idx 11 k 11 0 fsX12 t h rfl hk
  have kp0 : zc_kept D RTg ro gM s.heap s.heap := zc_kept.refl
  obtain ⟨jv0, jg0⟩ := hJ
  have hu := jv0.2.2
  unfold vOK at hu
  have hbb := byI_bd T sg.1
  have jn298 : ∀ (fj : fN) (gj : uS) (wv : Int32) (wa : Int) (ls : Array Slot) (H : Heap) (lo0 : List Loc), zh_ok D cA RTg ro sz H0 H lo0 → zc_kept D RTg ro gM s.heap H → jV D cA ro H a T gj → jG D cA ro H a n fj h → wv.toInt = wa → tz2G T wa (fj, gj) = trG T mo (g, sg) → lv_has ls 3 [(2, .int wv), (0, .ref a), (1, .int mv)] → W p l e (headSpec (gW yX12_readTime cX12_readTime 3 none) { frames := 3, cells := 0, slots := 0, locals := 64 }).room s m ([.ref a, .int mv] : List Value).toArray below meth c H lo0 0 0 (MQ below (rg_V D cA ro sz H0 gM a n T h (trG T mo (g, sg))) ([.ref a, .int mv] : List Value).toArray s 0 0 (zy_fr sz)) (F0 m 298 ls []) := by
    intro fj gj wv  wa  ls H lo0 hh0 kpl jl jgl hwv htot hl
    have hul := jl.2.2
    unfold vOK at hul
    have hbj := byI_bd T gj.1
    refine lv_aload_n hx hb (eX12_readTime (298, .aload_n 0, 1) (List.mem_of_getElem? (i := 148) rfl)) rfl (lv_at hl 1 rfl) ?_
    refine tz_rowV (As := []) (st := []) (b := a) (C := RX12) (Ts := gT) hx hb hml hown h2 (fun _ h => h) (hX12_isGood l D cA ro sz H0 a T (gj) ha) ⟨rfl, rfl⟩ ⟨by decide, by decide⟩ ⟨by decide, by decide⟩ (tb_8 17 rfl rfl) (tb_1 12 rfl rfl) (tb_8 14 rfl rfl) (tb_8 16 rfl rfl) (tb_0 31 rfl rfl) (show yX12_isGood.cls ≠ "java/lang/invoke/MethodHandle" ∧ yX12_isGood.cls ≠ "java/lang/invoke/VarHandle" ∧ (parseMethodDescriptor yX12_isGood.desc).map (fun d => d.parameters.length) = some 0 by decide +kernel) zs_blind (zs_ob hh0 ha (show RTg[11]? = some (0, 11, 0, fsX12) from rfl) (zCX12 hKn.1)) (fun U hU hW => ⟨rfl, by rw [hU]; exact hh0.l0, zKb s U hW.alike hKn, by rw [hU]; exact jl⟩) hh0.2.2.1 hl.1 (Nat.le_of_ble_eq_true rfl) (eX12_readTime (299, .invokevirtual 305, 3) (List.mem_of_getElem? (i := 149) rfl)) (fun r1 s1 t1 lo1 g1 f1 l1 => ?_)
    obtain ⟨z1, v1, q1, e1⟩ := f1
    cases q1
    rw [z1, g1]
    have hh1 : zh_ok D cA RTg ro sz H0 H lo1 := ⟨hh0.1, hh0.2.1, l1, hh0.2.2.2⟩
    refine W.eq (g2 := F0 m 302 ls [.int v1]) rfl ?_
    refine ff_if_eq hx hb (eX12_readTime (302, .ifCond .eq 36, 3) (List.mem_of_getElem? (i := 150) rfl)) (tgt := 338) rfl (fun c2 => ?_) (fun c2 => ?_)
    · skip
      have d3 : ¬ ((gj.2.1 < 0 ∧ wa ≠ 2) ∧ byI T gj.1 = 58) := by omega
      refine lv_aload_n hx hb (eX12_readTime (338, .aload_n 0, 1) (List.mem_of_getElem? (i := 168) rfl)) rfl (lv_at hl 1 rfl) ?_
      refine tz_rowV (As := []) (st := []) (b := a) (C := RX12) (Ts := gT) hx hb hml hown h2 (fun _ h => h) (hX12_isGood l D cA ro sz H0 a T (gj) ha) ⟨rfl, rfl⟩ ⟨by decide, by decide⟩ ⟨by decide, by decide⟩ (tb_8 17 rfl rfl) (tb_1 12 rfl rfl) (tb_8 14 rfl rfl) (tb_8 16 rfl rfl) (tb_0 31 rfl rfl) (show yX12_isGood.cls ≠ "java/lang/invoke/MethodHandle" ∧ yX12_isGood.cls ≠ "java/lang/invoke/VarHandle" ∧ (parseMethodDescriptor yX12_isGood.desc).map (fun d => d.parameters.length) = some 0 by decide +kernel) zs_blind (zs_ob hh1 ha (show RTg[11]? = some (0, 11, 0, fsX12) from rfl) (zCX12 hKn.1)) (fun U hU hW => ⟨rfl, by rw [hU]; exact hh1.l0, zKb s U hW.alike hKn, by rw [hU]; exact jl⟩) hh1.2.2.1 hl.1 (Nat.le_of_ble_eq_true rfl) (eX12_readTime (339, .invokevirtual 305, 3) (List.mem_of_getElem? (i := 169) rfl)) (fun r4 s4 t4 lo4 g4 f4 l4 => ?_)
      obtain ⟨z4, v4, q4, e4⟩ := f4
      cases q4
      rw [z4, g4]
      have hh4 : zh_ok D cA RTg ro sz H0 H lo4 := ⟨hh1.1, hh1.2.1, l4, hh1.2.2.2⟩
      refine W.eq (g2 := F0 m 342 ls [.int v4]) rfl ?_
      refine ff_if_eq hx hb (eX12_readTime (342, .ifCond .eq 24, 3) (List.mem_of_getElem? (i := 170) rfl)) (tgt := 366) rfl (fun c5 => ?_) (fun c5 => ?_)
      · skip
        have d6 : ¬ ((gj.2.1 < 0 ∧ wa ≠ 1) ∧ isD (byI T gj.1)) := by omega
        have hfin : trG T mo (g, sg) = (fj, gj) := by rw [← htot]; first | (simp only [tzG, tz0G, tz1G, tz2G, ad1, if_neg d3, if_neg d6, up_eq]; done) | (simp only [tzG, tz0G, tz1G, tz2G, ad1, if_neg d3, if_neg d6, up_eq] <;> rfl) | rfl
        exact W.vret hx hb hr (fun t ht hW => ⟨rfl, by rw [ht]; exact hh4.l0, by rw [ht]; exact kpl, by rw [ht, hfin]; exact jl, by rw [ht, hfin]; exact jgl⟩) hh4.2.2.1 (eX12_readTime (366, .return_, 1) (List.mem_of_getElem? (i := 181) rfl))
      · skip
        refine lv_iload_n hx hb (eX12_readTime (345, .iload_n 2, 1) (List.mem_of_getElem? (i := 171) rfl)) rfl (lv_at hl 0 rfl) ?_
        refine ff_iconst hx hb (eX12_readTime (346, .iconst 1, 1) (List.mem_of_getElem? (i := 172) rfl)) (by decide) (by decide) (fun v7 e7 => ?_)
        refine ff_icmp_eq hx hb (eX12_readTime (347, .if_icmp .eq 19, 3) (List.mem_of_getElem? (i := 173) rfl)) (tgt := 366) rfl (fun c8 => ?_) (fun c8 => ?_)
        · skip
          have d9 : ¬ ((gj.2.1 < 0 ∧ wa ≠ 1) ∧ isD (byI T gj.1)) := by omega
          have hfin : trG T mo (g, sg) = (fj, gj) := by rw [← htot]; first | (simp only [tzG, tz0G, tz1G, tz2G, ad1, if_neg d3, if_neg d9, up_eq]; done) | (simp only [tzG, tz0G, tz1G, tz2G, ad1, if_neg d3, if_neg d9, up_eq] <;> rfl) | rfl
          exact W.vret hx hb hr (fun t ht hW => ⟨rfl, by rw [ht]; exact hh4.l0, by rw [ht]; exact kpl, by rw [ht, hfin]; exact jl, by rw [ht, hfin]; exact jgl⟩) hh4.2.2.1 (eX12_readTime (366, .return_, 1) (List.mem_of_getElem? (i := 181) rfl))
        · skip
          refine lv_aload_n hx hb (eX12_readTime (350, .aload_n 0, 1) (List.mem_of_getElem? (i := 174) rfl)) rfl (lv_at hl 1 rfl) ?_
          refine tz_rowV (As := []) (st := []) (b := a) (C := RX12) (Ts := gT) hx hb hml hown h2 (fun _ h => h) (hX12_sign l D cA ro sz H0 a T (gj) ha) ⟨rfl, rfl⟩ ⟨by decide, by decide⟩ ⟨by decide, by decide⟩ (tb_8 21 rfl rfl) (tb_1 12 rfl rfl) (tb_8 18 rfl rfl) (tb_8 20 rfl rfl) (tb_0 32 rfl rfl) (show yX12_sign.cls ≠ "java/lang/invoke/MethodHandle" ∧ yX12_sign.cls ≠ "java/lang/invoke/VarHandle" ∧ (parseMethodDescriptor yX12_sign.desc).map (fun d => d.parameters.length) = some 0 by decide +kernel) zs_blind (zs_ob hh4 ha (show RTg[11]? = some (0, 11, 0, fsX12) from rfl) (zCX12 hKn.1)) (fun U hU hW => ⟨rfl, by rw [hU]; exact hh4.l0, zKb s U hW.alike hKn, by rw [hU]; exact jl⟩) hh4.2.2.1 hl.1 (Nat.le_of_ble_eq_true rfl) (eX12_readTime (351, .invokevirtual 309, 3) (List.mem_of_getElem? (i := 175) rfl)) (fun r10 s10 t10 lo10 g10 f10 l10 => ?_)
          obtain ⟨z10, v10, q10, e10⟩ := f10
          cases q10
          rw [z10, g10]
          have hh10 : zh_ok D cA RTg ro sz H0 H lo10 := ⟨hh4.1, hh4.2.1, l10, hh4.2.2.2⟩
          refine W.eq (g2 := F0 m 354 ls [.int v10]) rfl ?_
          refine zu_S (vs := [.int v10]) (rest := []) hx hb hml hown hts0 zu_BT (hX12_isDigit l v10) ⟨rfl, rfl⟩ ⟨by decide, by decide⟩ ⟨by decide, by decide⟩ (tb_8 27 rfl rfl) (tb_1 12 rfl rfl) (tb_8 25 rfl rfl) (tb_8 26 rfl rfl) (show yX12_isDigit.cls ≠ "java/lang/invoke/MethodHandle" ∧ yX12_isDigit.cls ≠ "java/lang/invoke/VarHandle" ∧ (parseMethodDescriptor yX12_isDigit.desc).map (fun d => d.parameters.length) = some 1 by decide +kernel) rfl (fun _ _ _ => trivial) hl.1 (Nat.le_of_ble_eq_true rfl) (eX12_readTime (354, .invokestatic 319, 3) (List.mem_of_getElem? (i := 176) rfl)) (fun w11 f11 => ?_)
          obtain ⟨v11, rfl, e11⟩ := f11
          refine ff_if_eq hx hb (eX12_readTime (357, .ifCond .eq 9, 3) (List.mem_of_getElem? (i := 177) rfl)) (tgt := 366) rfl (fun c12 => ?_) (fun c12 => ?_)
          · skip
            have d13 : ¬ ((gj.2.1 < 0 ∧ wa ≠ 1) ∧ isD (byI T gj.1)) := by omega
            have hfin : trG T mo (g, sg) = (fj, gj) := by rw [← htot]; first | (simp only [tzG, tz0G, tz1G, tz2G, ad1, if_neg d3, if_neg d13, up_eq]; done) | (simp only [tzG, tz0G, tz1G, tz2G, ad1, if_neg d3, if_neg d13, up_eq] <;> rfl) | rfl
            exact W.vret hx hb hr (fun t ht hW => ⟨rfl, by rw [ht]; exact hh10.l0, by rw [ht]; exact kpl, by rw [ht, hfin]; exact jl, by rw [ht, hfin]; exact jgl⟩) hh10.2.2.1 (eX12_readTime (366, .return_, 1) (List.mem_of_getElem? (i := 181) rfl))
          · skip
            have d14 : (gj.2.1 < 0 ∧ wa ≠ 1) ∧ isD (byI T gj.1) := by omega
            refine lv_aload_n hx hb (eX12_readTime (360, .aload_n 0, 1) (List.mem_of_getElem? (i := 178) rfl)) rfl (lv_at hl 1 rfl) ?_
            refine ff_bipush hx hb (eX12_readTime (361, .bipush 20, 2) (List.mem_of_getElem? (i := 179) rfl)) (by decide) (by decide) (fun v15 e15 => ?_)
            refine tz_rowV (As := [.int v15]) (st := []) (b := a) (C := RX12) (Ts := gT) hx hb hml hown h2 (fun _ h => h) (hX12_timeNumber l D cA ro sz H0 a v15 20 T (gj) n fj h ha hn1 hT (by omega) (by decide)) ⟨rfl, rfl⟩ ⟨by decide, by decide⟩ ⟨by decide, by decide⟩ (tb_8 80 rfl rfl) (tb_1 12 rfl rfl) (tb_8 77 rfl rfl) (tb_8 79 rfl rfl) (tb_0 44 rfl rfl) (show yX12_timeNumber.cls ≠ "java/lang/invoke/MethodHandle" ∧ yX12_timeNumber.cls ≠ "java/lang/invoke/VarHandle" ∧ (parseMethodDescriptor yX12_timeNumber.desc).map (fun d => d.parameters.length) = some 1 by decide +kernel) zs_blind (zs_ob hh10 ha (show RTg[11]? = some (0, 11, 0, fsX12) from rfl) (zCX12 hKn.1)) (fun U hU hW => ⟨rfl, by rw [hU]; exact hh10.l0, zKb s U hW.alike hKn, by rw [hU]; exact ⟨jl, jgl⟩⟩) hh10.2.2.1 hl.1 (Nat.le_of_ble_eq_true rfl) (eX12_readTime (363, .invokevirtual 377, 3) (List.mem_of_getElem? (i := 180) rfl)) (fun r16 s16 t16 lo16 g16 f16 l16 => ?_)
            obtain ⟨q16, z16, c16, jv16, jg16⟩ := f16
            cases q16
            rw [g16] at c16
            have hh16 : zh_ok D cA RTg ro sz H0 t16.heap lo16 := ⟨z16.1, z16.2.1, l16, z16.2.2.2⟩
            have kp16 := kpl.trans (c16.mono (ms' := gM) (by decide))
            generalize hx16 : nuG T 20 2 (fj, gj) = x16 at jv16 jg16
            have uu16 := jv16.2.2
            unfold vOK at uu16
            have bb16 := byI_bd T x16.2.1
            refine W.eq (g2 := F0 m 366 ls []) rfl ?_
            have hfin : trG T mo (g, sg) = (x16.1, x16.2) := by rw [← htot]; first | (simp only [tzG, tz0G, tz1G, tz2G, ad1, hx16, if_neg d3, if_pos d14, up_eq]; done) | (simp only [tzG, tz0G, tz1G, tz2G, ad1, hx16, if_neg d3, if_pos d14, up_eq] <;> rfl) | rfl
            exact W.vret hx hb hr (fun t ht hW => ⟨rfl, by rw [ht]; exact hh16.l0, by rw [ht]; exact kp16, by rw [ht, hfin]; exact jv16, by rw [ht, hfin]; exact jg16⟩) hh16.2.2.1 (eX12_readTime (366, .return_, 1) (List.mem_of_getElem? (i := 181) rfl))
    · skip
      refine lv_iload_n hx hb (eX12_readTime (305, .iload_n 2, 1) (List.mem_of_getElem? (i := 151) rfl)) rfl (lv_at hl 0 rfl) ?_
      refine ff_iconst hx hb (eX12_readTime (306, .iconst 2, 1) (List.mem_of_getElem? (i := 152) rfl)) (by decide) (by decide) (fun v17 e17 => ?_)
      refine ff_icmp_eq hx hb (eX12_readTime (307, .if_icmp .eq 31, 3) (List.mem_of_getElem? (i := 153) rfl)) (tgt := 338) rfl (fun c18 => ?_) (fun c18 => ?_)
      · skip
        have d19 : ¬ ((gj.2.1 < 0 ∧ wa ≠ 2) ∧ byI T gj.1 = 58) := by omega
        refine lv_aload_n hx hb (eX12_readTime (338, .aload_n 0, 1) (List.mem_of_getElem? (i := 168) rfl)) rfl (lv_at hl 1 rfl) ?_
        refine tz_rowV (As := []) (st := []) (b := a) (C := RX12) (Ts := gT) hx hb hml hown h2 (fun _ h => h) (hX12_isGood l D cA ro sz H0 a T (gj) ha) ⟨rfl, rfl⟩ ⟨by decide, by decide⟩ ⟨by decide, by decide⟩ (tb_8 17 rfl rfl) (tb_1 12 rfl rfl) (tb_8 14 rfl rfl) (tb_8 16 rfl rfl) (tb_0 31 rfl rfl) (show yX12_isGood.cls ≠ "java/lang/invoke/MethodHandle" ∧ yX12_isGood.cls ≠ "java/lang/invoke/VarHandle" ∧ (parseMethodDescriptor yX12_isGood.desc).map (fun d => d.parameters.length) = some 0 by decide +kernel) zs_blind (zs_ob hh1 ha (show RTg[11]? = some (0, 11, 0, fsX12) from rfl) (zCX12 hKn.1)) (fun U hU hW => ⟨rfl, by rw [hU]; exact hh1.l0, zKb s U hW.alike hKn, by rw [hU]; exact jl⟩) hh1.2.2.1 hl.1 (Nat.le_of_ble_eq_true rfl) (eX12_readTime (339, .invokevirtual 305, 3) (List.mem_of_getElem? (i := 169) rfl)) (fun r20 s20 t20 lo20 g20 f20 l20 => ?_)
        obtain ⟨z20, v20, q20, e20⟩ := f20
        cases q20
        rw [z20, g20]
        have hh20 : zh_ok D cA RTg ro sz H0 H lo20 := ⟨hh1.1, hh1.2.1, l20, hh1.2.2.2⟩
        refine W.eq (g2 := F0 m 342 ls [.int v20]) rfl ?_
        refine ff_if_eq hx hb (eX12_readTime (342, .ifCond .eq 24, 3) (List.mem_of_getElem? (i := 170) rfl)) (tgt := 366) rfl (fun c21 => ?_) (fun c21 => ?_)
        · skip
          have d22 : ¬ ((gj.2.1 < 0 ∧ wa ≠ 1) ∧ isD (byI T gj.1)) := by omega
          have hfin : trG T mo (g, sg) = (fj, gj) := by rw [← htot]; first | (simp only [tzG, tz0G, tz1G, tz2G, ad1, if_neg d19, if_neg d22, up_eq]; done) | (simp only [tzG, tz0G, tz1G, tz2G, ad1, if_neg d19, if_neg d22, up_eq] <;> rfl) | rfl
          exact W.vret hx hb hr (fun t ht hW => ⟨rfl, by rw [ht]; exact hh20.l0, by rw [ht]; exact kpl, by rw [ht, hfin]; exact jl, by rw [ht, hfin]; exact jgl⟩) hh20.2.2.1 (eX12_readTime (366, .return_, 1) (List.mem_of_getElem? (i := 181) rfl))
        · skip
          refine lv_iload_n hx hb (eX12_readTime (345, .iload_n 2, 1) (List.mem_of_getElem? (i := 171) rfl)) rfl (lv_at hl 0 rfl) ?_
          refine ff_iconst hx hb (eX12_readTime (346, .iconst 1, 1) (List.mem_of_getElem? (i := 172) rfl)) (by decide) (by decide) (fun v23 e23 => ?_)
          refine ff_icmp_eq hx hb (eX12_readTime (347, .if_icmp .eq 19, 3) (List.mem_of_getElem? (i := 173) rfl)) (tgt := 366) rfl (fun c24 => ?_) (fun c24 => ?_)
          · skip
            have d25 : ¬ ((gj.2.1 < 0 ∧ wa ≠ 1) ∧ isD (byI T gj.1)) := by omega
            have hfin : trG T mo (g, sg) = (fj, gj) := by rw [← htot]; first | (simp only [tzG, tz0G, tz1G, tz2G, ad1, if_neg d19, if_neg d25, up_eq]; done) | (simp only [tzG, tz0G, tz1G, tz2G, ad1, if_neg d19, if_neg d25, up_eq] <;> rfl) | rfl
            exact W.vret hx hb hr (fun t ht hW => ⟨rfl, by rw [ht]; exact hh20.l0, by rw [ht]; exact kpl, by rw [ht, hfin]; exact jl, by rw [ht, hfin]; exact jgl⟩) hh20.2.2.1 (eX12_readTime (366, .return_, 1) (List.mem_of_getElem? (i := 181) rfl))
          · skip
            refine lv_aload_n hx hb (eX12_readTime (350, .aload_n 0, 1) (List.mem_of_getElem? (i := 174) rfl)) rfl (lv_at hl 1 rfl) ?_
            refine tz_rowV (As := []) (st := []) (b := a) (C := RX12) (Ts := gT) hx hb hml hown h2 (fun _ h => h) (hX12_sign l D cA ro sz H0 a T (gj) ha) ⟨rfl, rfl⟩ ⟨by decide, by decide⟩ ⟨by decide, by decide⟩ (tb_8 21 rfl rfl) (tb_1 12 rfl rfl) (tb_8 18 rfl rfl) (tb_8 20 rfl rfl) (tb_0 32 rfl rfl) (show yX12_sign.cls ≠ "java/lang/invoke/MethodHandle" ∧ yX12_sign.cls ≠ "java/lang/invoke/VarHandle" ∧ (parseMethodDescriptor yX12_sign.desc).map (fun d => d.parameters.length) = some 0 by decide +kernel) zs_blind (zs_ob hh20 ha (show RTg[11]? = some (0, 11, 0, fsX12) from rfl) (zCX12 hKn.1)) (fun U hU hW => ⟨rfl, by rw [hU]; exact hh20.l0, zKb s U hW.alike hKn, by rw [hU]; exact jl⟩) hh20.2.2.1 hl.1 (Nat.le_of_ble_eq_true rfl) (eX12_readTime (351, .invokevirtual 309, 3) (List.mem_of_getElem? (i := 175) rfl)) (fun r26 s26 t26 lo26 g26 f26 l26 => ?_)
            obtain ⟨z26, v26, q26, e26⟩ := f26
            cases q26
            rw [z26, g26]
            have hh26 : zh_ok D cA RTg ro sz H0 H lo26 := ⟨hh20.1, hh20.2.1, l26, hh20.2.2.2⟩
            refine W.eq (g2 := F0 m 354 ls [.int v26]) rfl ?_
            refine zu_S (vs := [.int v26]) (rest := []) hx hb hml hown hts0 zu_BT (hX12_isDigit l v26) ⟨rfl, rfl⟩ ⟨by decide, by decide⟩ ⟨by decide, by decide⟩ (tb_8 27 rfl rfl) (tb_1 12 rfl rfl) (tb_8 25 rfl rfl) (tb_8 26 rfl rfl) (show yX12_isDigit.cls ≠ "java/lang/invoke/MethodHandle" ∧ yX12_isDigit.cls ≠ "java/lang/invoke/VarHandle" ∧ (parseMethodDescriptor yX12_isDigit.desc).map (fun d => d.parameters.length) = some 1 by decide +kernel) rfl (fun _ _ _ => trivial) hl.1 (Nat.le_of_ble_eq_true rfl) (eX12_readTime (354, .invokestatic 319, 3) (List.mem_of_getElem? (i := 176) rfl)) (fun w27 f27 => ?_)
            obtain ⟨v27, rfl, e27⟩ := f27
            refine ff_if_eq hx hb (eX12_readTime (357, .ifCond .eq 9, 3) (List.mem_of_getElem? (i := 177) rfl)) (tgt := 366) rfl (fun c28 => ?_) (fun c28 => ?_)
            · skip
              have d29 : ¬ ((gj.2.1 < 0 ∧ wa ≠ 1) ∧ isD (byI T gj.1)) := by omega
              have hfin : trG T mo (g, sg) = (fj, gj) := by rw [← htot]; first | (simp only [tzG, tz0G, tz1G, tz2G, ad1, if_neg d19, if_neg d29, up_eq]; done) | (simp only [tzG, tz0G, tz1G, tz2G, ad1, if_neg d19, if_neg d29, up_eq] <;> rfl) | rfl
              exact W.vret hx hb hr (fun t ht hW => ⟨rfl, by rw [ht]; exact hh26.l0, by rw [ht]; exact kpl, by rw [ht, hfin]; exact jl, by rw [ht, hfin]; exact jgl⟩) hh26.2.2.1 (eX12_readTime (366, .return_, 1) (List.mem_of_getElem? (i := 181) rfl))
            · skip
              have d30 : (gj.2.1 < 0 ∧ wa ≠ 1) ∧ isD (byI T gj.1) := by omega
              refine lv_aload_n hx hb (eX12_readTime (360, .aload_n 0, 1) (List.mem_of_getElem? (i := 178) rfl)) rfl (lv_at hl 1 rfl) ?_
              refine ff_bipush hx hb (eX12_readTime (361, .bipush 20, 2) (List.mem_of_getElem? (i := 179) rfl)) (by decide) (by decide) (fun v31 e31 => ?_)
              refine tz_rowV (As := [.int v31]) (st := []) (b := a) (C := RX12) (Ts := gT) hx hb hml hown h2 (fun _ h => h) (hX12_timeNumber l D cA ro sz H0 a v31 20 T (gj) n fj h ha hn1 hT (by omega) (by decide)) ⟨rfl, rfl⟩ ⟨by decide, by decide⟩ ⟨by decide, by decide⟩ (tb_8 80 rfl rfl) (tb_1 12 rfl rfl) (tb_8 77 rfl rfl) (tb_8 79 rfl rfl) (tb_0 44 rfl rfl) (show yX12_timeNumber.cls ≠ "java/lang/invoke/MethodHandle" ∧ yX12_timeNumber.cls ≠ "java/lang/invoke/VarHandle" ∧ (parseMethodDescriptor yX12_timeNumber.desc).map (fun d => d.parameters.length) = some 1 by decide +kernel) zs_blind (zs_ob hh26 ha (show RTg[11]? = some (0, 11, 0, fsX12) from rfl) (zCX12 hKn.1)) (fun U hU hW => ⟨rfl, by rw [hU]; exact hh26.l0, zKb s U hW.alike hKn, by rw [hU]; exact ⟨jl, jgl⟩⟩) hh26.2.2.1 hl.1 (Nat.le_of_ble_eq_true rfl) (eX12_readTime (363, .invokevirtual 377, 3) (List.mem_of_getElem? (i := 180) rfl)) (fun r32 s32 t32 lo32 g32 f32 l32 => ?_)
              obtain ⟨q32, z32, c32, jv32, jg32⟩ := f32
              cases q32
              rw [g32] at c32
              have hh32 : zh_ok D cA RTg ro sz H0 t32.heap lo32 := ⟨z32.1, z32.2.1, l32, z32.2.2.2⟩
              have kp32 := kpl.trans (c32.mono (ms' := gM) (by decide))
              generalize hx32 : nuG T 20 2 (fj, gj) = x32 at jv32 jg32
              have uu32 := jv32.2.2
              unfold vOK at uu32
              have bb32 := byI_bd T x32.2.1
              refine W.eq (g2 := F0 m 366 ls []) rfl ?_
              have hfin : trG T mo (g, sg) = (x32.1, x32.2) := by rw [← htot]; first | (simp only [tzG, tz0G, tz1G, tz2G, ad1, hx32, if_neg d19, if_pos d30, up_eq]; done) | (simp only [tzG, tz0G, tz1G, tz2G, ad1, hx32, if_neg d19, if_pos d30, up_eq] <;> rfl) | rfl
              exact W.vret hx hb hr (fun t ht hW => ⟨rfl, by rw [ht]; exact hh32.l0, by rw [ht]; exact kp32, by rw [ht, hfin]; exact jv32, by rw [ht, hfin]; exact jg32⟩) hh32.2.2.1 (eX12_readTime (366, .return_, 1) (List.mem_of_getElem? (i := 181) rfl))
      · skip
        refine lv_aload_n hx hb (eX12_readTime (310, .aload_n 0, 1) (List.mem_of_getElem? (i := 154) rfl)) rfl (lv_at hl 1 rfl) ?_
        refine tz_rowV (As := []) (st := []) (b := a) (C := RX12) (Ts := gT) hx hb hml hown h2 (fun _ h => h) (hX12_sign l D cA ro sz H0 a T (gj) ha) ⟨rfl, rfl⟩ ⟨by decide, by decide⟩ ⟨by decide, by decide⟩ (tb_8 21 rfl rfl) (tb_1 12 rfl rfl) (tb_8 18 rfl rfl) (tb_8 20 rfl rfl) (tb_0 32 rfl rfl) (show yX12_sign.cls ≠ "java/lang/invoke/MethodHandle" ∧ yX12_sign.cls ≠ "java/lang/invoke/VarHandle" ∧ (parseMethodDescriptor yX12_sign.desc).map (fun d => d.parameters.length) = some 0 by decide +kernel) zs_blind (zs_ob hh1 ha (show RTg[11]? = some (0, 11, 0, fsX12) from rfl) (zCX12 hKn.1)) (fun U hU hW => ⟨rfl, by rw [hU]; exact hh1.l0, zKb s U hW.alike hKn, by rw [hU]; exact jl⟩) hh1.2.2.1 hl.1 (Nat.le_of_ble_eq_true rfl) (eX12_readTime (311, .invokevirtual 309, 3) (List.mem_of_getElem? (i := 155) rfl)) (fun r33 s33 t33 lo33 g33 f33 l33 => ?_)
        obtain ⟨z33, v33, q33, e33⟩ := f33
        cases q33
        rw [z33, g33]
        have hh33 : zh_ok D cA RTg ro sz H0 H lo33 := ⟨hh1.1, hh1.2.1, l33, hh1.2.2.2⟩
        refine W.eq (g2 := F0 m 314 ls [.int v33]) rfl ?_
        refine ff_bipush hx hb (eX12_readTime (314, .bipush 58, 2) (List.mem_of_getElem? (i := 156) rfl)) (by decide) (by decide) (fun v34 e34 => ?_)
        refine ff_icmp_ne hx hb (eX12_readTime (316, .if_icmp .ne 22, 3) (List.mem_of_getElem? (i := 157) rfl)) (tgt := 338) rfl (fun c35 => ?_) (fun c35 => ?_)
        · skip
          have d36 : ¬ ((gj.2.1 < 0 ∧ wa ≠ 2) ∧ byI T gj.1 = 58) := by omega
          refine lv_aload_n hx hb (eX12_readTime (338, .aload_n 0, 1) (List.mem_of_getElem? (i := 168) rfl)) rfl (lv_at hl 1 rfl) ?_
          refine tz_rowV (As := []) (st := []) (b := a) (C := RX12) (Ts := gT) hx hb hml hown h2 (fun _ h => h) (hX12_isGood l D cA ro sz H0 a T (gj) ha) ⟨rfl, rfl⟩ ⟨by decide, by decide⟩ ⟨by decide, by decide⟩ (tb_8 17 rfl rfl) (tb_1 12 rfl rfl) (tb_8 14 rfl rfl) (tb_8 16 rfl rfl) (tb_0 31 rfl rfl) (show yX12_isGood.cls ≠ "java/lang/invoke/MethodHandle" ∧ yX12_isGood.cls ≠ "java/lang/invoke/VarHandle" ∧ (parseMethodDescriptor yX12_isGood.desc).map (fun d => d.parameters.length) = some 0 by decide +kernel) zs_blind (zs_ob hh33 ha (show RTg[11]? = some (0, 11, 0, fsX12) from rfl) (zCX12 hKn.1)) (fun U hU hW => ⟨rfl, by rw [hU]; exact hh33.l0, zKb s U hW.alike hKn, by rw [hU]; exact jl⟩) hh33.2.2.1 hl.1 (Nat.le_of_ble_eq_true rfl) (eX12_readTime (339, .invokevirtual 305, 3) (List.mem_of_getElem? (i := 169) rfl)) (fun r37 s37 t37 lo37 g37 f37 l37 => ?_)
          obtain ⟨z37, v37, q37, e37⟩ := f37
          cases q37
          rw [z37, g37]
          have hh37 : zh_ok D cA RTg ro sz H0 H lo37 := ⟨hh33.1, hh33.2.1, l37, hh33.2.2.2⟩
          refine W.eq (g2 := F0 m 342 ls [.int v37]) rfl ?_
          refine ff_if_eq hx hb (eX12_readTime (342, .ifCond .eq 24, 3) (List.mem_of_getElem? (i := 170) rfl)) (tgt := 366) rfl (fun c38 => ?_) (fun c38 => ?_)
          · skip
            have d39 : ¬ ((gj.2.1 < 0 ∧ wa ≠ 1) ∧ isD (byI T gj.1)) := by omega
            have hfin : trG T mo (g, sg) = (fj, gj) := by rw [← htot]; first | (simp only [tzG, tz0G, tz1G, tz2G, ad1, if_neg d36, if_neg d39, up_eq]; done) | (simp only [tzG, tz0G, tz1G, tz2G, ad1, if_neg d36, if_neg d39, up_eq] <;> rfl) | rfl
            exact W.vret hx hb hr (fun t ht hW => ⟨rfl, by rw [ht]; exact hh37.l0, by rw [ht]; exact kpl, by rw [ht, hfin]; exact jl, by rw [ht, hfin]; exact jgl⟩) hh37.2.2.1 (eX12_readTime (366, .return_, 1) (List.mem_of_getElem? (i := 181) rfl))
          · skip
            refine lv_iload_n hx hb (eX12_readTime (345, .iload_n 2, 1) (List.mem_of_getElem? (i := 171) rfl)) rfl (lv_at hl 0 rfl) ?_
            refine ff_iconst hx hb (eX12_readTime (346, .iconst 1, 1) (List.mem_of_getElem? (i := 172) rfl)) (by decide) (by decide) (fun v40 e40 => ?_)
            refine ff_icmp_eq hx hb (eX12_readTime (347, .if_icmp .eq 19, 3) (List.mem_of_getElem? (i := 173) rfl)) (tgt := 366) rfl (fun c41 => ?_) (fun c41 => ?_)
            · skip
              have d42 : ¬ ((gj.2.1 < 0 ∧ wa ≠ 1) ∧ isD (byI T gj.1)) := by omega
              have hfin : trG T mo (g, sg) = (fj, gj) := by rw [← htot]; first | (simp only [tzG, tz0G, tz1G, tz2G, ad1, if_neg d36, if_neg d42, up_eq]; done) | (simp only [tzG, tz0G, tz1G, tz2G, ad1, if_neg d36, if_neg d42, up_eq] <;> rfl) | rfl
              exact W.vret hx hb hr (fun t ht hW => ⟨rfl, by rw [ht]; exact hh37.l0, by rw [ht]; exact kpl, by rw [ht, hfin]; exact jl, by rw [ht, hfin]; exact jgl⟩) hh37.2.2.1 (eX12_readTime (366, .return_, 1) (List.mem_of_getElem? (i := 181) rfl))
            · skip
              refine lv_aload_n hx hb (eX12_readTime (350, .aload_n 0, 1) (List.mem_of_getElem? (i := 174) rfl)) rfl (lv_at hl 1 rfl) ?_
              refine tz_rowV (As := []) (st := []) (b := a) (C := RX12) (Ts := gT) hx hb hml hown h2 (fun _ h => h) (hX12_sign l D cA ro sz H0 a T (gj) ha) ⟨rfl, rfl⟩ ⟨by decide, by decide⟩ ⟨by decide, by decide⟩ (tb_8 21 rfl rfl) (tb_1 12 rfl rfl) (tb_8 18 rfl rfl) (tb_8 20 rfl rfl) (tb_0 32 rfl rfl) (show yX12_sign.cls ≠ "java/lang/invoke/MethodHandle" ∧ yX12_sign.cls ≠ "java/lang/invoke/VarHandle" ∧ (parseMethodDescriptor yX12_sign.desc).map (fun d => d.parameters.length) = some 0 by decide +kernel) zs_blind (zs_ob hh37 ha (show RTg[11]? = some (0, 11, 0, fsX12) from rfl) (zCX12 hKn.1)) (fun U hU hW => ⟨rfl, by rw [hU]; exact hh37.l0, zKb s U hW.alike hKn, by rw [hU]; exact jl⟩) hh37.2.2.1 hl.1 (Nat.le_of_ble_eq_true rfl) (eX12_readTime (351, .invokevirtual 309, 3) (List.mem_of_getElem? (i := 175) rfl)) (fun r43 s43 t43 lo43 g43 f43 l43 => ?_)
              obtain ⟨z43, v43, q43, e43⟩ := f43
              cases q43
              rw [z43, g43]
              have hh43 : zh_ok D cA RTg ro sz H0 H lo43 := ⟨hh37.1, hh37.2.1, l43, hh37.2.2.2⟩
              refine W.eq (g2 := F0 m 354 ls [.int v43]) rfl ?_
              refine zu_S (vs := [.int v43]) (rest := []) hx hb hml hown hts0 zu_BT (hX12_isDigit l v43) ⟨rfl, rfl⟩ ⟨by decide, by decide⟩ ⟨by decide, by decide⟩ (tb_8 27 rfl rfl) (tb_1 12 rfl rfl) (tb_8 25 rfl rfl) (tb_8 26 rfl rfl) (show yX12_isDigit.cls ≠ "java/lang/invoke/MethodHandle" ∧ yX12_isDigit.cls ≠ "java/lang/invoke/VarHandle" ∧ (parseMethodDescriptor yX12_isDigit.desc).map (fun d => d.parameters.length) = some 1 by decide +kernel) rfl (fun _ _ _ => trivial) hl.1 (Nat.le_of_ble_eq_true rfl) (eX12_readTime (354, .invokestatic 319, 3) (List.mem_of_getElem? (i := 176) rfl)) (fun w44 f44 => ?_)
              obtain ⟨v44, rfl, e44⟩ := f44
              refine ff_if_eq hx hb (eX12_readTime (357, .ifCond .eq 9, 3) (List.mem_of_getElem? (i := 177) rfl)) (tgt := 366) rfl (fun c45 => ?_) (fun c45 => ?_)
              · skip
                have d46 : ¬ ((gj.2.1 < 0 ∧ wa ≠ 1) ∧ isD (byI T gj.1)) := by omega
                have hfin : trG T mo (g, sg) = (fj, gj) := by rw [← htot]; first | (simp only [tzG, tz0G, tz1G, tz2G, ad1, if_neg d36, if_neg d46, up_eq]; done) | (simp only [tzG, tz0G, tz1G, tz2G, ad1, if_neg d36, if_neg d46, up_eq] <;> rfl) | rfl
                exact W.vret hx hb hr (fun t ht hW => ⟨rfl, by rw [ht]; exact hh43.l0, by rw [ht]; exact kpl, by rw [ht, hfin]; exact jl, by rw [ht, hfin]; exact jgl⟩) hh43.2.2.1 (eX12_readTime (366, .return_, 1) (List.mem_of_getElem? (i := 181) rfl))
              · skip
                have d47 : (gj.2.1 < 0 ∧ wa ≠ 1) ∧ isD (byI T gj.1) := by omega
                refine lv_aload_n hx hb (eX12_readTime (360, .aload_n 0, 1) (List.mem_of_getElem? (i := 178) rfl)) rfl (lv_at hl 1 rfl) ?_
                refine ff_bipush hx hb (eX12_readTime (361, .bipush 20, 2) (List.mem_of_getElem? (i := 179) rfl)) (by decide) (by decide) (fun v48 e48 => ?_)
                refine tz_rowV (As := [.int v48]) (st := []) (b := a) (C := RX12) (Ts := gT) hx hb hml hown h2 (fun _ h => h) (hX12_timeNumber l D cA ro sz H0 a v48 20 T (gj) n fj h ha hn1 hT (by omega) (by decide)) ⟨rfl, rfl⟩ ⟨by decide, by decide⟩ ⟨by decide, by decide⟩ (tb_8 80 rfl rfl) (tb_1 12 rfl rfl) (tb_8 77 rfl rfl) (tb_8 79 rfl rfl) (tb_0 44 rfl rfl) (show yX12_timeNumber.cls ≠ "java/lang/invoke/MethodHandle" ∧ yX12_timeNumber.cls ≠ "java/lang/invoke/VarHandle" ∧ (parseMethodDescriptor yX12_timeNumber.desc).map (fun d => d.parameters.length) = some 1 by decide +kernel) zs_blind (zs_ob hh43 ha (show RTg[11]? = some (0, 11, 0, fsX12) from rfl) (zCX12 hKn.1)) (fun U hU hW => ⟨rfl, by rw [hU]; exact hh43.l0, zKb s U hW.alike hKn, by rw [hU]; exact ⟨jl, jgl⟩⟩) hh43.2.2.1 hl.1 (Nat.le_of_ble_eq_true rfl) (eX12_readTime (363, .invokevirtual 377, 3) (List.mem_of_getElem? (i := 180) rfl)) (fun r49 s49 t49 lo49 g49 f49 l49 => ?_)
                obtain ⟨q49, z49, c49, jv49, jg49⟩ := f49
                cases q49
                rw [g49] at c49
                have hh49 : zh_ok D cA RTg ro sz H0 t49.heap lo49 := ⟨z49.1, z49.2.1, l49, z49.2.2.2⟩
                have kp49 := kpl.trans (c49.mono (ms' := gM) (by decide))
                generalize hx49 : nuG T 20 2 (fj, gj) = x49 at jv49 jg49
                have uu49 := jv49.2.2
                unfold vOK at uu49
                have bb49 := byI_bd T x49.2.1
                refine W.eq (g2 := F0 m 366 ls []) rfl ?_
                have hfin : trG T mo (g, sg) = (x49.1, x49.2) := by rw [← htot]; first | (simp only [tzG, tz0G, tz1G, tz2G, ad1, hx49, if_neg d36, if_pos d47, up_eq]; done) | (simp only [tzG, tz0G, tz1G, tz2G, ad1, hx49, if_neg d36, if_pos d47, up_eq] <;> rfl) | rfl
                exact W.vret hx hb hr (fun t ht hW => ⟨rfl, by rw [ht]; exact hh49.l0, by rw [ht]; exact kp49, by rw [ht, hfin]; exact jv49, by rw [ht, hfin]; exact jg49⟩) hh49.2.2.1 (eX12_readTime (366, .return_, 1) (List.mem_of_getElem? (i := 181) rfl))
        · skip
          have d50 : (gj.2.1 < 0 ∧ wa ≠ 2) ∧ byI T gj.1 = 58 := by omega
          refine lv_aload_n hx hb (eX12_readTime (319, .aload_n 0, 1) (List.mem_of_getElem? (i := 158) rfl)) rfl (lv_at hl 1 rfl) ?_
          refine lv_dup hx hb (eX12_readTime (320, .dup, 1) (List.mem_of_getElem? (i := 159) rfl)) rfl ?_
          obtain ⟨jt51, ⟨av51, fv51, bv51, f2951, f3051, f3151, hav51, hfv51, hbv51⟩, hu51⟩ := id jl
          refine tz_get (r := 11) (k := 29) (t := (0, 0, 120)) hx hb hh33 ha rfl rfl (hcl11 293 29 (0, 0, 120) (by decide) rfl).1 f2951 (eX12_readTime (321, .getfield 293, 3) (List.mem_of_getElem? (i := 160) rfl)) ?_
          refine ff_iconst hx hb (eX12_readTime (324, .iconst 1, 1) (List.mem_of_getElem? (i := 161) rfl)) (by decide) (by decide) (fun v52 e52 => ?_)
          have ha953 : av51.toInt + v52.toInt ≤ 121 ∧ 0 ≤ av51.toInt := by omega
          refine ff_iadd hx hb (eX12_readTime (325, .iadd, 1) (List.mem_of_getElem? (i := 162) rfl)) (by omega) (by omega) (fun v53 e53 => ?_)
          have hlt := byI_lt (T := T) (a := gj.1) (by omega) (by omega)
          refine tz_put (r := 11) (k := 29) (t := (0, 0, 120)) hx hb hD hh33 ha rfl rfl ((hcl11 293 29 (0, 0, 120) (by decide) rfl).2 (by decide)) (tz_i (by omega) (by omega)) (eX12_readTime (326, .putfield 293, 3) (List.mem_of_getElem? (i := 163) rfl)) (fun H54 lo54 hh54 hf54 hk54 _ hq54 => ?_)
          have mf54_a_30 := (hk54.1 a 11 30 11 0 fsX12 ha rfl (by decide) (by decide)).trans f3051
          have mf54_a_31 := (hk54.1 a 11 31 11 0 fsX12 ha rfl (by decide) (by decide)).trans f3151
          have kp54 := kpl.trans (hk54.mono (ms' := gM) (fun x hx => by cases List.mem_singleton.mp hx; decide))
          have jv54 : jV D cA ro H54 a T (gj.1 + 1, gj.2) := ⟨jl.1.kept ha hk54 (by decide) (by decide) (by decide), ⟨_, _, _, hf54, mf54_a_30, mf54_a_31, by show _ = gj.1 + 1; omega, hfv51, hbv51⟩, adG_ok jl.2.2 (by omega)⟩
          have jg54 := jgl.kept ha hk54 (by decide)
          have uv54 := jv54.2.2
          unfold vOK at uv54
          have bb54 := byI_bd T (gj.1 + 1, gj.2).1
          refine lv_aload_n hx hb (eX12_readTime (329, .aload_n 0, 1) (List.mem_of_getElem? (i := 164) rfl)) rfl (lv_at hl 1 rfl) ?_
          refine ff_bipush hx hb (eX12_readTime (330, .bipush 20, 2) (List.mem_of_getElem? (i := 165) rfl)) (by decide) (by decide) (fun v55 e55 => ?_)
          refine tz_rowV (As := [.int v55]) (st := []) (b := a) (C := RX12) (Ts := gT) hx hb hml hown h2 (fun _ h => h) (hX12_timeNumber l D cA ro sz H0 a v55 20 T ((gj.1 + 1, gj.2)) n fj h ha hn1 hT (by omega) (by decide)) ⟨rfl, rfl⟩ ⟨by decide, by decide⟩ ⟨by decide, by decide⟩ (tb_8 80 rfl rfl) (tb_1 12 rfl rfl) (tb_8 77 rfl rfl) (tb_8 79 rfl rfl) (tb_0 44 rfl rfl) (show yX12_timeNumber.cls ≠ "java/lang/invoke/MethodHandle" ∧ yX12_timeNumber.cls ≠ "java/lang/invoke/VarHandle" ∧ (parseMethodDescriptor yX12_timeNumber.desc).map (fun d => d.parameters.length) = some 1 by decide +kernel) zs_blind (zs_ob hh54 ha (show RTg[11]? = some (0, 11, 0, fsX12) from rfl) (zCX12 hKn.1)) (fun U hU hW => ⟨rfl, by rw [hU]; exact hh54.l0, zKb s U hW.alike hKn, by rw [hU]; exact ⟨jv54, jg54⟩⟩) hh54.2.2.1 hl.1 (Nat.le_of_ble_eq_true rfl) (eX12_readTime (332, .invokevirtual 377, 3) (List.mem_of_getElem? (i := 166) rfl)) (fun r56 s56 t56 lo56 g56 f56 l56 => ?_)
          obtain ⟨q56, z56, c56, jv56, jg56⟩ := f56
          cases q56
          rw [g56] at c56
          have hh56 : zh_ok D cA RTg ro sz H0 t56.heap lo56 := ⟨z56.1, z56.2.1, l56, z56.2.2.2⟩
          have kp56 := kp54.trans (c56.mono (ms' := gM) (by decide))
          generalize hx56 : nuG T 20 2 (fj, (gj.1 + 1, gj.2)) = x56 at jv56 jg56
          have uu56 := jv56.2.2
          unfold vOK at uu56
          have bb56 := byI_bd T x56.2.1
          refine W.eq (g2 := F0 m 335 ls []) rfl ?_
          refine lv_goto hx hb (eX12_readTime (335, .goto 31, 3) (List.mem_of_getElem? (i := 167) rfl)) (tgt := 366) rfl ?_
          have hfin : trG T mo (g, sg) = (x56.1, x56.2) := by rw [← htot]; first | (simp only [tzG, tz0G, tz1G, tz2G, ad1, hx56, if_pos d50, up_eq]; done) | (simp only [tzG, tz0G, tz1G, tz2G, ad1, hx56, if_pos d50, up_eq] <;> rfl) | rfl
          exact W.vret hx hb hr (fun t ht hW => ⟨rfl, by rw [ht]; exact hh56.l0, by rw [ht]; exact kp56, by rw [ht, hfin]; exact jv56, by rw [ht, hfin]; exact jg56⟩) hh56.2.2.1 (eX12_readTime (366, .return_, 1) (List.mem_of_getElem? (i := 181) rfl))
  have jn209 : ∀ (fj : fN) (gj : uS) (wv : Int32) (wa : Int) (ls : Array Slot) (H : Heap) (lo0 : List Loc), zh_ok D cA RTg ro sz H0 H lo0 → zc_kept D RTg ro gM s.heap H → jV D cA ro H a T gj → jG D cA ro H a n fj h → wv.toInt = wa → tzG T wa (fj, gj) = trG T mo (g, sg) → lv_has ls 3 [(2, .int wv), (0, .ref a), (1, .int mv)] → W p l e (headSpec (gW yX12_readTime cX12_readTime 3 none) { frames := 3, cells := 0, slots := 0, locals := 64 }).room s m ([.ref a, .int mv] : List Value).toArray below meth c H lo0 0 0 (MQ below (rg_V D cA ro sz H0 gM a n T h (trG T mo (g, sg))) ([.ref a, .int mv] : List Value).toArray s 0 0 (zy_fr sz)) (F0 m 209 ls []) := by
    intro fj gj wv  wa  ls H lo0 hh0 kpl jl jgl hwv htot hl
    have hul := jl.2.2
    unfold vOK at hul
    have hbj := byI_bd T gj.1
    refine lv_aload_n hx hb (eX12_readTime (209, .aload_n 0, 1) (List.mem_of_getElem? (i := 105) rfl)) rfl (lv_at hl 1 rfl) ?_
    refine ff_bipush hx hb (eX12_readTime (210, .bipush 90, 2) (List.mem_of_getElem? (i := 106) rfl)) (by decide) (by decide) (fun v57 e57 => ?_)
    refine tz_rowV (As := [.int v57]) (st := []) (b := a) (C := RX12) (Ts := gT) hx hb hml hown h2 (fun _ h => h) (hX12_takes l D cA ro sz H0 a v57 90 T (gj) ha (by omega) (by decide)) ⟨rfl, rfl⟩ ⟨by decide, by decide⟩ ⟨by decide, by decide⟩ (tb_8 13 rfl rfl) (tb_1 12 rfl rfl) (tb_8 10 rfl rfl) (tb_8 12 rfl rfl) (tb_0 30 rfl rfl) (show yX12_takes.cls ≠ "java/lang/invoke/MethodHandle" ∧ yX12_takes.cls ≠ "java/lang/invoke/VarHandle" ∧ (parseMethodDescriptor yX12_takes.desc).map (fun d => d.parameters.length) = some 1 by decide +kernel) zs_blind (zs_ob hh0 ha (show RTg[11]? = some (0, 11, 0, fsX12) from rfl) (zCX12 hKn.1)) (fun U hU hW => ⟨rfl, by rw [hU]; exact hh0.l0, zKb s U hW.alike hKn, by rw [hU]; exact jl⟩) hh0.2.2.1 hl.1 (Nat.le_of_ble_eq_true rfl) (eX12_readTime (212, .invokevirtual 313, 3) (List.mem_of_getElem? (i := 107) rfl)) (fun r58 s58 t58 lo58 g58 f58 l58 => ?_)
    obtain ⟨v58, q58, e58, z58, c58, jv58⟩ := f58
    cases q58
    rw [g58] at c58
    have hh58 : zh_ok D cA RTg ro sz H0 t58.heap lo58 := ⟨z58.1, z58.2.1, l58, z58.2.2.2⟩
    have kp58 := kpl.trans (c58.mono (ms' := gM) (by decide))
    have kf58 := tkG_01 T 90 gj
    generalize hx58 : tkG T 90 gj = x58 at jv58 e58 kf58
    have uu58 := jv58.2.2
    unfold vOK at uu58
    have bb58 := byI_bd T x58.2.1
    have jg58 := jgl.kept ha c58 (by decide)
    refine W.eq (g2 := F0 m 215 ls [.int v58]) rfl ?_
    refine ff_if_eq hx hb (eX12_readTime (215, .ifCond .eq 13, 3) (List.mem_of_getElem? (i := 108) rfl)) (tgt := 228) rfl (fun c59 => ?_) (fun c59 => ?_)
    · skip
      have d58 : ¬ x58.1 = 1 := by omega
      refine lv_aload_n hx hb (eX12_readTime (228, .aload_n 0, 1) (List.mem_of_getElem? (i := 114) rfl)) rfl (lv_at hl 1 rfl) ?_
      refine tz_rowV (As := []) (st := []) (b := a) (C := RX12) (Ts := gT) hx hb hml hown h2 (fun _ h => h) (hX12_isGood l D cA ro sz H0 a T (x58.2) ha) ⟨rfl, rfl⟩ ⟨by decide, by decide⟩ ⟨by decide, by decide⟩ (tb_8 17 rfl rfl) (tb_1 12 rfl rfl) (tb_8 14 rfl rfl) (tb_8 16 rfl rfl) (tb_0 31 rfl rfl) (show yX12_isGood.cls ≠ "java/lang/invoke/MethodHandle" ∧ yX12_isGood.cls ≠ "java/lang/invoke/VarHandle" ∧ (parseMethodDescriptor yX12_isGood.desc).map (fun d => d.parameters.length) = some 0 by decide +kernel) zs_blind (zs_ob hh58 ha (show RTg[11]? = some (0, 11, 0, fsX12) from rfl) (zCX12 hKn.1)) (fun U hU hW => ⟨rfl, by rw [hU]; exact hh58.l0, zKb s U hW.alike hKn, by rw [hU]; exact jv58⟩) hh58.2.2.1 hl.1 (Nat.le_of_ble_eq_true rfl) (eX12_readTime (229, .invokevirtual 305, 3) (List.mem_of_getElem? (i := 115) rfl)) (fun r60 s60 t60 lo60 g60 f60 l60 => ?_)
      obtain ⟨z60, v60, q60, e60⟩ := f60
      cases q60
      rw [z60, g60]
      have hh60 : zh_ok D cA RTg ro sz H0 t58.heap lo60 := ⟨hh58.1, hh58.2.1, l60, hh58.2.2.2⟩
      refine W.eq (g2 := F0 m 232 ls [.int v60]) rfl ?_
      refine ff_if_eq hx hb (eX12_readTime (232, .ifCond .eq 134, 3) (List.mem_of_getElem? (i := 116) rfl)) (tgt := 366) rfl (fun c61 => ?_) (fun c61 => ?_)
      · skip
        have d62 : ¬ (x58.2.2.1 < 0 ∧ (byI T x58.2.1 = 43 ∨ byI T x58.2.1 = 45)) := by omega
        have hfin : trG T mo (g, sg) = (fj, x58.2) := by rw [← htot]; first | (simp only [tzG, tz0G, tz1G, tz2G, ad1, hx58, if_neg d58, if_neg d62, up_eq]; done) | (simp only [tzG, tz0G, tz1G, tz2G, ad1, hx58, if_neg d58, if_neg d62, up_eq] <;> rfl) | rfl
        exact W.vret hx hb hr (fun t ht hW => ⟨rfl, by rw [ht]; exact hh60.l0, by rw [ht]; exact kp58, by rw [ht, hfin]; exact jv58, by rw [ht, hfin]; exact jg58⟩) hh60.2.2.1 (eX12_readTime (366, .return_, 1) (List.mem_of_getElem? (i := 181) rfl))
      · skip
        refine lv_aload_n hx hb (eX12_readTime (235, .aload_n 0, 1) (List.mem_of_getElem? (i := 117) rfl)) rfl (lv_at hl 1 rfl) ?_
        refine tz_rowV (As := []) (st := []) (b := a) (C := RX12) (Ts := gT) hx hb hml hown h2 (fun _ h => h) (hX12_sign l D cA ro sz H0 a T (x58.2) ha) ⟨rfl, rfl⟩ ⟨by decide, by decide⟩ ⟨by decide, by decide⟩ (tb_8 21 rfl rfl) (tb_1 12 rfl rfl) (tb_8 18 rfl rfl) (tb_8 20 rfl rfl) (tb_0 32 rfl rfl) (show yX12_sign.cls ≠ "java/lang/invoke/MethodHandle" ∧ yX12_sign.cls ≠ "java/lang/invoke/VarHandle" ∧ (parseMethodDescriptor yX12_sign.desc).map (fun d => d.parameters.length) = some 0 by decide +kernel) zs_blind (zs_ob hh60 ha (show RTg[11]? = some (0, 11, 0, fsX12) from rfl) (zCX12 hKn.1)) (fun U hU hW => ⟨rfl, by rw [hU]; exact hh60.l0, zKb s U hW.alike hKn, by rw [hU]; exact jv58⟩) hh60.2.2.1 hl.1 (Nat.le_of_ble_eq_true rfl) (eX12_readTime (236, .invokevirtual 309, 3) (List.mem_of_getElem? (i := 118) rfl)) (fun r63 s63 t63 lo63 g63 f63 l63 => ?_)
        obtain ⟨z63, v63, q63, e63⟩ := f63
        cases q63
        rw [z63, g63]
        have hh63 : zh_ok D cA RTg ro sz H0 t58.heap lo63 := ⟨hh60.1, hh60.2.1, l63, hh60.2.2.2⟩
        refine W.eq (g2 := F0 m 239 ls [.int v63]) rfl ?_
        refine ff_bipush hx hb (eX12_readTime (239, .bipush 43, 2) (List.mem_of_getElem? (i := 119) rfl)) (by decide) (by decide) (fun v64 e64 => ?_)
        refine ff_icmp_eq hx hb (eX12_readTime (241, .if_icmp .eq 12, 3) (List.mem_of_getElem? (i := 120) rfl)) (tgt := 253) rfl (fun c65 => ?_) (fun c65 => ?_)
        · skip
          have d66 : x58.2.2.1 < 0 ∧ (byI T x58.2.1 = 43 ∨ byI T x58.2.1 = 45) := by omega
          refine lv_aload_n hx hb (eX12_readTime (253, .aload_n 0, 1) (List.mem_of_getElem? (i := 125) rfl)) rfl (lv_at hl 1 rfl) ?_
          refine ff_bipush hx hb (eX12_readTime (254, .bipush 22, 2) (List.mem_of_getElem? (i := 126) rfl)) (by decide) (by decide) (fun v67 e67 => ?_)
          refine lv_aload_n hx hb (eX12_readTime (256, .aload_n 0, 1) (List.mem_of_getElem? (i := 127) rfl)) rfl (lv_at hl 1 rfl) ?_
          refine tz_rowV (As := []) (st := [.int v67, .ref a]) (b := a) (C := RX12) (Ts := gT) hx hb hml hown h2 (fun _ h => h) (hX12_sign l D cA ro sz H0 a T (x58.2) ha) ⟨rfl, rfl⟩ ⟨by decide, by decide⟩ ⟨by decide, by decide⟩ (tb_8 21 rfl rfl) (tb_1 12 rfl rfl) (tb_8 18 rfl rfl) (tb_8 20 rfl rfl) (tb_0 32 rfl rfl) (show yX12_sign.cls ≠ "java/lang/invoke/MethodHandle" ∧ yX12_sign.cls ≠ "java/lang/invoke/VarHandle" ∧ (parseMethodDescriptor yX12_sign.desc).map (fun d => d.parameters.length) = some 0 by decide +kernel) zs_blind (zs_ob hh63 ha (show RTg[11]? = some (0, 11, 0, fsX12) from rfl) (zCX12 hKn.1)) (fun U hU hW => ⟨rfl, by rw [hU]; exact hh63.l0, zKb s U hW.alike hKn, by rw [hU]; exact jv58⟩) hh63.2.2.1 hl.1 (Nat.le_of_ble_eq_true rfl) (eX12_readTime (257, .invokevirtual 309, 3) (List.mem_of_getElem? (i := 128) rfl)) (fun r68 s68 t68 lo68 g68 f68 l68 => ?_)
          obtain ⟨z68, v68, q68, e68⟩ := f68
          cases q68
          rw [z68, g68]
          have hh68 : zh_ok D cA RTg ro sz H0 t58.heap lo68 := ⟨hh63.1, hh63.2.1, l68, hh63.2.2.2⟩
          refine W.eq (g2 := F0 m 260 ls [.int v68, .int v67, .ref a]) rfl ?_
          refine ff_bipush hx hb (eX12_readTime (260, .bipush 45, 2) (List.mem_of_getElem? (i := 129) rfl)) (by decide) (by decide) (fun v69 e69 => ?_)
          refine ff_icmp_ne hx hb (eX12_readTime (262, .if_icmp .ne 7, 3) (List.mem_of_getElem? (i := 130) rfl)) (tgt := 269) rfl (fun c70 => ?_) (fun c70 => ?_)
          · skip
            have d71 : ¬ (byI T x58.2.1 = 45) := by omega
            refine ff_lconst hx hb (eX12_readTime (269, .lconst 0, 1) (List.mem_of_getElem? (i := 133) rfl)) rfl (fun v72 e72 => ?_)
            refine tz_rowV (As := [.int v67, .long v72]) (st := []) (b := a) (C := RX12) (Ts := gT) hx hb hml hown h2 (fun _ h => h) (hX12_set l D cA ro sz H0 a v67 v72 22 n fj h ha hn1 (by omega) (by decide)) ⟨rfl, rfl⟩ ⟨by decide, by decide⟩ ⟨by decide, by decide⟩ (tb_8 72 rfl rfl) (tb_1 12 rfl rfl) (tb_8 69 rfl rfl) (tb_8 71 rfl rfl) (tb_0 42 rfl rfl) (show yX12_set.cls ≠ "java/lang/invoke/MethodHandle" ∧ yX12_set.cls ≠ "java/lang/invoke/VarHandle" ∧ (parseMethodDescriptor yX12_set.desc).map (fun d => d.parameters.length) = some 2 by decide +kernel) zs_blind (zs_ob hh68 ha (show RTg[11]? = some (0, 11, 0, fsX12) from rfl) (zCX12 hKn.1)) (fun U hU hW => ⟨rfl, by rw [hU]; exact hh68.l0, zKb s U hW.alike hKn, by rw [hU]; exact jg58⟩) hh68.2.2.1 hl.1 (Nat.le_of_ble_eq_true rfl) (eX12_readTime (270, .invokevirtual 357, 3) (List.mem_of_getElem? (i := 134) rfl)) (fun r73 s73 t73 lo73 g73 f73 l73 => ?_)
            obtain ⟨q73, z73, c73, jg73⟩ := f73
            cases q73
            rw [g73] at c73
            have hh73 : zh_ok D cA RTg ro sz H0 t73.heap lo73 := ⟨z73.1, z73.2.1, l73, z73.2.2.2⟩
            have kp73 := kp58.trans (c73.mono (ms' := gM) (by decide))
            have jg73 : jG D cA ro t73.heap a n (upF fj 22 (0)) h := by rw [← show v72.toInt = 0 by omega]; exact jg73
            have jv73 := jv58.kept ha c73 (by decide)
            refine W.eq (g2 := F0 m 273 ls []) rfl ?_
            refine lv_aload_n hx hb (eX12_readTime (273, .aload_n 0, 1) (List.mem_of_getElem? (i := 135) rfl)) rfl (lv_at hl 1 rfl) ?_
            refine lv_dup hx hb (eX12_readTime (274, .dup, 1) (List.mem_of_getElem? (i := 136) rfl)) rfl ?_
            obtain ⟨jt74, ⟨av74, fv74, bv74, f2974, f3074, f3174, hav74, hfv74, hbv74⟩, hu74⟩ := id jv73
            refine tz_get (r := 11) (k := 29) (t := (0, 0, 120)) hx hb hh73 ha rfl rfl (hcl11 293 29 (0, 0, 120) (by decide) rfl).1 f2974 (eX12_readTime (275, .getfield 293, 3) (List.mem_of_getElem? (i := 137) rfl)) ?_
            refine ff_iconst hx hb (eX12_readTime (278, .iconst 1, 1) (List.mem_of_getElem? (i := 138) rfl)) (by decide) (by decide) (fun v75 e75 => ?_)
            have ha976 : av74.toInt + v75.toInt ≤ 121 ∧ 0 ≤ av74.toInt := by omega
            refine ff_iadd hx hb (eX12_readTime (279, .iadd, 1) (List.mem_of_getElem? (i := 139) rfl)) (by omega) (by omega) (fun v76 e76 => ?_)
            have hlt := byI_lt (T := T) (a := x58.2.1) (by omega) (by omega)
            refine tz_put (r := 11) (k := 29) (t := (0, 0, 120)) hx hb hD hh73 ha rfl rfl ((hcl11 293 29 (0, 0, 120) (by decide) rfl).2 (by decide)) (tz_i (by omega) (by omega)) (eX12_readTime (280, .putfield 293, 3) (List.mem_of_getElem? (i := 140) rfl)) (fun H77 lo77 hh77 hf77 hk77 _ hq77 => ?_)
            have mf77_a_30 := (hk77.1 a 11 30 11 0 fsX12 ha rfl (by decide) (by decide)).trans f3074
            have mf77_a_31 := (hk77.1 a 11 31 11 0 fsX12 ha rfl (by decide) (by decide)).trans f3174
            have kp77 := kp73.trans (hk77.mono (ms' := gM) (fun x hx => by cases List.mem_singleton.mp hx; decide))
            have jv77 : jV D cA ro H77 a T (x58.2.1 + 1, x58.2.2) := ⟨jv73.1.kept ha hk77 (by decide) (by decide) (by decide), ⟨_, _, _, hf77, mf77_a_30, mf77_a_31, by show _ = x58.2.1 + 1; omega, hfv74, hbv74⟩, adG_ok jv73.2.2 (by omega)⟩
            have jg77 := jg73.kept ha hk77 (by decide)
            have uv77 := jv77.2.2
            unfold vOK at uv77
            have bb77 := byI_bd T (x58.2.1 + 1, x58.2.2).1
            refine lv_aload_n hx hb (eX12_readTime (283, .aload_n 0, 1) (List.mem_of_getElem? (i := 141) rfl)) rfl (lv_at hl 1 rfl) ?_
            refine ff_bipush hx hb (eX12_readTime (284, .bipush 17, 2) (List.mem_of_getElem? (i := 142) rfl)) (by decide) (by decide) (fun v78 e78 => ?_)
            refine ff_ldc2 (n := 2) hx hb hown h2 (clX12_ok 105 2 (List.mem_of_getElem? (i := 7) rfl)) (eX12_readTime (286, .ldc2_w 105, 3) (List.mem_of_getElem? (i := 143) rfl)) (fun v79 e79 => ?_)
            refine tz_rowV (As := [.int v78, .long v79]) (st := []) (b := a) (C := RX12) (Ts := gT) hx hb hml hown h2 (fun _ h => h) (hX12_set l D cA ro sz H0 a v78 v79 17 n (upF fj 22 (0)) h ha hn1 (by omega) (by decide)) ⟨rfl, rfl⟩ ⟨by decide, by decide⟩ ⟨by decide, by decide⟩ (tb_8 72 rfl rfl) (tb_1 12 rfl rfl) (tb_8 69 rfl rfl) (tb_8 71 rfl rfl) (tb_0 42 rfl rfl) (show yX12_set.cls ≠ "java/lang/invoke/MethodHandle" ∧ yX12_set.cls ≠ "java/lang/invoke/VarHandle" ∧ (parseMethodDescriptor yX12_set.desc).map (fun d => d.parameters.length) = some 2 by decide +kernel) zs_blind (zs_ob hh77 ha (show RTg[11]? = some (0, 11, 0, fsX12) from rfl) (zCX12 hKn.1)) (fun U hU hW => ⟨rfl, by rw [hU]; exact hh77.l0, zKb s U hW.alike hKn, by rw [hU]; exact jg77⟩) hh77.2.2.1 hl.1 (Nat.le_of_ble_eq_true rfl) (eX12_readTime (289, .invokevirtual 357, 3) (List.mem_of_getElem? (i := 144) rfl)) (fun r80 s80 t80 lo80 g80 f80 l80 => ?_)
            obtain ⟨q80, z80, c80, jg80⟩ := f80
            cases q80
            rw [g80] at c80
            have hh80 : zh_ok D cA RTg ro sz H0 t80.heap lo80 := ⟨z80.1, z80.2.1, l80, z80.2.2.2⟩
            have kp80 := kp77.trans (c80.mono (ms' := gM) (by decide))
            have jg80 : jG D cA ro t80.heap a n (upF (upF fj 22 (0)) 17 (2)) h := by rw [← show v79.toInt = 2 by omega]; exact jg80
            have jv80 := jv77.kept ha c80 (by decide)
            refine W.eq (g2 := F0 m 292 ls []) rfl ?_
            refine lv_aload_n hx hb (eX12_readTime (292, .aload_n 0, 1) (List.mem_of_getElem? (i := 145) rfl)) rfl (lv_at hl 1 rfl) ?_
            refine ff_bipush hx hb (eX12_readTime (293, .bipush 18, 2) (List.mem_of_getElem? (i := 146) rfl)) (by decide) (by decide) (fun v81 e81 => ?_)
            refine tz_rowV (As := [.int v81]) (st := []) (b := a) (C := RX12) (Ts := gT) hx hb hml hown h2 (fun _ h => h) (hX12_timeNumber l D cA ro sz H0 a v81 18 T ((x58.2.1 + 1, x58.2.2)) n (upF (upF fj 22 (0)) 17 (2)) h ha hn1 hT (by omega) (by decide)) ⟨rfl, rfl⟩ ⟨by decide, by decide⟩ ⟨by decide, by decide⟩ (tb_8 80 rfl rfl) (tb_1 12 rfl rfl) (tb_8 77 rfl rfl) (tb_8 79 rfl rfl) (tb_0 44 rfl rfl) (show yX12_timeNumber.cls ≠ "java/lang/invoke/MethodHandle" ∧ yX12_timeNumber.cls ≠ "java/lang/invoke/VarHandle" ∧ (parseMethodDescriptor yX12_timeNumber.desc).map (fun d => d.parameters.length) = some 1 by decide +kernel) zs_blind (zs_ob hh80 ha (show RTg[11]? = some (0, 11, 0, fsX12) from rfl) (zCX12 hKn.1)) (fun U hU hW => ⟨rfl, by rw [hU]; exact hh80.l0, zKb s U hW.alike hKn, by rw [hU]; exact ⟨jv80, jg80⟩⟩) hh80.2.2.1 hl.1 (Nat.le_of_ble_eq_true rfl) (eX12_readTime (295, .invokevirtual 377, 3) (List.mem_of_getElem? (i := 147) rfl)) (fun r82 s82 t82 lo82 g82 f82 l82 => ?_)
            obtain ⟨q82, z82, c82, jv82, jg82⟩ := f82
            cases q82
            rw [g82] at c82
            have hh82 : zh_ok D cA RTg ro sz H0 t82.heap lo82 := ⟨z82.1, z82.2.1, l82, z82.2.2.2⟩
            have kp82 := kp80.trans (c82.mono (ms' := gM) (by decide))
            generalize hx82 : nuG T 18 2 ((upF (upF fj 22 (0)) 17 (2)), (x58.2.1 + 1, x58.2.2)) = x82 at jv82 jg82
            have uu82 := jv82.2.2
            unfold vOK at uu82
            have bb82 := byI_bd T x82.2.1
            refine W.eq (g2 := F0 m 298 ls []) rfl ?_
            exact jn298 x82.1 x82.2 wv wa ls _ _ hh82 kp82 jv82 jg82 (by omega) (by rw [← htot]; first | (simp only [tzG, tz0G, tz1G, ad1, hx58, hx82, if_neg d58, if_pos d66, if_neg d71, up_eq]; done) | (simp only [tzG, tz0G, tz1G, ad1, hx58, hx82, if_neg d58, if_pos d66, if_neg d71, up_eq] <;> rfl) | rfl) (lv_sub hl [0, 1, 2] rfl)
          · skip
            have d83 : byI T x58.2.1 = 45 := by omega
            refine ff_lconst hx hb (eX12_readTime (265, .lconst 1, 1) (List.mem_of_getElem? (i := 131) rfl)) rfl (fun v84 e84 => ?_)
            refine lv_goto hx hb (eX12_readTime (266, .goto 4, 3) (List.mem_of_getElem? (i := 132) rfl)) (tgt := 270) rfl ?_
            refine tz_rowV (As := [.int v67, .long v84]) (st := []) (b := a) (C := RX12) (Ts := gT) hx hb hml hown h2 (fun _ h => h) (hX12_set l D cA ro sz H0 a v67 v84 22 n fj h ha hn1 (by omega) (by decide)) ⟨rfl, rfl⟩ ⟨by decide, by decide⟩ ⟨by decide, by decide⟩ (tb_8 72 rfl rfl) (tb_1 12 rfl rfl) (tb_8 69 rfl rfl) (tb_8 71 rfl rfl) (tb_0 42 rfl rfl) (show yX12_set.cls ≠ "java/lang/invoke/MethodHandle" ∧ yX12_set.cls ≠ "java/lang/invoke/VarHandle" ∧ (parseMethodDescriptor yX12_set.desc).map (fun d => d.parameters.length) = some 2 by decide +kernel) zs_blind (zs_ob hh68 ha (show RTg[11]? = some (0, 11, 0, fsX12) from rfl) (zCX12 hKn.1)) (fun U hU hW => ⟨rfl, by rw [hU]; exact hh68.l0, zKb s U hW.alike hKn, by rw [hU]; exact jg58⟩) hh68.2.2.1 hl.1 (Nat.le_of_ble_eq_true rfl) (eX12_readTime (270, .invokevirtual 357, 3) (List.mem_of_getElem? (i := 134) rfl)) (fun r85 s85 t85 lo85 g85 f85 l85 => ?_)
            obtain ⟨q85, z85, c85, jg85⟩ := f85
            cases q85
            rw [g85] at c85
            have hh85 : zh_ok D cA RTg ro sz H0 t85.heap lo85 := ⟨z85.1, z85.2.1, l85, z85.2.2.2⟩
            have kp85 := kp58.trans (c85.mono (ms' := gM) (by decide))
            have jg85 : jG D cA ro t85.heap a n (upF fj 22 (1)) h := by rw [← show v84.toInt = 1 by omega]; exact jg85
            have jv85 := jv58.kept ha c85 (by decide)
            refine W.eq (g2 := F0 m 273 ls []) rfl ?_
            refine lv_aload_n hx hb (eX12_readTime (273, .aload_n 0, 1) (List.mem_of_getElem? (i := 135) rfl)) rfl (lv_at hl 1 rfl) ?_
            refine lv_dup hx hb (eX12_readTime (274, .dup, 1) (List.mem_of_getElem? (i := 136) rfl)) rfl ?_
            obtain ⟨jt86, ⟨av86, fv86, bv86, f2986, f3086, f3186, hav86, hfv86, hbv86⟩, hu86⟩ := id jv85
            refine tz_get (r := 11) (k := 29) (t := (0, 0, 120)) hx hb hh85 ha rfl rfl (hcl11 293 29 (0, 0, 120) (by decide) rfl).1 f2986 (eX12_readTime (275, .getfield 293, 3) (List.mem_of_getElem? (i := 137) rfl)) ?_
            refine ff_iconst hx hb (eX12_readTime (278, .iconst 1, 1) (List.mem_of_getElem? (i := 138) rfl)) (by decide) (by decide) (fun v87 e87 => ?_)
            have ha988 : av86.toInt + v87.toInt ≤ 121 ∧ 0 ≤ av86.toInt := by omega
            refine ff_iadd hx hb (eX12_readTime (279, .iadd, 1) (List.mem_of_getElem? (i := 139) rfl)) (by omega) (by omega) (fun v88 e88 => ?_)
            have hlt := byI_lt (T := T) (a := x58.2.1) (by omega) (by omega)
            refine tz_put (r := 11) (k := 29) (t := (0, 0, 120)) hx hb hD hh85 ha rfl rfl ((hcl11 293 29 (0, 0, 120) (by decide) rfl).2 (by decide)) (tz_i (by omega) (by omega)) (eX12_readTime (280, .putfield 293, 3) (List.mem_of_getElem? (i := 140) rfl)) (fun H89 lo89 hh89 hf89 hk89 _ hq89 => ?_)
            have mf89_a_30 := (hk89.1 a 11 30 11 0 fsX12 ha rfl (by decide) (by decide)).trans f3086
            have mf89_a_31 := (hk89.1 a 11 31 11 0 fsX12 ha rfl (by decide) (by decide)).trans f3186
            have kp89 := kp85.trans (hk89.mono (ms' := gM) (fun x hx => by cases List.mem_singleton.mp hx; decide))
            have jv89 : jV D cA ro H89 a T (x58.2.1 + 1, x58.2.2) := ⟨jv85.1.kept ha hk89 (by decide) (by decide) (by decide), ⟨_, _, _, hf89, mf89_a_30, mf89_a_31, by show _ = x58.2.1 + 1; omega, hfv86, hbv86⟩, adG_ok jv85.2.2 (by omega)⟩
            have jg89 := jg85.kept ha hk89 (by decide)
            have uv89 := jv89.2.2
            unfold vOK at uv89
            have bb89 := byI_bd T (x58.2.1 + 1, x58.2.2).1
            refine lv_aload_n hx hb (eX12_readTime (283, .aload_n 0, 1) (List.mem_of_getElem? (i := 141) rfl)) rfl (lv_at hl 1 rfl) ?_
            refine ff_bipush hx hb (eX12_readTime (284, .bipush 17, 2) (List.mem_of_getElem? (i := 142) rfl)) (by decide) (by decide) (fun v90 e90 => ?_)
            refine ff_ldc2 (n := 2) hx hb hown h2 (clX12_ok 105 2 (List.mem_of_getElem? (i := 7) rfl)) (eX12_readTime (286, .ldc2_w 105, 3) (List.mem_of_getElem? (i := 143) rfl)) (fun v91 e91 => ?_)
            refine tz_rowV (As := [.int v90, .long v91]) (st := []) (b := a) (C := RX12) (Ts := gT) hx hb hml hown h2 (fun _ h => h) (hX12_set l D cA ro sz H0 a v90 v91 17 n (upF fj 22 (1)) h ha hn1 (by omega) (by decide)) ⟨rfl, rfl⟩ ⟨by decide, by decide⟩ ⟨by decide, by decide⟩ (tb_8 72 rfl rfl) (tb_1 12 rfl rfl) (tb_8 69 rfl rfl) (tb_8 71 rfl rfl) (tb_0 42 rfl rfl) (show yX12_set.cls ≠ "java/lang/invoke/MethodHandle" ∧ yX12_set.cls ≠ "java/lang/invoke/VarHandle" ∧ (parseMethodDescriptor yX12_set.desc).map (fun d => d.parameters.length) = some 2 by decide +kernel) zs_blind (zs_ob hh89 ha (show RTg[11]? = some (0, 11, 0, fsX12) from rfl) (zCX12 hKn.1)) (fun U hU hW => ⟨rfl, by rw [hU]; exact hh89.l0, zKb s U hW.alike hKn, by rw [hU]; exact jg89⟩) hh89.2.2.1 hl.1 (Nat.le_of_ble_eq_true rfl) (eX12_readTime (289, .invokevirtual 357, 3) (List.mem_of_getElem? (i := 144) rfl)) (fun r92 s92 t92 lo92 g92 f92 l92 => ?_)
            obtain ⟨q92, z92, c92, jg92⟩ := f92
            cases q92
            rw [g92] at c92
            have hh92 : zh_ok D cA RTg ro sz H0 t92.heap lo92 := ⟨z92.1, z92.2.1, l92, z92.2.2.2⟩
            have kp92 := kp89.trans (c92.mono (ms' := gM) (by decide))
            have jg92 : jG D cA ro t92.heap a n (upF (upF fj 22 (1)) 17 (2)) h := by rw [← show v91.toInt = 2 by omega]; exact jg92
            have jv92 := jv89.kept ha c92 (by decide)
            refine W.eq (g2 := F0 m 292 ls []) rfl ?_
            refine lv_aload_n hx hb (eX12_readTime (292, .aload_n 0, 1) (List.mem_of_getElem? (i := 145) rfl)) rfl (lv_at hl 1 rfl) ?_
            refine ff_bipush hx hb (eX12_readTime (293, .bipush 18, 2) (List.mem_of_getElem? (i := 146) rfl)) (by decide) (by decide) (fun v93 e93 => ?_)
            refine tz_rowV (As := [.int v93]) (st := []) (b := a) (C := RX12) (Ts := gT) hx hb hml hown h2 (fun _ h => h) (hX12_timeNumber l D cA ro sz H0 a v93 18 T ((x58.2.1 + 1, x58.2.2)) n (upF (upF fj 22 (1)) 17 (2)) h ha hn1 hT (by omega) (by decide)) ⟨rfl, rfl⟩ ⟨by decide, by decide⟩ ⟨by decide, by decide⟩ (tb_8 80 rfl rfl) (tb_1 12 rfl rfl) (tb_8 77 rfl rfl) (tb_8 79 rfl rfl) (tb_0 44 rfl rfl) (show yX12_timeNumber.cls ≠ "java/lang/invoke/MethodHandle" ∧ yX12_timeNumber.cls ≠ "java/lang/invoke/VarHandle" ∧ (parseMethodDescriptor yX12_timeNumber.desc).map (fun d => d.parameters.length) = some 1 by decide +kernel) zs_blind (zs_ob hh92 ha (show RTg[11]? = some (0, 11, 0, fsX12) from rfl) (zCX12 hKn.1)) (fun U hU hW => ⟨rfl, by rw [hU]; exact hh92.l0, zKb s U hW.alike hKn, by rw [hU]; exact ⟨jv92, jg92⟩⟩) hh92.2.2.1 hl.1 (Nat.le_of_ble_eq_true rfl) (eX12_readTime (295, .invokevirtual 377, 3) (List.mem_of_getElem? (i := 147) rfl)) (fun r94 s94 t94 lo94 g94 f94 l94 => ?_)
            obtain ⟨q94, z94, c94, jv94, jg94⟩ := f94
            cases q94
            rw [g94] at c94
            have hh94 : zh_ok D cA RTg ro sz H0 t94.heap lo94 := ⟨z94.1, z94.2.1, l94, z94.2.2.2⟩
            have kp94 := kp92.trans (c94.mono (ms' := gM) (by decide))
            generalize hx94 : nuG T 18 2 ((upF (upF fj 22 (1)) 17 (2)), (x58.2.1 + 1, x58.2.2)) = x94 at jv94 jg94
            have uu94 := jv94.2.2
            unfold vOK at uu94
            have bb94 := byI_bd T x94.2.1
            refine W.eq (g2 := F0 m 298 ls []) rfl ?_
            exact jn298 x94.1 x94.2 wv wa ls _ _ hh94 kp94 jv94 jg94 (by omega) (by rw [← htot]; first | (simp only [tzG, tz0G, tz1G, ad1, hx58, hx94, if_neg d58, if_pos d66, if_pos d83, up_eq]; done) | (simp only [tzG, tz0G, tz1G, ad1, hx58, hx94, if_neg d58, if_pos d66, if_pos d83, up_eq] <;> rfl) | rfl) (lv_sub hl [0, 1, 2] rfl)
        · skip
          refine lv_aload_n hx hb (eX12_readTime (244, .aload_n 0, 1) (List.mem_of_getElem? (i := 121) rfl)) rfl (lv_at hl 1 rfl) ?_
          refine tz_rowV (As := []) (st := []) (b := a) (C := RX12) (Ts := gT) hx hb hml hown h2 (fun _ h => h) (hX12_sign l D cA ro sz H0 a T (x58.2) ha) ⟨rfl, rfl⟩ ⟨by decide, by decide⟩ ⟨by decide, by decide⟩ (tb_8 21 rfl rfl) (tb_1 12 rfl rfl) (tb_8 18 rfl rfl) (tb_8 20 rfl rfl) (tb_0 32 rfl rfl) (show yX12_sign.cls ≠ "java/lang/invoke/MethodHandle" ∧ yX12_sign.cls ≠ "java/lang/invoke/VarHandle" ∧ (parseMethodDescriptor yX12_sign.desc).map (fun d => d.parameters.length) = some 0 by decide +kernel) zs_blind (zs_ob hh63 ha (show RTg[11]? = some (0, 11, 0, fsX12) from rfl) (zCX12 hKn.1)) (fun U hU hW => ⟨rfl, by rw [hU]; exact hh63.l0, zKb s U hW.alike hKn, by rw [hU]; exact jv58⟩) hh63.2.2.1 hl.1 (Nat.le_of_ble_eq_true rfl) (eX12_readTime (245, .invokevirtual 309, 3) (List.mem_of_getElem? (i := 122) rfl)) (fun r95 s95 t95 lo95 g95 f95 l95 => ?_)
          obtain ⟨z95, v95, q95, e95⟩ := f95
          cases q95
          rw [z95, g95]
          have hh95 : zh_ok D cA RTg ro sz H0 t58.heap lo95 := ⟨hh63.1, hh63.2.1, l95, hh63.2.2.2⟩
          refine W.eq (g2 := F0 m 248 ls [.int v95]) rfl ?_
          refine ff_bipush hx hb (eX12_readTime (248, .bipush 45, 2) (List.mem_of_getElem? (i := 123) rfl)) (by decide) (by decide) (fun v96 e96 => ?_)
          refine ff_icmp_ne hx hb (eX12_readTime (250, .if_icmp .ne 116, 3) (List.mem_of_getElem? (i := 124) rfl)) (tgt := 366) rfl (fun c97 => ?_) (fun c97 => ?_)
          · skip
            have d98 : ¬ (x58.2.2.1 < 0 ∧ (byI T x58.2.1 = 43 ∨ byI T x58.2.1 = 45)) := by omega
            have hfin : trG T mo (g, sg) = (fj, x58.2) := by rw [← htot]; first | (simp only [tzG, tz0G, tz1G, tz2G, ad1, hx58, if_neg d58, if_neg d98, up_eq]; done) | (simp only [tzG, tz0G, tz1G, tz2G, ad1, hx58, if_neg d58, if_neg d98, up_eq] <;> rfl) | rfl
            exact W.vret hx hb hr (fun t ht hW => ⟨rfl, by rw [ht]; exact hh95.l0, by rw [ht]; exact kp58, by rw [ht, hfin]; exact jv58, by rw [ht, hfin]; exact jg58⟩) hh95.2.2.1 (eX12_readTime (366, .return_, 1) (List.mem_of_getElem? (i := 181) rfl))
          · skip
            have d99 : x58.2.2.1 < 0 ∧ (byI T x58.2.1 = 43 ∨ byI T x58.2.1 = 45) := by omega
            refine lv_aload_n hx hb (eX12_readTime (253, .aload_n 0, 1) (List.mem_of_getElem? (i := 125) rfl)) rfl (lv_at hl 1 rfl) ?_
            refine ff_bipush hx hb (eX12_readTime (254, .bipush 22, 2) (List.mem_of_getElem? (i := 126) rfl)) (by decide) (by decide) (fun v100 e100 => ?_)
            refine lv_aload_n hx hb (eX12_readTime (256, .aload_n 0, 1) (List.mem_of_getElem? (i := 127) rfl)) rfl (lv_at hl 1 rfl) ?_
            refine tz_rowV (As := []) (st := [.int v100, .ref a]) (b := a) (C := RX12) (Ts := gT) hx hb hml hown h2 (fun _ h => h) (hX12_sign l D cA ro sz H0 a T (x58.2) ha) ⟨rfl, rfl⟩ ⟨by decide, by decide⟩ ⟨by decide, by decide⟩ (tb_8 21 rfl rfl) (tb_1 12 rfl rfl) (tb_8 18 rfl rfl) (tb_8 20 rfl rfl) (tb_0 32 rfl rfl) (show yX12_sign.cls ≠ "java/lang/invoke/MethodHandle" ∧ yX12_sign.cls ≠ "java/lang/invoke/VarHandle" ∧ (parseMethodDescriptor yX12_sign.desc).map (fun d => d.parameters.length) = some 0 by decide +kernel) zs_blind (zs_ob hh95 ha (show RTg[11]? = some (0, 11, 0, fsX12) from rfl) (zCX12 hKn.1)) (fun U hU hW => ⟨rfl, by rw [hU]; exact hh95.l0, zKb s U hW.alike hKn, by rw [hU]; exact jv58⟩) hh95.2.2.1 hl.1 (Nat.le_of_ble_eq_true rfl) (eX12_readTime (257, .invokevirtual 309, 3) (List.mem_of_getElem? (i := 128) rfl)) (fun r101 s101 t101 lo101 g101 f101 l101 => ?_)
            obtain ⟨z101, v101, q101, e101⟩ := f101
            cases q101
            rw [z101, g101]
            have hh101 : zh_ok D cA RTg ro sz H0 t58.heap lo101 := ⟨hh95.1, hh95.2.1, l101, hh95.2.2.2⟩
            refine W.eq (g2 := F0 m 260 ls [.int v101, .int v100, .ref a]) rfl ?_
            refine ff_bipush hx hb (eX12_readTime (260, .bipush 45, 2) (List.mem_of_getElem? (i := 129) rfl)) (by decide) (by decide) (fun v102 e102 => ?_)
            refine ff_icmp_ne hx hb (eX12_readTime (262, .if_icmp .ne 7, 3) (List.mem_of_getElem? (i := 130) rfl)) (tgt := 269) rfl (fun c103 => ?_) (fun c103 => ?_)
            · skip
              have d104 : ¬ (byI T x58.2.1 = 45) := by omega
              refine ff_lconst hx hb (eX12_readTime (269, .lconst 0, 1) (List.mem_of_getElem? (i := 133) rfl)) rfl (fun v105 e105 => ?_)
              refine tz_rowV (As := [.int v100, .long v105]) (st := []) (b := a) (C := RX12) (Ts := gT) hx hb hml hown h2 (fun _ h => h) (hX12_set l D cA ro sz H0 a v100 v105 22 n fj h ha hn1 (by omega) (by decide)) ⟨rfl, rfl⟩ ⟨by decide, by decide⟩ ⟨by decide, by decide⟩ (tb_8 72 rfl rfl) (tb_1 12 rfl rfl) (tb_8 69 rfl rfl) (tb_8 71 rfl rfl) (tb_0 42 rfl rfl) (show yX12_set.cls ≠ "java/lang/invoke/MethodHandle" ∧ yX12_set.cls ≠ "java/lang/invoke/VarHandle" ∧ (parseMethodDescriptor yX12_set.desc).map (fun d => d.parameters.length) = some 2 by decide +kernel) zs_blind (zs_ob hh101 ha (show RTg[11]? = some (0, 11, 0, fsX12) from rfl) (zCX12 hKn.1)) (fun U hU hW => ⟨rfl, by rw [hU]; exact hh101.l0, zKb s U hW.alike hKn, by rw [hU]; exact jg58⟩) hh101.2.2.1 hl.1 (Nat.le_of_ble_eq_true rfl) (eX12_readTime (270, .invokevirtual 357, 3) (List.mem_of_getElem? (i := 134) rfl)) (fun r106 s106 t106 lo106 g106 f106 l106 => ?_)
              obtain ⟨q106, z106, c106, jg106⟩ := f106
              cases q106
              rw [g106] at c106
              have hh106 : zh_ok D cA RTg ro sz H0 t106.heap lo106 := ⟨z106.1, z106.2.1, l106, z106.2.2.2⟩
              have kp106 := kp58.trans (c106.mono (ms' := gM) (by decide))
              have jg106 : jG D cA ro t106.heap a n (upF fj 22 (0)) h := by rw [← show v105.toInt = 0 by omega]; exact jg106
              have jv106 := jv58.kept ha c106 (by decide)
              refine W.eq (g2 := F0 m 273 ls []) rfl ?_
              refine lv_aload_n hx hb (eX12_readTime (273, .aload_n 0, 1) (List.mem_of_getElem? (i := 135) rfl)) rfl (lv_at hl 1 rfl) ?_
              refine lv_dup hx hb (eX12_readTime (274, .dup, 1) (List.mem_of_getElem? (i := 136) rfl)) rfl ?_
              obtain ⟨jt107, ⟨av107, fv107, bv107, f29107, f30107, f31107, hav107, hfv107, hbv107⟩, hu107⟩ := id jv106
              refine tz_get (r := 11) (k := 29) (t := (0, 0, 120)) hx hb hh106 ha rfl rfl (hcl11 293 29 (0, 0, 120) (by decide) rfl).1 f29107 (eX12_readTime (275, .getfield 293, 3) (List.mem_of_getElem? (i := 137) rfl)) ?_
              refine ff_iconst hx hb (eX12_readTime (278, .iconst 1, 1) (List.mem_of_getElem? (i := 138) rfl)) (by decide) (by decide) (fun v108 e108 => ?_)
              have ha9109 : av107.toInt + v108.toInt ≤ 121 ∧ 0 ≤ av107.toInt := by omega
              refine ff_iadd hx hb (eX12_readTime (279, .iadd, 1) (List.mem_of_getElem? (i := 139) rfl)) (by omega) (by omega) (fun v109 e109 => ?_)
              have hlt := byI_lt (T := T) (a := x58.2.1) (by omega) (by omega)
              refine tz_put (r := 11) (k := 29) (t := (0, 0, 120)) hx hb hD hh106 ha rfl rfl ((hcl11 293 29 (0, 0, 120) (by decide) rfl).2 (by decide)) (tz_i (by omega) (by omega)) (eX12_readTime (280, .putfield 293, 3) (List.mem_of_getElem? (i := 140) rfl)) (fun H110 lo110 hh110 hf110 hk110 _ hq110 => ?_)
              have mf110_a_30 := (hk110.1 a 11 30 11 0 fsX12 ha rfl (by decide) (by decide)).trans f30107
              have mf110_a_31 := (hk110.1 a 11 31 11 0 fsX12 ha rfl (by decide) (by decide)).trans f31107
              have kp110 := kp106.trans (hk110.mono (ms' := gM) (fun x hx => by cases List.mem_singleton.mp hx; decide))
              have jv110 : jV D cA ro H110 a T (x58.2.1 + 1, x58.2.2) := ⟨jv106.1.kept ha hk110 (by decide) (by decide) (by decide), ⟨_, _, _, hf110, mf110_a_30, mf110_a_31, by show _ = x58.2.1 + 1; omega, hfv107, hbv107⟩, adG_ok jv106.2.2 (by omega)⟩
              have jg110 := jg106.kept ha hk110 (by decide)
              have uv110 := jv110.2.2
              unfold vOK at uv110
              have bb110 := byI_bd T (x58.2.1 + 1, x58.2.2).1
              refine lv_aload_n hx hb (eX12_readTime (283, .aload_n 0, 1) (List.mem_of_getElem? (i := 141) rfl)) rfl (lv_at hl 1 rfl) ?_
              refine ff_bipush hx hb (eX12_readTime (284, .bipush 17, 2) (List.mem_of_getElem? (i := 142) rfl)) (by decide) (by decide) (fun v111 e111 => ?_)
              refine ff_ldc2 (n := 2) hx hb hown h2 (clX12_ok 105 2 (List.mem_of_getElem? (i := 7) rfl)) (eX12_readTime (286, .ldc2_w 105, 3) (List.mem_of_getElem? (i := 143) rfl)) (fun v112 e112 => ?_)
              refine tz_rowV (As := [.int v111, .long v112]) (st := []) (b := a) (C := RX12) (Ts := gT) hx hb hml hown h2 (fun _ h => h) (hX12_set l D cA ro sz H0 a v111 v112 17 n (upF fj 22 (0)) h ha hn1 (by omega) (by decide)) ⟨rfl, rfl⟩ ⟨by decide, by decide⟩ ⟨by decide, by decide⟩ (tb_8 72 rfl rfl) (tb_1 12 rfl rfl) (tb_8 69 rfl rfl) (tb_8 71 rfl rfl) (tb_0 42 rfl rfl) (show yX12_set.cls ≠ "java/lang/invoke/MethodHandle" ∧ yX12_set.cls ≠ "java/lang/invoke/VarHandle" ∧ (parseMethodDescriptor yX12_set.desc).map (fun d => d.parameters.length) = some 2 by decide +kernel) zs_blind (zs_ob hh110 ha (show RTg[11]? = some (0, 11, 0, fsX12) from rfl) (zCX12 hKn.1)) (fun U hU hW => ⟨rfl, by rw [hU]; exact hh110.l0, zKb s U hW.alike hKn, by rw [hU]; exact jg110⟩) hh110.2.2.1 hl.1 (Nat.le_of_ble_eq_true rfl) (eX12_readTime (289, .invokevirtual 357, 3) (List.mem_of_getElem? (i := 144) rfl)) (fun r113 s113 t113 lo113 g113 f113 l113 => ?_)
              obtain ⟨q113, z113, c113, jg113⟩ := f113
              cases q113
              rw [g113] at c113
              have hh113 : zh_ok D cA RTg ro sz H0 t113.heap lo113 := ⟨z113.1, z113.2.1, l113, z113.2.2.2⟩
              have kp113 := kp110.trans (c113.mono (ms' := gM) (by decide))
              have jg113 : jG D cA ro t113.heap a n (upF (upF fj 22 (0)) 17 (2)) h := by rw [← show v112.toInt = 2 by omega]; exact jg113
              have jv113 := jv110.kept ha c113 (by decide)
              refine W.eq (g2 := F0 m 292 ls []) rfl ?_
              refine lv_aload_n hx hb (eX12_readTime (292, .aload_n 0, 1) (List.mem_of_getElem? (i := 145) rfl)) rfl (lv_at hl 1 rfl) ?_
              refine ff_bipush hx hb (eX12_readTime (293, .bipush 18, 2) (List.mem_of_getElem? (i := 146) rfl)) (by decide) (by decide) (fun v114 e114 => ?_)
              refine tz_rowV (As := [.int v114]) (st := []) (b := a) (C := RX12) (Ts := gT) hx hb hml hown h2 (fun _ h => h) (hX12_timeNumber l D cA ro sz H0 a v114 18 T ((x58.2.1 + 1, x58.2.2)) n (upF (upF fj 22 (0)) 17 (2)) h ha hn1 hT (by omega) (by decide)) ⟨rfl, rfl⟩ ⟨by decide, by decide⟩ ⟨by decide, by decide⟩ (tb_8 80 rfl rfl) (tb_1 12 rfl rfl) (tb_8 77 rfl rfl) (tb_8 79 rfl rfl) (tb_0 44 rfl rfl) (show yX12_timeNumber.cls ≠ "java/lang/invoke/MethodHandle" ∧ yX12_timeNumber.cls ≠ "java/lang/invoke/VarHandle" ∧ (parseMethodDescriptor yX12_timeNumber.desc).map (fun d => d.parameters.length) = some 1 by decide +kernel) zs_blind (zs_ob hh113 ha (show RTg[11]? = some (0, 11, 0, fsX12) from rfl) (zCX12 hKn.1)) (fun U hU hW => ⟨rfl, by rw [hU]; exact hh113.l0, zKb s U hW.alike hKn, by rw [hU]; exact ⟨jv113, jg113⟩⟩) hh113.2.2.1 hl.1 (Nat.le_of_ble_eq_true rfl) (eX12_readTime (295, .invokevirtual 377, 3) (List.mem_of_getElem? (i := 147) rfl)) (fun r115 s115 t115 lo115 g115 f115 l115 => ?_)
              obtain ⟨q115, z115, c115, jv115, jg115⟩ := f115
              cases q115
              rw [g115] at c115
              have hh115 : zh_ok D cA RTg ro sz H0 t115.heap lo115 := ⟨z115.1, z115.2.1, l115, z115.2.2.2⟩
              have kp115 := kp113.trans (c115.mono (ms' := gM) (by decide))
              generalize hx115 : nuG T 18 2 ((upF (upF fj 22 (0)) 17 (2)), (x58.2.1 + 1, x58.2.2)) = x115 at jv115 jg115
              have uu115 := jv115.2.2
              unfold vOK at uu115
              have bb115 := byI_bd T x115.2.1
              refine W.eq (g2 := F0 m 298 ls []) rfl ?_
              exact jn298 x115.1 x115.2 wv wa ls _ _ hh115 kp115 jv115 jg115 (by omega) (by rw [← htot]; first | (simp only [tzG, tz0G, tz1G, ad1, hx58, hx115, if_neg d58, if_pos d99, if_neg d104, up_eq]; done) | (simp only [tzG, tz0G, tz1G, ad1, hx58, hx115, if_neg d58, if_pos d99, if_neg d104, up_eq] <;> rfl) | rfl) (lv_sub hl [0, 1, 2] rfl)
            · skip
              have d116 : byI T x58.2.1 = 45 := by omega
              refine ff_lconst hx hb (eX12_readTime (265, .lconst 1, 1) (List.mem_of_getElem? (i := 131) rfl)) rfl (fun v117 e117 => ?_)
              refine lv_goto hx hb (eX12_readTime (266, .goto 4, 3) (List.mem_of_getElem? (i := 132) rfl)) (tgt := 270) rfl ?_
              refine tz_rowV (As := [.int v100, .long v117]) (st := []) (b := a) (C := RX12) (Ts := gT) hx hb hml hown h2 (fun _ h => h) (hX12_set l D cA ro sz H0 a v100 v117 22 n fj h ha hn1 (by omega) (by decide)) ⟨rfl, rfl⟩ ⟨by decide, by decide⟩ ⟨by decide, by decide⟩ (tb_8 72 rfl rfl) (tb_1 12 rfl rfl) (tb_8 69 rfl rfl) (tb_8 71 rfl rfl) (tb_0 42 rfl rfl) (show yX12_set.cls ≠ "java/lang/invoke/MethodHandle" ∧ yX12_set.cls ≠ "java/lang/invoke/VarHandle" ∧ (parseMethodDescriptor yX12_set.desc).map (fun d => d.parameters.length) = some 2 by decide +kernel) zs_blind (zs_ob hh101 ha (show RTg[11]? = some (0, 11, 0, fsX12) from rfl) (zCX12 hKn.1)) (fun U hU hW => ⟨rfl, by rw [hU]; exact hh101.l0, zKb s U hW.alike hKn, by rw [hU]; exact jg58⟩) hh101.2.2.1 hl.1 (Nat.le_of_ble_eq_true rfl) (eX12_readTime (270, .invokevirtual 357, 3) (List.mem_of_getElem? (i := 134) rfl)) (fun r118 s118 t118 lo118 g118 f118 l118 => ?_)
              obtain ⟨q118, z118, c118, jg118⟩ := f118
              cases q118
              rw [g118] at c118
              have hh118 : zh_ok D cA RTg ro sz H0 t118.heap lo118 := ⟨z118.1, z118.2.1, l118, z118.2.2.2⟩
              have kp118 := kp58.trans (c118.mono (ms' := gM) (by decide))
              have jg118 : jG D cA ro t118.heap a n (upF fj 22 (1)) h := by rw [← show v117.toInt = 1 by omega]; exact jg118
              have jv118 := jv58.kept ha c118 (by decide)
              refine W.eq (g2 := F0 m 273 ls []) rfl ?_
              refine lv_aload_n hx hb (eX12_readTime (273, .aload_n 0, 1) (List.mem_of_getElem? (i := 135) rfl)) rfl (lv_at hl 1 rfl) ?_
              refine lv_dup hx hb (eX12_readTime (274, .dup, 1) (List.mem_of_getElem? (i := 136) rfl)) rfl ?_
              obtain ⟨jt119, ⟨av119, fv119, bv119, f29119, f30119, f31119, hav119, hfv119, hbv119⟩, hu119⟩ := id jv118
              refine tz_get (r := 11) (k := 29) (t := (0, 0, 120)) hx hb hh118 ha rfl rfl (hcl11 293 29 (0, 0, 120) (by decide) rfl).1 f29119 (eX12_readTime (275, .getfield 293, 3) (List.mem_of_getElem? (i := 137) rfl)) ?_
              refine ff_iconst hx hb (eX12_readTime (278, .iconst 1, 1) (List.mem_of_getElem? (i := 138) rfl)) (by decide) (by decide) (fun v120 e120 => ?_)
              have ha9121 : av119.toInt + v120.toInt ≤ 121 ∧ 0 ≤ av119.toInt := by omega
              refine ff_iadd hx hb (eX12_readTime (279, .iadd, 1) (List.mem_of_getElem? (i := 139) rfl)) (by omega) (by omega) (fun v121 e121 => ?_)
              have hlt := byI_lt (T := T) (a := x58.2.1) (by omega) (by omega)
              refine tz_put (r := 11) (k := 29) (t := (0, 0, 120)) hx hb hD hh118 ha rfl rfl ((hcl11 293 29 (0, 0, 120) (by decide) rfl).2 (by decide)) (tz_i (by omega) (by omega)) (eX12_readTime (280, .putfield 293, 3) (List.mem_of_getElem? (i := 140) rfl)) (fun H122 lo122 hh122 hf122 hk122 _ hq122 => ?_)
              have mf122_a_30 := (hk122.1 a 11 30 11 0 fsX12 ha rfl (by decide) (by decide)).trans f30119
              have mf122_a_31 := (hk122.1 a 11 31 11 0 fsX12 ha rfl (by decide) (by decide)).trans f31119
              have kp122 := kp118.trans (hk122.mono (ms' := gM) (fun x hx => by cases List.mem_singleton.mp hx; decide))
              have jv122 : jV D cA ro H122 a T (x58.2.1 + 1, x58.2.2) := ⟨jv118.1.kept ha hk122 (by decide) (by decide) (by decide), ⟨_, _, _, hf122, mf122_a_30, mf122_a_31, by show _ = x58.2.1 + 1; omega, hfv119, hbv119⟩, adG_ok jv118.2.2 (by omega)⟩
              have jg122 := jg118.kept ha hk122 (by decide)
              have uv122 := jv122.2.2
              unfold vOK at uv122
              have bb122 := byI_bd T (x58.2.1 + 1, x58.2.2).1
              refine lv_aload_n hx hb (eX12_readTime (283, .aload_n 0, 1) (List.mem_of_getElem? (i := 141) rfl)) rfl (lv_at hl 1 rfl) ?_
              refine ff_bipush hx hb (eX12_readTime (284, .bipush 17, 2) (List.mem_of_getElem? (i := 142) rfl)) (by decide) (by decide) (fun v123 e123 => ?_)
              refine ff_ldc2 (n := 2) hx hb hown h2 (clX12_ok 105 2 (List.mem_of_getElem? (i := 7) rfl)) (eX12_readTime (286, .ldc2_w 105, 3) (List.mem_of_getElem? (i := 143) rfl)) (fun v124 e124 => ?_)
              refine tz_rowV (As := [.int v123, .long v124]) (st := []) (b := a) (C := RX12) (Ts := gT) hx hb hml hown h2 (fun _ h => h) (hX12_set l D cA ro sz H0 a v123 v124 17 n (upF fj 22 (1)) h ha hn1 (by omega) (by decide)) ⟨rfl, rfl⟩ ⟨by decide, by decide⟩ ⟨by decide, by decide⟩ (tb_8 72 rfl rfl) (tb_1 12 rfl rfl) (tb_8 69 rfl rfl) (tb_8 71 rfl rfl) (tb_0 42 rfl rfl) (show yX12_set.cls ≠ "java/lang/invoke/MethodHandle" ∧ yX12_set.cls ≠ "java/lang/invoke/VarHandle" ∧ (parseMethodDescriptor yX12_set.desc).map (fun d => d.parameters.length) = some 2 by decide +kernel) zs_blind (zs_ob hh122 ha (show RTg[11]? = some (0, 11, 0, fsX12) from rfl) (zCX12 hKn.1)) (fun U hU hW => ⟨rfl, by rw [hU]; exact hh122.l0, zKb s U hW.alike hKn, by rw [hU]; exact jg122⟩) hh122.2.2.1 hl.1 (Nat.le_of_ble_eq_true rfl) (eX12_readTime (289, .invokevirtual 357, 3) (List.mem_of_getElem? (i := 144) rfl)) (fun r125 s125 t125 lo125 g125 f125 l125 => ?_)
              obtain ⟨q125, z125, c125, jg125⟩ := f125
              cases q125
              rw [g125] at c125
              have hh125 : zh_ok D cA RTg ro sz H0 t125.heap lo125 := ⟨z125.1, z125.2.1, l125, z125.2.2.2⟩
              have kp125 := kp122.trans (c125.mono (ms' := gM) (by decide))
              have jg125 : jG D cA ro t125.heap a n (upF (upF fj 22 (1)) 17 (2)) h := by rw [← show v124.toInt = 2 by omega]; exact jg125
              have jv125 := jv122.kept ha c125 (by decide)
              refine W.eq (g2 := F0 m 292 ls []) rfl ?_
              refine lv_aload_n hx hb (eX12_readTime (292, .aload_n 0, 1) (List.mem_of_getElem? (i := 145) rfl)) rfl (lv_at hl 1 rfl) ?_
              refine ff_bipush hx hb (eX12_readTime (293, .bipush 18, 2) (List.mem_of_getElem? (i := 146) rfl)) (by decide) (by decide) (fun v126 e126 => ?_)
              refine tz_rowV (As := [.int v126]) (st := []) (b := a) (C := RX12) (Ts := gT) hx hb hml hown h2 (fun _ h => h) (hX12_timeNumber l D cA ro sz H0 a v126 18 T ((x58.2.1 + 1, x58.2.2)) n (upF (upF fj 22 (1)) 17 (2)) h ha hn1 hT (by omega) (by decide)) ⟨rfl, rfl⟩ ⟨by decide, by decide⟩ ⟨by decide, by decide⟩ (tb_8 80 rfl rfl) (tb_1 12 rfl rfl) (tb_8 77 rfl rfl) (tb_8 79 rfl rfl) (tb_0 44 rfl rfl) (show yX12_timeNumber.cls ≠ "java/lang/invoke/MethodHandle" ∧ yX12_timeNumber.cls ≠ "java/lang/invoke/VarHandle" ∧ (parseMethodDescriptor yX12_timeNumber.desc).map (fun d => d.parameters.length) = some 1 by decide +kernel) zs_blind (zs_ob hh125 ha (show RTg[11]? = some (0, 11, 0, fsX12) from rfl) (zCX12 hKn.1)) (fun U hU hW => ⟨rfl, by rw [hU]; exact hh125.l0, zKb s U hW.alike hKn, by rw [hU]; exact ⟨jv125, jg125⟩⟩) hh125.2.2.1 hl.1 (Nat.le_of_ble_eq_true rfl) (eX12_readTime (295, .invokevirtual 377, 3) (List.mem_of_getElem? (i := 147) rfl)) (fun r127 s127 t127 lo127 g127 f127 l127 => ?_)
              obtain ⟨q127, z127, c127, jv127, jg127⟩ := f127
              cases q127
              rw [g127] at c127
              have hh127 : zh_ok D cA RTg ro sz H0 t127.heap lo127 := ⟨z127.1, z127.2.1, l127, z127.2.2.2⟩
              have kp127 := kp125.trans (c127.mono (ms' := gM) (by decide))
              generalize hx127 : nuG T 18 2 ((upF (upF fj 22 (1)) 17 (2)), (x58.2.1 + 1, x58.2.2)) = x127 at jv127 jg127
              have uu127 := jv127.2.2
              unfold vOK at uu127
              have bb127 := byI_bd T x127.2.1
              refine W.eq (g2 := F0 m 298 ls []) rfl ?_
              exact jn298 x127.1 x127.2 wv wa ls _ _ hh127 kp127 jv127 jg127 (by omega) (by rw [← htot]; first | (simp only [tzG, tz0G, tz1G, ad1, hx58, hx127, if_neg d58, if_pos d99, if_pos d116, up_eq]; done) | (simp only [tzG, tz0G, tz1G, ad1, hx58, hx127, if_neg d58, if_pos d99, if_pos d116, up_eq] <;> rfl) | rfl) (lv_sub hl [0, 1, 2] rfl)
    · skip
      have d58 : x58.1 = 1 := by omega
      refine lv_aload_n hx hb (eX12_readTime (218, .aload_n 0, 1) (List.mem_of_getElem? (i := 109) rfl)) rfl (lv_at hl 1 rfl) ?_
      refine ff_bipush hx hb (eX12_readTime (219, .bipush 17, 2) (List.mem_of_getElem? (i := 110) rfl)) (by decide) (by decide) (fun v128 e128 => ?_)
      refine ff_lconst hx hb (eX12_readTime (221, .lconst 1, 1) (List.mem_of_getElem? (i := 111) rfl)) rfl (fun v129 e129 => ?_)
      refine tz_rowV (As := [.int v128, .long v129]) (st := []) (b := a) (C := RX12) (Ts := gT) hx hb hml hown h2 (fun _ h => h) (hX12_set l D cA ro sz H0 a v128 v129 17 n fj h ha hn1 (by omega) (by decide)) ⟨rfl, rfl⟩ ⟨by decide, by decide⟩ ⟨by decide, by decide⟩ (tb_8 72 rfl rfl) (tb_1 12 rfl rfl) (tb_8 69 rfl rfl) (tb_8 71 rfl rfl) (tb_0 42 rfl rfl) (show yX12_set.cls ≠ "java/lang/invoke/MethodHandle" ∧ yX12_set.cls ≠ "java/lang/invoke/VarHandle" ∧ (parseMethodDescriptor yX12_set.desc).map (fun d => d.parameters.length) = some 2 by decide +kernel) zs_blind (zs_ob hh58 ha (show RTg[11]? = some (0, 11, 0, fsX12) from rfl) (zCX12 hKn.1)) (fun U hU hW => ⟨rfl, by rw [hU]; exact hh58.l0, zKb s U hW.alike hKn, by rw [hU]; exact jg58⟩) hh58.2.2.1 hl.1 (Nat.le_of_ble_eq_true rfl) (eX12_readTime (222, .invokevirtual 357, 3) (List.mem_of_getElem? (i := 112) rfl)) (fun r130 s130 t130 lo130 g130 f130 l130 => ?_)
      obtain ⟨q130, z130, c130, jg130⟩ := f130
      cases q130
      rw [g130] at c130
      have hh130 : zh_ok D cA RTg ro sz H0 t130.heap lo130 := ⟨z130.1, z130.2.1, l130, z130.2.2.2⟩
      have kp130 := kp58.trans (c130.mono (ms' := gM) (by decide))
      have jg130 : jG D cA ro t130.heap a n (upF fj 17 (1)) h := by rw [← show v129.toInt = 1 by omega]; exact jg130
      have jv130 := jv58.kept ha c130 (by decide)
      refine W.eq (g2 := F0 m 225 ls []) rfl ?_
      refine lv_goto hx hb (eX12_readTime (225, .goto 141, 3) (List.mem_of_getElem? (i := 113) rfl)) (tgt := 366) rfl ?_
      have hfin : trG T mo (g, sg) = ((upF fj 17 (1)), x58.2) := by rw [← htot]; first | (simp only [tzG, tz0G, tz1G, tz2G, ad1, hx58, if_pos d58, up_eq]; done) | (simp only [tzG, tz0G, tz1G, tz2G, ad1, hx58, if_pos d58, up_eq] <;> rfl) | rfl
      exact W.vret hx hb hr (fun t ht hW => ⟨rfl, by rw [ht]; exact hh130.l0, by rw [ht]; exact kp130, by rw [ht, hfin]; exact jv130, by rw [ht, hfin]; exact jg130⟩) hh130.2.2.1 (eX12_readTime (366, .return_, 1) (List.mem_of_getElem? (i := 181) rfl))
  have jn164 : ∀ (fj : fN) (gj : uS) (wv : Int32) (wa : Int) (ls : Array Slot) (H : Heap) (lo0 : List Loc), zh_ok D cA RTg ro sz H0 H lo0 → zc_kept D RTg ro gM s.heap H → jV D cA ro H a T gj → jG D cA ro H a n fj h → wv.toInt = wa → tzG T wa (tpG T (fj, gj)) = trG T mo (g, sg) → lv_has ls 3 [(2, .int wv), (0, .ref a), (1, .int mv)] → W p l e (headSpec (gW yX12_readTime cX12_readTime 3 none) { frames := 3, cells := 0, slots := 0, locals := 64 }).room s m ([.ref a, .int mv] : List Value).toArray below meth c H lo0 0 0 (MQ below (rg_V D cA ro sz H0 gM a n T h (trG T mo (g, sg))) ([.ref a, .int mv] : List Value).toArray s 0 0 (zy_fr sz)) (F0 m 164 ls []) := by
    intro fj gj wv  wa  ls H lo0 hh0 kpl jl jgl hwv htot hl
    have hul := jl.2.2
    unfold vOK at hul
    have hbj := byI_bd T gj.1
    refine lv_aload_n hx hb (eX12_readTime (164, .aload_n 0, 1) (List.mem_of_getElem? (i := 83) rfl)) rfl (lv_at hl 1 rfl) ?_
    refine tz_rowV (As := []) (st := []) (b := a) (C := RX12) (Ts := gT) hx hb hml hown h2 (fun _ h => h) (hX12_isGood l D cA ro sz H0 a T (gj) ha) ⟨rfl, rfl⟩ ⟨by decide, by decide⟩ ⟨by decide, by decide⟩ (tb_8 17 rfl rfl) (tb_1 12 rfl rfl) (tb_8 14 rfl rfl) (tb_8 16 rfl rfl) (tb_0 31 rfl rfl) (show yX12_isGood.cls ≠ "java/lang/invoke/MethodHandle" ∧ yX12_isGood.cls ≠ "java/lang/invoke/VarHandle" ∧ (parseMethodDescriptor yX12_isGood.desc).map (fun d => d.parameters.length) = some 0 by decide +kernel) zs_blind (zs_ob hh0 ha (show RTg[11]? = some (0, 11, 0, fsX12) from rfl) (zCX12 hKn.1)) (fun U hU hW => ⟨rfl, by rw [hU]; exact hh0.l0, zKb s U hW.alike hKn, by rw [hU]; exact jl⟩) hh0.2.2.1 hl.1 (Nat.le_of_ble_eq_true rfl) (eX12_readTime (165, .invokevirtual 305, 3) (List.mem_of_getElem? (i := 84) rfl)) (fun r131 s131 t131 lo131 g131 f131 l131 => ?_)
    obtain ⟨z131, v131, q131, e131⟩ := f131
    cases q131
    rw [z131, g131]
    have hh131 : zh_ok D cA RTg ro sz H0 H lo131 := ⟨hh0.1, hh0.2.1, l131, hh0.2.2.2⟩
    refine W.eq (g2 := F0 m 168 ls [.int v131]) rfl ?_
    refine ff_if_eq hx hb (eX12_readTime (168, .ifCond .eq 41, 3) (List.mem_of_getElem? (i := 85) rfl)) (tgt := 209) rfl (fun c132 => ?_) (fun c132 => ?_)
    · skip
      have d133 : ¬ (gj.2.1 < 0 ∧ (byI T gj.1 = 46 ∨ byI T gj.1 = 44)) := by omega
      exact jn209 fj gj wv wa ls _ _ hh131 kpl jl jgl (by omega) (by rw [← htot]; first | (simp only [tpG, tp1G, ad1, if_neg d133, up_eq]; done) | (simp only [tpG, tp1G, ad1, if_neg d133, up_eq] <;> rfl) | rfl) (lv_sub hl [0, 1, 2] rfl)
    · skip
      refine lv_aload_n hx hb (eX12_readTime (171, .aload_n 0, 1) (List.mem_of_getElem? (i := 86) rfl)) rfl (lv_at hl 1 rfl) ?_
      refine tz_rowV (As := []) (st := []) (b := a) (C := RX12) (Ts := gT) hx hb hml hown h2 (fun _ h => h) (hX12_sign l D cA ro sz H0 a T (gj) ha) ⟨rfl, rfl⟩ ⟨by decide, by decide⟩ ⟨by decide, by decide⟩ (tb_8 21 rfl rfl) (tb_1 12 rfl rfl) (tb_8 18 rfl rfl) (tb_8 20 rfl rfl) (tb_0 32 rfl rfl) (show yX12_sign.cls ≠ "java/lang/invoke/MethodHandle" ∧ yX12_sign.cls ≠ "java/lang/invoke/VarHandle" ∧ (parseMethodDescriptor yX12_sign.desc).map (fun d => d.parameters.length) = some 0 by decide +kernel) zs_blind (zs_ob hh131 ha (show RTg[11]? = some (0, 11, 0, fsX12) from rfl) (zCX12 hKn.1)) (fun U hU hW => ⟨rfl, by rw [hU]; exact hh131.l0, zKb s U hW.alike hKn, by rw [hU]; exact jl⟩) hh131.2.2.1 hl.1 (Nat.le_of_ble_eq_true rfl) (eX12_readTime (172, .invokevirtual 309, 3) (List.mem_of_getElem? (i := 87) rfl)) (fun r134 s134 t134 lo134 g134 f134 l134 => ?_)
      obtain ⟨z134, v134, q134, e134⟩ := f134
      cases q134
      rw [z134, g134]
      have hh134 : zh_ok D cA RTg ro sz H0 H lo134 := ⟨hh131.1, hh131.2.1, l134, hh131.2.2.2⟩
      refine W.eq (g2 := F0 m 175 ls [.int v134]) rfl ?_
      refine ff_bipush hx hb (eX12_readTime (175, .bipush 46, 2) (List.mem_of_getElem? (i := 88) rfl)) (by decide) (by decide) (fun v135 e135 => ?_)
      refine ff_icmp_eq hx hb (eX12_readTime (177, .if_icmp .eq 12, 3) (List.mem_of_getElem? (i := 89) rfl)) (tgt := 189) rfl (fun c136 => ?_) (fun c136 => ?_)
      · skip
        have d137 : gj.2.1 < 0 ∧ (byI T gj.1 = 46 ∨ byI T gj.1 = 44) := by omega
        refine lv_aload_n hx hb (eX12_readTime (189, .aload_n 0, 1) (List.mem_of_getElem? (i := 94) rfl)) rfl (lv_at hl 1 rfl) ?_
        refine lv_dup hx hb (eX12_readTime (190, .dup, 1) (List.mem_of_getElem? (i := 95) rfl)) rfl ?_
        obtain ⟨jt138, ⟨av138, fv138, bv138, f29138, f30138, f31138, hav138, hfv138, hbv138⟩, hu138⟩ := id jl
        refine tz_get (r := 11) (k := 29) (t := (0, 0, 120)) hx hb hh134 ha rfl rfl (hcl11 293 29 (0, 0, 120) (by decide) rfl).1 f29138 (eX12_readTime (191, .getfield 293, 3) (List.mem_of_getElem? (i := 96) rfl)) ?_
        refine ff_iconst hx hb (eX12_readTime (194, .iconst 1, 1) (List.mem_of_getElem? (i := 97) rfl)) (by decide) (by decide) (fun v139 e139 => ?_)
        have ha9140 : av138.toInt + v139.toInt ≤ 121 ∧ 0 ≤ av138.toInt := by omega
        refine ff_iadd hx hb (eX12_readTime (195, .iadd, 1) (List.mem_of_getElem? (i := 98) rfl)) (by omega) (by omega) (fun v140 e140 => ?_)
        have hlt := byI_lt (T := T) (a := gj.1) (by omega) (by omega)
        refine tz_put (r := 11) (k := 29) (t := (0, 0, 120)) hx hb hD hh134 ha rfl rfl ((hcl11 293 29 (0, 0, 120) (by decide) rfl).2 (by decide)) (tz_i (by omega) (by omega)) (eX12_readTime (196, .putfield 293, 3) (List.mem_of_getElem? (i := 99) rfl)) (fun H141 lo141 hh141 hf141 hk141 _ hq141 => ?_)
        have mf141_a_30 := (hk141.1 a 11 30 11 0 fsX12 ha rfl (by decide) (by decide)).trans f30138
        have mf141_a_31 := (hk141.1 a 11 31 11 0 fsX12 ha rfl (by decide) (by decide)).trans f31138
        have kp141 := kpl.trans (hk141.mono (ms' := gM) (fun x hx => by cases List.mem_singleton.mp hx; decide))
        have jv141 : jV D cA ro H141 a T (gj.1 + 1, gj.2) := ⟨jl.1.kept ha hk141 (by decide) (by decide) (by decide), ⟨_, _, _, hf141, mf141_a_30, mf141_a_31, by show _ = gj.1 + 1; omega, hfv138, hbv138⟩, adG_ok jl.2.2 (by omega)⟩
        have jg141 := jgl.kept ha hk141 (by decide)
        have uv141 := jv141.2.2
        unfold vOK at uv141
        have bb141 := byI_bd T (gj.1 + 1, gj.2).1
        refine lv_aload_n hx hb (eX12_readTime (199, .aload_n 0, 1) (List.mem_of_getElem? (i := 100) rfl)) rfl (lv_at hl 1 rfl) ?_
        refine ff_bipush hx hb (eX12_readTime (200, .bipush 16, 2) (List.mem_of_getElem? (i := 101) rfl)) (by decide) (by decide) (fun v142 e142 => ?_)
        refine lv_aload_n hx hb (eX12_readTime (202, .aload_n 0, 1) (List.mem_of_getElem? (i := 102) rfl)) rfl (lv_at hl 1 rfl) ?_
        refine tz_rowV (As := []) (st := [.int v142, .ref a]) (b := a) (C := RX12) (Ts := gT) hx hb hml hown h2 (fun _ h => h) (hX12_part l D cA ro sz H0 a T ((gj.1 + 1, gj.2)) ha hT) ⟨rfl, rfl⟩ ⟨by decide, by decide⟩ ⟨by decide, by decide⟩ (tb_8 84 rfl rfl) (tb_1 12 rfl rfl) (tb_8 81 rfl rfl) (tb_8 83 rfl rfl) (tb_0 45 rfl rfl) (show yX12_part.cls ≠ "java/lang/invoke/MethodHandle" ∧ yX12_part.cls ≠ "java/lang/invoke/VarHandle" ∧ (parseMethodDescriptor yX12_part.desc).map (fun d => d.parameters.length) = some 0 by decide +kernel) zs_blind (zs_ob hh141 ha (show RTg[11]? = some (0, 11, 0, fsX12) from rfl) (zCX12 hKn.1)) (fun U hU hW => ⟨rfl, by rw [hU]; exact hh141.l0, zKb s U hW.alike hKn, by rw [hU]; exact jv141⟩) hh141.2.2.1 hl.1 (Nat.le_of_ble_eq_true rfl) (eX12_readTime (203, .invokevirtual 380, 3) (List.mem_of_getElem? (i := 103) rfl)) (fun r143 s143 t143 lo143 g143 f143 l143 => ?_)
        obtain ⟨v143, q143, e143, z143, c143, jv143⟩ := f143
        cases q143
        rw [g143] at c143
        have hh143 : zh_ok D cA RTg ro sz H0 t143.heap lo143 := ⟨z143.1, z143.2.1, l143, z143.2.2.2⟩
        have kp143 := kp141.trans (c143.mono (ms' := gM) (by decide))
        generalize hx143 : paG T (gj.1 + 1, gj.2) = x143 at jv143 e143
        have uu143 := jv143.2.2
        unfold vOK at uu143
        have bb143 := byI_bd T x143.2.1
        have jg143 := jg141.kept ha c143 (by decide)
        refine W.eq (g2 := F0 m 206 ls [.long v143, .int v142, .ref a]) rfl ?_
        refine tz_rowV (As := [.int v142, .long v143]) (st := []) (b := a) (C := RX12) (Ts := gT) hx hb hml hown h2 (fun _ h => h) (hX12_set l D cA ro sz H0 a v142 v143 16 n fj h ha hn1 (by omega) (by decide)) ⟨rfl, rfl⟩ ⟨by decide, by decide⟩ ⟨by decide, by decide⟩ (tb_8 72 rfl rfl) (tb_1 12 rfl rfl) (tb_8 69 rfl rfl) (tb_8 71 rfl rfl) (tb_0 42 rfl rfl) (show yX12_set.cls ≠ "java/lang/invoke/MethodHandle" ∧ yX12_set.cls ≠ "java/lang/invoke/VarHandle" ∧ (parseMethodDescriptor yX12_set.desc).map (fun d => d.parameters.length) = some 2 by decide +kernel) zs_blind (zs_ob hh143 ha (show RTg[11]? = some (0, 11, 0, fsX12) from rfl) (zCX12 hKn.1)) (fun U hU hW => ⟨rfl, by rw [hU]; exact hh143.l0, zKb s U hW.alike hKn, by rw [hU]; exact jg143⟩) hh143.2.2.1 hl.1 (Nat.le_of_ble_eq_true rfl) (eX12_readTime (206, .invokevirtual 357, 3) (List.mem_of_getElem? (i := 104) rfl)) (fun r144 s144 t144 lo144 g144 f144 l144 => ?_)
        obtain ⟨q144, z144, c144, jg144⟩ := f144
        cases q144
        rw [g144] at c144
        have hh144 : zh_ok D cA RTg ro sz H0 t144.heap lo144 := ⟨z144.1, z144.2.1, l144, z144.2.2.2⟩
        have kp144 := kp143.trans (c144.mono (ms' := gM) (by decide))
        have jg144 : jG D cA ro t144.heap a n (upF fj 16 (x143.1)) h := by rw [← show v143.toInt = x143.1 by omega]; exact jg144
        have jv144 := jv143.kept ha c144 (by decide)
        refine W.eq (g2 := F0 m 209 ls []) rfl ?_
        exact jn209 (upF fj 16 (x143.1)) x143.2 wv wa ls _ _ hh144 kp144 jv144 jg144 (by omega) (by rw [← htot]; first | (simp only [tpG, tp1G, ad1, hx143, if_pos d137, up_eq]; done) | (simp only [tpG, tp1G, ad1, hx143, if_pos d137, up_eq] <;> rfl) | rfl) (lv_sub hl [0, 1, 2] rfl)
      · skip
        refine lv_aload_n hx hb (eX12_readTime (180, .aload_n 0, 1) (List.mem_of_getElem? (i := 90) rfl)) rfl (lv_at hl 1 rfl) ?_
        refine tz_rowV (As := []) (st := []) (b := a) (C := RX12) (Ts := gT) hx hb hml hown h2 (fun _ h => h) (hX12_sign l D cA ro sz H0 a T (gj) ha) ⟨rfl, rfl⟩ ⟨by decide, by decide⟩ ⟨by decide, by decide⟩ (tb_8 21 rfl rfl) (tb_1 12 rfl rfl) (tb_8 18 rfl rfl) (tb_8 20 rfl rfl) (tb_0 32 rfl rfl) (show yX12_sign.cls ≠ "java/lang/invoke/MethodHandle" ∧ yX12_sign.cls ≠ "java/lang/invoke/VarHandle" ∧ (parseMethodDescriptor yX12_sign.desc).map (fun d => d.parameters.length) = some 0 by decide +kernel) zs_blind (zs_ob hh134 ha (show RTg[11]? = some (0, 11, 0, fsX12) from rfl) (zCX12 hKn.1)) (fun U hU hW => ⟨rfl, by rw [hU]; exact hh134.l0, zKb s U hW.alike hKn, by rw [hU]; exact jl⟩) hh134.2.2.1 hl.1 (Nat.le_of_ble_eq_true rfl) (eX12_readTime (181, .invokevirtual 309, 3) (List.mem_of_getElem? (i := 91) rfl)) (fun r145 s145 t145 lo145 g145 f145 l145 => ?_)
        obtain ⟨z145, v145, q145, e145⟩ := f145
        cases q145
        rw [z145, g145]
        have hh145 : zh_ok D cA RTg ro sz H0 H lo145 := ⟨hh134.1, hh134.2.1, l145, hh134.2.2.2⟩
        refine W.eq (g2 := F0 m 184 ls [.int v145]) rfl ?_
        refine ff_bipush hx hb (eX12_readTime (184, .bipush 44, 2) (List.mem_of_getElem? (i := 92) rfl)) (by decide) (by decide) (fun v146 e146 => ?_)
        refine ff_icmp_ne hx hb (eX12_readTime (186, .if_icmp .ne 23, 3) (List.mem_of_getElem? (i := 93) rfl)) (tgt := 209) rfl (fun c147 => ?_) (fun c147 => ?_)
        · skip
          have d148 : ¬ (gj.2.1 < 0 ∧ (byI T gj.1 = 46 ∨ byI T gj.1 = 44)) := by omega
          exact jn209 fj gj wv wa ls _ _ hh145 kpl jl jgl (by omega) (by rw [← htot]; first | (simp only [tpG, tp1G, ad1, if_neg d148, up_eq]; done) | (simp only [tpG, tp1G, ad1, if_neg d148, up_eq] <;> rfl) | rfl) (lv_sub hl [0, 1, 2] rfl)
        · skip
          have d149 : gj.2.1 < 0 ∧ (byI T gj.1 = 46 ∨ byI T gj.1 = 44) := by omega
          refine lv_aload_n hx hb (eX12_readTime (189, .aload_n 0, 1) (List.mem_of_getElem? (i := 94) rfl)) rfl (lv_at hl 1 rfl) ?_
          refine lv_dup hx hb (eX12_readTime (190, .dup, 1) (List.mem_of_getElem? (i := 95) rfl)) rfl ?_
          obtain ⟨jt150, ⟨av150, fv150, bv150, f29150, f30150, f31150, hav150, hfv150, hbv150⟩, hu150⟩ := id jl
          refine tz_get (r := 11) (k := 29) (t := (0, 0, 120)) hx hb hh145 ha rfl rfl (hcl11 293 29 (0, 0, 120) (by decide) rfl).1 f29150 (eX12_readTime (191, .getfield 293, 3) (List.mem_of_getElem? (i := 96) rfl)) ?_
          refine ff_iconst hx hb (eX12_readTime (194, .iconst 1, 1) (List.mem_of_getElem? (i := 97) rfl)) (by decide) (by decide) (fun v151 e151 => ?_)
          have ha9152 : av150.toInt + v151.toInt ≤ 121 ∧ 0 ≤ av150.toInt := by omega
          refine ff_iadd hx hb (eX12_readTime (195, .iadd, 1) (List.mem_of_getElem? (i := 98) rfl)) (by omega) (by omega) (fun v152 e152 => ?_)
          have hlt := byI_lt (T := T) (a := gj.1) (by omega) (by omega)
          refine tz_put (r := 11) (k := 29) (t := (0, 0, 120)) hx hb hD hh145 ha rfl rfl ((hcl11 293 29 (0, 0, 120) (by decide) rfl).2 (by decide)) (tz_i (by omega) (by omega)) (eX12_readTime (196, .putfield 293, 3) (List.mem_of_getElem? (i := 99) rfl)) (fun H153 lo153 hh153 hf153 hk153 _ hq153 => ?_)
          have mf153_a_30 := (hk153.1 a 11 30 11 0 fsX12 ha rfl (by decide) (by decide)).trans f30150
          have mf153_a_31 := (hk153.1 a 11 31 11 0 fsX12 ha rfl (by decide) (by decide)).trans f31150
          have kp153 := kpl.trans (hk153.mono (ms' := gM) (fun x hx => by cases List.mem_singleton.mp hx; decide))
          have jv153 : jV D cA ro H153 a T (gj.1 + 1, gj.2) := ⟨jl.1.kept ha hk153 (by decide) (by decide) (by decide), ⟨_, _, _, hf153, mf153_a_30, mf153_a_31, by show _ = gj.1 + 1; omega, hfv150, hbv150⟩, adG_ok jl.2.2 (by omega)⟩
          have jg153 := jgl.kept ha hk153 (by decide)
          have uv153 := jv153.2.2
          unfold vOK at uv153
          have bb153 := byI_bd T (gj.1 + 1, gj.2).1
          refine lv_aload_n hx hb (eX12_readTime (199, .aload_n 0, 1) (List.mem_of_getElem? (i := 100) rfl)) rfl (lv_at hl 1 rfl) ?_
          refine ff_bipush hx hb (eX12_readTime (200, .bipush 16, 2) (List.mem_of_getElem? (i := 101) rfl)) (by decide) (by decide) (fun v154 e154 => ?_)
          refine lv_aload_n hx hb (eX12_readTime (202, .aload_n 0, 1) (List.mem_of_getElem? (i := 102) rfl)) rfl (lv_at hl 1 rfl) ?_
          refine tz_rowV (As := []) (st := [.int v154, .ref a]) (b := a) (C := RX12) (Ts := gT) hx hb hml hown h2 (fun _ h => h) (hX12_part l D cA ro sz H0 a T ((gj.1 + 1, gj.2)) ha hT) ⟨rfl, rfl⟩ ⟨by decide, by decide⟩ ⟨by decide, by decide⟩ (tb_8 84 rfl rfl) (tb_1 12 rfl rfl) (tb_8 81 rfl rfl) (tb_8 83 rfl rfl) (tb_0 45 rfl rfl) (show yX12_part.cls ≠ "java/lang/invoke/MethodHandle" ∧ yX12_part.cls ≠ "java/lang/invoke/VarHandle" ∧ (parseMethodDescriptor yX12_part.desc).map (fun d => d.parameters.length) = some 0 by decide +kernel) zs_blind (zs_ob hh153 ha (show RTg[11]? = some (0, 11, 0, fsX12) from rfl) (zCX12 hKn.1)) (fun U hU hW => ⟨rfl, by rw [hU]; exact hh153.l0, zKb s U hW.alike hKn, by rw [hU]; exact jv153⟩) hh153.2.2.1 hl.1 (Nat.le_of_ble_eq_true rfl) (eX12_readTime (203, .invokevirtual 380, 3) (List.mem_of_getElem? (i := 103) rfl)) (fun r155 s155 t155 lo155 g155 f155 l155 => ?_)
          obtain ⟨v155, q155, e155, z155, c155, jv155⟩ := f155
          cases q155
          rw [g155] at c155
          have hh155 : zh_ok D cA RTg ro sz H0 t155.heap lo155 := ⟨z155.1, z155.2.1, l155, z155.2.2.2⟩
          have kp155 := kp153.trans (c155.mono (ms' := gM) (by decide))
          generalize hx155 : paG T (gj.1 + 1, gj.2) = x155 at jv155 e155
          have uu155 := jv155.2.2
          unfold vOK at uu155
          have bb155 := byI_bd T x155.2.1
          have jg155 := jg153.kept ha c155 (by decide)
          refine W.eq (g2 := F0 m 206 ls [.long v155, .int v154, .ref a]) rfl ?_
          refine tz_rowV (As := [.int v154, .long v155]) (st := []) (b := a) (C := RX12) (Ts := gT) hx hb hml hown h2 (fun _ h => h) (hX12_set l D cA ro sz H0 a v154 v155 16 n fj h ha hn1 (by omega) (by decide)) ⟨rfl, rfl⟩ ⟨by decide, by decide⟩ ⟨by decide, by decide⟩ (tb_8 72 rfl rfl) (tb_1 12 rfl rfl) (tb_8 69 rfl rfl) (tb_8 71 rfl rfl) (tb_0 42 rfl rfl) (show yX12_set.cls ≠ "java/lang/invoke/MethodHandle" ∧ yX12_set.cls ≠ "java/lang/invoke/VarHandle" ∧ (parseMethodDescriptor yX12_set.desc).map (fun d => d.parameters.length) = some 2 by decide +kernel) zs_blind (zs_ob hh155 ha (show RTg[11]? = some (0, 11, 0, fsX12) from rfl) (zCX12 hKn.1)) (fun U hU hW => ⟨rfl, by rw [hU]; exact hh155.l0, zKb s U hW.alike hKn, by rw [hU]; exact jg155⟩) hh155.2.2.1 hl.1 (Nat.le_of_ble_eq_true rfl) (eX12_readTime (206, .invokevirtual 357, 3) (List.mem_of_getElem? (i := 104) rfl)) (fun r156 s156 t156 lo156 g156 f156 l156 => ?_)
          obtain ⟨q156, z156, c156, jg156⟩ := f156
          cases q156
          rw [g156] at c156
          have hh156 : zh_ok D cA RTg ro sz H0 t156.heap lo156 := ⟨z156.1, z156.2.1, l156, z156.2.2.2⟩
          have kp156 := kp155.trans (c156.mono (ms' := gM) (by decide))
          have jg156 : jG D cA ro t156.heap a n (upF fj 16 (x155.1)) h := by rw [← show v155.toInt = x155.1 by omega]; exact jg156
          have jv156 := jv155.kept ha c156 (by decide)
          refine W.eq (g2 := F0 m 209 ls []) rfl ?_
          exact jn209 (upF fj 16 (x155.1)) x155.2 wv wa ls _ _ hh156 kp156 jv156 jg156 (by omega) (by rw [← htot]; first | (simp only [tpG, tp1G, ad1, hx155, if_pos d149, up_eq]; done) | (simp only [tpG, tp1G, ad1, hx155, if_pos d149, up_eq] <;> rfl) | rfl) (lv_sub hl [0, 1, 2] rfl)
  refine lv_aload_n hx hb (eX12_readTime (0, .aload_n 0, 1) (List.mem_of_getElem? (i := 0) rfl)) rfl (lv_at hl 0 rfl) ?_
  refine ff_bipush hx hb (eX12_readTime (1, .bipush 8, 2) (List.mem_of_getElem? (i := 1) rfl)) (by decide) (by decide) (fun v157 e157 => ?_)
  refine ff_lconst hx hb (eX12_readTime (3, .lconst 1, 1) (List.mem_of_getElem? (i := 2) rfl)) rfl (fun v158 e158 => ?_)
  refine tz_rowV (As := [.int v157, .long v158]) (st := []) (b := a) (C := RX12) (Ts := gT) hx hb hml hown h2 (fun _ h => h) (hX12_set l D cA ro sz H0 a v157 v158 8 n g h ha hn1 (by omega) (by decide)) ⟨rfl, rfl⟩ ⟨by decide, by decide⟩ ⟨by decide, by decide⟩ (tb_8 72 rfl rfl) (tb_1 12 rfl rfl) (tb_8 69 rfl rfl) (tb_8 71 rfl rfl) (tb_0 42 rfl rfl) (show yX12_set.cls ≠ "java/lang/invoke/MethodHandle" ∧ yX12_set.cls ≠ "java/lang/invoke/VarHandle" ∧ (parseMethodDescriptor yX12_set.desc).map (fun d => d.parameters.length) = some 2 by decide +kernel) zs_blind (zs_ob hh ha (show RTg[11]? = some (0, 11, 0, fsX12) from rfl) (zCX12 hKn.1)) (fun U hU hW => ⟨rfl, by rw [hU]; exact hh.l0, zKb s U hW.alike hKn, by rw [hU]; exact jg0⟩) hh.2.2.1 hl.1 (Nat.le_of_ble_eq_true rfl) (eX12_readTime (4, .invokevirtual 357, 3) (List.mem_of_getElem? (i := 3) rfl)) (fun r159 s159 t159 lo159 g159 f159 l159 => ?_)
  obtain ⟨q159, z159, c159, jg159⟩ := f159
  cases q159
  rw [g159] at c159
  have hh159 : zh_ok D cA RTg ro sz H0 t159.heap lo159 := ⟨z159.1, z159.2.1, l159, z159.2.2.2⟩
  have kp159 := kp0.trans (c159.mono (ms' := gM) (by decide))
  have jg159 : jG D cA ro t159.heap a n (upF g 8 (1)) h := by rw [← show v158.toInt = 1 by omega]; exact jg159
  have jv159 := jv0.kept ha c159 (by decide)
  refine W.eq (g2 := F0 m 7 ls []) rfl ?_
  refine lv_aload_n hx hb (eX12_readTime (7, .aload_n 0, 1) (List.mem_of_getElem? (i := 4) rfl)) rfl (lv_at hl 0 rfl) ?_
  refine ff_bipush hx hb (eX12_readTime (8, .bipush 15, 2) (List.mem_of_getElem? (i := 5) rfl)) (by decide) (by decide) (fun v160 e160 => ?_)
  refine ff_lconst hx hb (eX12_readTime (10, .lconst 0, 1) (List.mem_of_getElem? (i := 6) rfl)) rfl (fun v161 e161 => ?_)
  refine tz_rowV (As := [.int v160, .long v161]) (st := []) (b := a) (C := RX12) (Ts := gT) hx hb hml hown h2 (fun _ h => h) (hX12_set l D cA ro sz H0 a v160 v161 15 n (upF g 8 (1)) h ha hn1 (by omega) (by decide)) ⟨rfl, rfl⟩ ⟨by decide, by decide⟩ ⟨by decide, by decide⟩ (tb_8 72 rfl rfl) (tb_1 12 rfl rfl) (tb_8 69 rfl rfl) (tb_8 71 rfl rfl) (tb_0 42 rfl rfl) (show yX12_set.cls ≠ "java/lang/invoke/MethodHandle" ∧ yX12_set.cls ≠ "java/lang/invoke/VarHandle" ∧ (parseMethodDescriptor yX12_set.desc).map (fun d => d.parameters.length) = some 2 by decide +kernel) zs_blind (zs_ob hh159 ha (show RTg[11]? = some (0, 11, 0, fsX12) from rfl) (zCX12 hKn.1)) (fun U hU hW => ⟨rfl, by rw [hU]; exact hh159.l0, zKb s U hW.alike hKn, by rw [hU]; exact jg159⟩) hh159.2.2.1 hl.1 (Nat.le_of_ble_eq_true rfl) (eX12_readTime (11, .invokevirtual 357, 3) (List.mem_of_getElem? (i := 7) rfl)) (fun r162 s162 t162 lo162 g162 f162 l162 => ?_)
  obtain ⟨q162, z162, c162, jg162⟩ := f162
  cases q162
  rw [g162] at c162
  have hh162 : zh_ok D cA RTg ro sz H0 t162.heap lo162 := ⟨z162.1, z162.2.1, l162, z162.2.2.2⟩
  have kp162 := kp159.trans (c162.mono (ms' := gM) (by decide))
  have jg162 : jG D cA ro t162.heap a n (upF (upF g 8 (1)) 15 (0)) h := by rw [← show v161.toInt = 0 by omega]; exact jg162
  have jv162 := jv159.kept ha c162 (by decide)
  refine W.eq (g2 := F0 m 14 ls []) rfl ?_
  refine lv_aload_n hx hb (eX12_readTime (14, .aload_n 0, 1) (List.mem_of_getElem? (i := 8) rfl)) rfl (lv_at hl 0 rfl) ?_
  refine ff_bipush hx hb (eX12_readTime (15, .bipush 9, 2) (List.mem_of_getElem? (i := 9) rfl)) (by decide) (by decide) (fun v163 e163 => ?_)
  refine tz_rowV (As := [.int v163]) (st := []) (b := a) (C := RX12) (Ts := gT) hx hb hml hown h2 (fun _ h => h) (hX12_timeNumber l D cA ro sz H0 a v163 9 T (sg) n (upF (upF g 8 (1)) 15 (0)) h ha hn1 hT (by omega) (by decide)) ⟨rfl, rfl⟩ ⟨by decide, by decide⟩ ⟨by decide, by decide⟩ (tb_8 80 rfl rfl) (tb_1 12 rfl rfl) (tb_8 77 rfl rfl) (tb_8 79 rfl rfl) (tb_0 44 rfl rfl) (show yX12_timeNumber.cls ≠ "java/lang/invoke/MethodHandle" ∧ yX12_timeNumber.cls ≠ "java/lang/invoke/VarHandle" ∧ (parseMethodDescriptor yX12_timeNumber.desc).map (fun d => d.parameters.length) = some 1 by decide +kernel) zs_blind (zs_ob hh162 ha (show RTg[11]? = some (0, 11, 0, fsX12) from rfl) (zCX12 hKn.1)) (fun U hU hW => ⟨rfl, by rw [hU]; exact hh162.l0, zKb s U hW.alike hKn, by rw [hU]; exact ⟨jv162, jg162⟩⟩) hh162.2.2.1 hl.1 (Nat.le_of_ble_eq_true rfl) (eX12_readTime (17, .invokevirtual 377, 3) (List.mem_of_getElem? (i := 10) rfl)) (fun r164 s164 t164 lo164 g164 f164 l164 => ?_)
  obtain ⟨q164, z164, c164, jv164, jg164⟩ := f164
  cases q164
  rw [g164] at c164
  have hh164 : zh_ok D cA RTg ro sz H0 t164.heap lo164 := ⟨z164.1, z164.2.1, l164, z164.2.2.2⟩
  have kp164 := kp162.trans (c164.mono (ms' := gM) (by decide))
  generalize hx164 : nuG T 9 2 ((upF (upF g 8 (1)) 15 (0)), sg) = x164 at jv164 jg164
  have uu164 := jv164.2.2
  unfold vOK at uu164
  have bb164 := byI_bd T x164.2.1
  refine W.eq (g2 := F0 m 20 ls []) rfl ?_
  refine lv_iload_n hx hb (eX12_readTime (20, .iload_n 1, 1) (List.mem_of_getElem? (i := 11) rfl)) rfl (lv_at hl 1 rfl) ?_
  refine lv_istore_n hx hb (eX12_readTime (21, .istore_n 2, 1) (List.mem_of_getElem? (i := 12) rfl)) rfl hl (by decide) rfl (fun ls165 hl165 => ?_)
  refine lv_aload_n hx hb (eX12_readTime (22, .aload_n 0, 1) (List.mem_of_getElem? (i := 13) rfl)) rfl (lv_at hl165 1 rfl) ?_
  refine tz_rowV (As := []) (st := []) (b := a) (C := RX12) (Ts := gT) hx hb hml hown h2 (fun _ h => h) (hX12_isGood l D cA ro sz H0 a T (x164.2) ha) ⟨rfl, rfl⟩ ⟨by decide, by decide⟩ ⟨by decide, by decide⟩ (tb_8 17 rfl rfl) (tb_1 12 rfl rfl) (tb_8 14 rfl rfl) (tb_8 16 rfl rfl) (tb_0 31 rfl rfl) (show yX12_isGood.cls ≠ "java/lang/invoke/MethodHandle" ∧ yX12_isGood.cls ≠ "java/lang/invoke/VarHandle" ∧ (parseMethodDescriptor yX12_isGood.desc).map (fun d => d.parameters.length) = some 0 by decide +kernel) zs_blind (zs_ob hh164 ha (show RTg[11]? = some (0, 11, 0, fsX12) from rfl) (zCX12 hKn.1)) (fun U hU hW => ⟨rfl, by rw [hU]; exact hh164.l0, zKb s U hW.alike hKn, by rw [hU]; exact jv164⟩) hh164.2.2.1 hl165.1 (Nat.le_of_ble_eq_true rfl) (eX12_readTime (23, .invokevirtual 305, 3) (List.mem_of_getElem? (i := 14) rfl)) (fun r166 s166 t166 lo166 g166 f166 l166 => ?_)
  obtain ⟨z166, v166, q166, e166⟩ := f166
  cases q166
  rw [z166, g166]
  have hh166 : zh_ok D cA RTg ro sz H0 t164.heap lo166 := ⟨hh164.1, hh164.2.1, l166, hh164.2.2.2⟩
  refine W.eq (g2 := F0 m 26 ls165 [.int v166]) rfl ?_
  refine ff_if_eq hx hb (eX12_readTime (26, .ifCond .eq 69, 3) (List.mem_of_getElem? (i := 15) rfl)) (tgt := 95) rfl (fun c167 => ?_) (fun c167 => ?_)
  · skip
    have d168 : ¬ ((x164.2.2.1 < 0 ∧ mo ≠ 2) ∧ byI T x164.2.1 = 58) := by omega
    refine lv_aload_n hx hb (eX12_readTime (95, .aload_n 0, 1) (List.mem_of_getElem? (i := 50) rfl)) rfl (lv_at hl165 1 rfl) ?_
    refine tz_rowV (As := []) (st := []) (b := a) (C := RX12) (Ts := gT) hx hb hml hown h2 (fun _ h => h) (hX12_isGood l D cA ro sz H0 a T (x164.2) ha) ⟨rfl, rfl⟩ ⟨by decide, by decide⟩ ⟨by decide, by decide⟩ (tb_8 17 rfl rfl) (tb_1 12 rfl rfl) (tb_8 14 rfl rfl) (tb_8 16 rfl rfl) (tb_0 31 rfl rfl) (show yX12_isGood.cls ≠ "java/lang/invoke/MethodHandle" ∧ yX12_isGood.cls ≠ "java/lang/invoke/VarHandle" ∧ (parseMethodDescriptor yX12_isGood.desc).map (fun d => d.parameters.length) = some 0 by decide +kernel) zs_blind (zs_ob hh166 ha (show RTg[11]? = some (0, 11, 0, fsX12) from rfl) (zCX12 hKn.1)) (fun U hU hW => ⟨rfl, by rw [hU]; exact hh166.l0, zKb s U hW.alike hKn, by rw [hU]; exact jv164⟩) hh166.2.2.1 hl165.1 (Nat.le_of_ble_eq_true rfl) (eX12_readTime (96, .invokevirtual 305, 3) (List.mem_of_getElem? (i := 51) rfl)) (fun r169 s169 t169 lo169 g169 f169 l169 => ?_)
    obtain ⟨z169, v169, q169, e169⟩ := f169
    cases q169
    rw [z169, g169]
    have hh169 : zh_ok D cA RTg ro sz H0 t164.heap lo169 := ⟨hh166.1, hh166.2.1, l169, hh166.2.2.2⟩
    refine W.eq (g2 := F0 m 99 ls165 [.int v169]) rfl ?_
    refine ff_if_eq hx hb (eX12_readTime (99, .ifCond .eq 65, 3) (List.mem_of_getElem? (i := 52) rfl)) (tgt := 164) rfl (fun c170 => ?_) (fun c170 => ?_)
    · skip
      have d171 : ¬ ((x164.2.2.1 < 0 ∧ mo ≠ 1) ∧ isD (byI T x164.2.1)) := by omega
      exact jn164 x164.1 x164.2 mv mo ls165 _ _ hh169 kp164 jv164 jg164 (by omega) (by first | (simp only [trG, tm0G, tmsG, tm1G, tm2G, tmiG, tseG, upS, ad1, hx164, if_neg d168, if_neg d171, up_eq]; done) | (simp only [trG, tm0G, tmsG, tm1G, tm2G, tmiG, tseG, upS, ad1, hx164, if_neg d168, if_neg d171, up_eq] <;> rfl) | rfl) (lv_sub hl165 [0, 1, 2] rfl)
    · skip
      refine lv_iload_n hx hb (eX12_readTime (102, .iload_n 1, 1) (List.mem_of_getElem? (i := 53) rfl)) rfl (lv_at hl165 2 rfl) ?_
      refine ff_iconst hx hb (eX12_readTime (103, .iconst 1, 1) (List.mem_of_getElem? (i := 54) rfl)) (by decide) (by decide) (fun v172 e172 => ?_)
      refine ff_icmp_eq hx hb (eX12_readTime (104, .if_icmp .eq 60, 3) (List.mem_of_getElem? (i := 55) rfl)) (tgt := 164) rfl (fun c173 => ?_) (fun c173 => ?_)
      · skip
        have d174 : ¬ ((x164.2.2.1 < 0 ∧ mo ≠ 1) ∧ isD (byI T x164.2.1)) := by omega
        exact jn164 x164.1 x164.2 mv mo ls165 _ _ hh169 kp164 jv164 jg164 (by omega) (by first | (simp only [trG, tm0G, tmsG, tm1G, tm2G, tmiG, tseG, upS, ad1, hx164, if_neg d168, if_neg d174, up_eq]; done) | (simp only [trG, tm0G, tmsG, tm1G, tm2G, tmiG, tseG, upS, ad1, hx164, if_neg d168, if_neg d174, up_eq] <;> rfl) | rfl) (lv_sub hl165 [0, 1, 2] rfl)
      · skip
        refine lv_aload_n hx hb (eX12_readTime (107, .aload_n 0, 1) (List.mem_of_getElem? (i := 56) rfl)) rfl (lv_at hl165 1 rfl) ?_
        refine tz_rowV (As := []) (st := []) (b := a) (C := RX12) (Ts := gT) hx hb hml hown h2 (fun _ h => h) (hX12_sign l D cA ro sz H0 a T (x164.2) ha) ⟨rfl, rfl⟩ ⟨by decide, by decide⟩ ⟨by decide, by decide⟩ (tb_8 21 rfl rfl) (tb_1 12 rfl rfl) (tb_8 18 rfl rfl) (tb_8 20 rfl rfl) (tb_0 32 rfl rfl) (show yX12_sign.cls ≠ "java/lang/invoke/MethodHandle" ∧ yX12_sign.cls ≠ "java/lang/invoke/VarHandle" ∧ (parseMethodDescriptor yX12_sign.desc).map (fun d => d.parameters.length) = some 0 by decide +kernel) zs_blind (zs_ob hh169 ha (show RTg[11]? = some (0, 11, 0, fsX12) from rfl) (zCX12 hKn.1)) (fun U hU hW => ⟨rfl, by rw [hU]; exact hh169.l0, zKb s U hW.alike hKn, by rw [hU]; exact jv164⟩) hh169.2.2.1 hl165.1 (Nat.le_of_ble_eq_true rfl) (eX12_readTime (108, .invokevirtual 309, 3) (List.mem_of_getElem? (i := 57) rfl)) (fun r175 s175 t175 lo175 g175 f175 l175 => ?_)
        obtain ⟨z175, v175, q175, e175⟩ := f175
        cases q175
        rw [z175, g175]
        have hh175 : zh_ok D cA RTg ro sz H0 t164.heap lo175 := ⟨hh169.1, hh169.2.1, l175, hh169.2.2.2⟩
        refine W.eq (g2 := F0 m 111 ls165 [.int v175]) rfl ?_
        refine zu_S (vs := [.int v175]) (rest := []) hx hb hml hown hts0 zu_BT (hX12_isDigit l v175) ⟨rfl, rfl⟩ ⟨by decide, by decide⟩ ⟨by decide, by decide⟩ (tb_8 27 rfl rfl) (tb_1 12 rfl rfl) (tb_8 25 rfl rfl) (tb_8 26 rfl rfl) (show yX12_isDigit.cls ≠ "java/lang/invoke/MethodHandle" ∧ yX12_isDigit.cls ≠ "java/lang/invoke/VarHandle" ∧ (parseMethodDescriptor yX12_isDigit.desc).map (fun d => d.parameters.length) = some 1 by decide +kernel) rfl (fun _ _ _ => trivial) hl165.1 (Nat.le_of_ble_eq_true rfl) (eX12_readTime (111, .invokestatic 319, 3) (List.mem_of_getElem? (i := 58) rfl)) (fun w176 f176 => ?_)
        obtain ⟨v176, rfl, e176⟩ := f176
        refine ff_if_eq hx hb (eX12_readTime (114, .ifCond .eq 50, 3) (List.mem_of_getElem? (i := 59) rfl)) (tgt := 164) rfl (fun c177 => ?_) (fun c177 => ?_)
        · skip
          have d178 : ¬ ((x164.2.2.1 < 0 ∧ mo ≠ 1) ∧ isD (byI T x164.2.1)) := by omega
          exact jn164 x164.1 x164.2 mv mo ls165 _ _ hh175 kp164 jv164 jg164 (by omega) (by first | (simp only [trG, tm0G, tmsG, tm1G, tm2G, tmiG, tseG, upS, ad1, hx164, if_neg d168, if_neg d178, up_eq]; done) | (simp only [trG, tm0G, tmsG, tm1G, tm2G, tmiG, tseG, upS, ad1, hx164, if_neg d168, if_neg d178, up_eq] <;> rfl) | rfl) (lv_sub hl165 [0, 1, 2] rfl)
        · skip
          have d179 : (x164.2.2.1 < 0 ∧ mo ≠ 1) ∧ isD (byI T x164.2.1) := by omega
          refine ff_iconst hx hb (eX12_readTime (117, .iconst 2, 1) (List.mem_of_getElem? (i := 60) rfl)) (by decide) (by decide) (fun v180 e180 => ?_)
          refine lv_istore_n hx hb (eX12_readTime (118, .istore_n 2, 1) (List.mem_of_getElem? (i := 61) rfl)) rfl hl165 (by decide) rfl (fun ls181 hl181 => ?_)
          refine lv_aload_n hx hb (eX12_readTime (119, .aload_n 0, 1) (List.mem_of_getElem? (i := 62) rfl)) rfl (lv_at hl181 1 rfl) ?_
          refine ff_bipush hx hb (eX12_readTime (120, .bipush 11, 2) (List.mem_of_getElem? (i := 63) rfl)) (by decide) (by decide) (fun v182 e182 => ?_)
          refine tz_rowV (As := [.int v182]) (st := []) (b := a) (C := RX12) (Ts := gT) hx hb hml hown h2 (fun _ h => h) (hX12_timeNumber l D cA ro sz H0 a v182 11 T (x164.2) n x164.1 h ha hn1 hT (by omega) (by decide)) ⟨rfl, rfl⟩ ⟨by decide, by decide⟩ ⟨by decide, by decide⟩ (tb_8 80 rfl rfl) (tb_1 12 rfl rfl) (tb_8 77 rfl rfl) (tb_8 79 rfl rfl) (tb_0 44 rfl rfl) (show yX12_timeNumber.cls ≠ "java/lang/invoke/MethodHandle" ∧ yX12_timeNumber.cls ≠ "java/lang/invoke/VarHandle" ∧ (parseMethodDescriptor yX12_timeNumber.desc).map (fun d => d.parameters.length) = some 1 by decide +kernel) zs_blind (zs_ob hh175 ha (show RTg[11]? = some (0, 11, 0, fsX12) from rfl) (zCX12 hKn.1)) (fun U hU hW => ⟨rfl, by rw [hU]; exact hh175.l0, zKb s U hW.alike hKn, by rw [hU]; exact ⟨jv164, jg164⟩⟩) hh175.2.2.1 hl181.1 (Nat.le_of_ble_eq_true rfl) (eX12_readTime (122, .invokevirtual 377, 3) (List.mem_of_getElem? (i := 64) rfl)) (fun r183 s183 t183 lo183 g183 f183 l183 => ?_)
          obtain ⟨q183, z183, c183, jv183, jg183⟩ := f183
          cases q183
          rw [g183] at c183
          have hh183 : zh_ok D cA RTg ro sz H0 t183.heap lo183 := ⟨z183.1, z183.2.1, l183, z183.2.2.2⟩
          have kp183 := kp164.trans (c183.mono (ms' := gM) (by decide))
          generalize hx183 : nuG T 11 2 (x164.1, x164.2) = x183 at jv183 jg183
          have uu183 := jv183.2.2
          unfold vOK at uu183
          have bb183 := byI_bd T x183.2.1
          refine W.eq (g2 := F0 m 125 ls181 []) rfl ?_
          refine lv_aload_n hx hb (eX12_readTime (125, .aload_n 0, 1) (List.mem_of_getElem? (i := 65) rfl)) rfl (lv_at hl181 1 rfl) ?_
          refine ff_bipush hx hb (eX12_readTime (126, .bipush 15, 2) (List.mem_of_getElem? (i := 66) rfl)) (by decide) (by decide) (fun v184 e184 => ?_)
          refine ff_lconst hx hb (eX12_readTime (128, .lconst 1, 1) (List.mem_of_getElem? (i := 67) rfl)) rfl (fun v185 e185 => ?_)
          refine tz_rowV (As := [.int v184, .long v185]) (st := []) (b := a) (C := RX12) (Ts := gT) hx hb hml hown h2 (fun _ h => h) (hX12_set l D cA ro sz H0 a v184 v185 15 n x183.1 h ha hn1 (by omega) (by decide)) ⟨rfl, rfl⟩ ⟨by decide, by decide⟩ ⟨by decide, by decide⟩ (tb_8 72 rfl rfl) (tb_1 12 rfl rfl) (tb_8 69 rfl rfl) (tb_8 71 rfl rfl) (tb_0 42 rfl rfl) (show yX12_set.cls ≠ "java/lang/invoke/MethodHandle" ∧ yX12_set.cls ≠ "java/lang/invoke/VarHandle" ∧ (parseMethodDescriptor yX12_set.desc).map (fun d => d.parameters.length) = some 2 by decide +kernel) zs_blind (zs_ob hh183 ha (show RTg[11]? = some (0, 11, 0, fsX12) from rfl) (zCX12 hKn.1)) (fun U hU hW => ⟨rfl, by rw [hU]; exact hh183.l0, zKb s U hW.alike hKn, by rw [hU]; exact jg183⟩) hh183.2.2.1 hl181.1 (Nat.le_of_ble_eq_true rfl) (eX12_readTime (129, .invokevirtual 357, 3) (List.mem_of_getElem? (i := 68) rfl)) (fun r186 s186 t186 lo186 g186 f186 l186 => ?_)
          obtain ⟨q186, z186, c186, jg186⟩ := f186
          cases q186
          rw [g186] at c186
          have hh186 : zh_ok D cA RTg ro sz H0 t186.heap lo186 := ⟨z186.1, z186.2.1, l186, z186.2.2.2⟩
          have kp186 := kp183.trans (c186.mono (ms' := gM) (by decide))
          have jg186 : jG D cA ro t186.heap a n (upF x183.1 15 (1)) h := by rw [← show v185.toInt = 1 by omega]; exact jg186
          have jv186 := jv183.kept ha c186 (by decide)
          refine W.eq (g2 := F0 m 132 ls181 []) rfl ?_
          refine lv_aload_n hx hb (eX12_readTime (132, .aload_n 0, 1) (List.mem_of_getElem? (i := 69) rfl)) rfl (lv_at hl181 1 rfl) ?_
          refine tz_rowV (As := []) (st := []) (b := a) (C := RX12) (Ts := gT) hx hb hml hown h2 (fun _ h => h) (hX12_isGood l D cA ro sz H0 a T (x183.2) ha) ⟨rfl, rfl⟩ ⟨by decide, by decide⟩ ⟨by decide, by decide⟩ (tb_8 17 rfl rfl) (tb_1 12 rfl rfl) (tb_8 14 rfl rfl) (tb_8 16 rfl rfl) (tb_0 31 rfl rfl) (show yX12_isGood.cls ≠ "java/lang/invoke/MethodHandle" ∧ yX12_isGood.cls ≠ "java/lang/invoke/VarHandle" ∧ (parseMethodDescriptor yX12_isGood.desc).map (fun d => d.parameters.length) = some 0 by decide +kernel) zs_blind (zs_ob hh186 ha (show RTg[11]? = some (0, 11, 0, fsX12) from rfl) (zCX12 hKn.1)) (fun U hU hW => ⟨rfl, by rw [hU]; exact hh186.l0, zKb s U hW.alike hKn, by rw [hU]; exact jv186⟩) hh186.2.2.1 hl181.1 (Nat.le_of_ble_eq_true rfl) (eX12_readTime (133, .invokevirtual 305, 3) (List.mem_of_getElem? (i := 70) rfl)) (fun r187 s187 t187 lo187 g187 f187 l187 => ?_)
          obtain ⟨z187, v187, q187, e187⟩ := f187
          cases q187
          rw [z187, g187]
          have hh187 : zh_ok D cA RTg ro sz H0 t186.heap lo187 := ⟨hh186.1, hh186.2.1, l187, hh186.2.2.2⟩
          refine W.eq (g2 := F0 m 136 ls181 [.int v187]) rfl ?_
          refine ff_if_eq hx hb (eX12_readTime (136, .ifCond .eq 28, 3) (List.mem_of_getElem? (i := 71) rfl)) (tgt := 164) rfl (fun c188 => ?_) (fun c188 => ?_)
          · skip
            have d189 : ¬ (x183.2.2.1 < 0 ∧ isD (byI T x183.2.1)) := by omega
            exact jn164 (upF x183.1 15 (1)) x183.2 v180 2 ls181 _ _ hh187 kp186 jv186 jg186 (by omega) (by first | (simp only [trG, tm0G, tmsG, tm1G, tm2G, tmiG, tseG, upS, ad1, hx164, hx183, if_neg d168, if_pos d179, if_neg d189, up_eq]; done) | (simp only [trG, tm0G, tmsG, tm1G, tm2G, tmiG, tseG, upS, ad1, hx164, hx183, if_neg d168, if_pos d179, if_neg d189, up_eq] <;> rfl) | rfl) (lv_sub hl181 [0, 1, 2] rfl)
          · skip
            refine lv_aload_n hx hb (eX12_readTime (139, .aload_n 0, 1) (List.mem_of_getElem? (i := 72) rfl)) rfl (lv_at hl181 1 rfl) ?_
            refine tz_rowV (As := []) (st := []) (b := a) (C := RX12) (Ts := gT) hx hb hml hown h2 (fun _ h => h) (hX12_sign l D cA ro sz H0 a T (x183.2) ha) ⟨rfl, rfl⟩ ⟨by decide, by decide⟩ ⟨by decide, by decide⟩ (tb_8 21 rfl rfl) (tb_1 12 rfl rfl) (tb_8 18 rfl rfl) (tb_8 20 rfl rfl) (tb_0 32 rfl rfl) (show yX12_sign.cls ≠ "java/lang/invoke/MethodHandle" ∧ yX12_sign.cls ≠ "java/lang/invoke/VarHandle" ∧ (parseMethodDescriptor yX12_sign.desc).map (fun d => d.parameters.length) = some 0 by decide +kernel) zs_blind (zs_ob hh187 ha (show RTg[11]? = some (0, 11, 0, fsX12) from rfl) (zCX12 hKn.1)) (fun U hU hW => ⟨rfl, by rw [hU]; exact hh187.l0, zKb s U hW.alike hKn, by rw [hU]; exact jv186⟩) hh187.2.2.1 hl181.1 (Nat.le_of_ble_eq_true rfl) (eX12_readTime (140, .invokevirtual 309, 3) (List.mem_of_getElem? (i := 73) rfl)) (fun r190 s190 t190 lo190 g190 f190 l190 => ?_)
            obtain ⟨z190, v190, q190, e190⟩ := f190
            cases q190
            rw [z190, g190]
            have hh190 : zh_ok D cA RTg ro sz H0 t186.heap lo190 := ⟨hh187.1, hh187.2.1, l190, hh187.2.2.2⟩
            refine W.eq (g2 := F0 m 143 ls181 [.int v190]) rfl ?_
            refine zu_S (vs := [.int v190]) (rest := []) hx hb hml hown hts0 zu_BT (hX12_isDigit l v190) ⟨rfl, rfl⟩ ⟨by decide, by decide⟩ ⟨by decide, by decide⟩ (tb_8 27 rfl rfl) (tb_1 12 rfl rfl) (tb_8 25 rfl rfl) (tb_8 26 rfl rfl) (show yX12_isDigit.cls ≠ "java/lang/invoke/MethodHandle" ∧ yX12_isDigit.cls ≠ "java/lang/invoke/VarHandle" ∧ (parseMethodDescriptor yX12_isDigit.desc).map (fun d => d.parameters.length) = some 1 by decide +kernel) rfl (fun _ _ _ => trivial) hl181.1 (Nat.le_of_ble_eq_true rfl) (eX12_readTime (143, .invokestatic 319, 3) (List.mem_of_getElem? (i := 74) rfl)) (fun w191 f191 => ?_)
            obtain ⟨v191, rfl, e191⟩ := f191
            refine ff_if_eq hx hb (eX12_readTime (146, .ifCond .eq 18, 3) (List.mem_of_getElem? (i := 75) rfl)) (tgt := 164) rfl (fun c192 => ?_) (fun c192 => ?_)
            · skip
              have d193 : ¬ (x183.2.2.1 < 0 ∧ isD (byI T x183.2.1)) := by omega
              exact jn164 (upF x183.1 15 (1)) x183.2 v180 2 ls181 _ _ hh190 kp186 jv186 jg186 (by omega) (by first | (simp only [trG, tm0G, tmsG, tm1G, tm2G, tmiG, tseG, upS, ad1, hx164, hx183, if_neg d168, if_pos d179, if_neg d193, up_eq]; done) | (simp only [trG, tm0G, tmsG, tm1G, tm2G, tmiG, tseG, upS, ad1, hx164, hx183, if_neg d168, if_pos d179, if_neg d193, up_eq] <;> rfl) | rfl) (lv_sub hl181 [0, 1, 2] rfl)
            · skip
              have d194 : x183.2.2.1 < 0 ∧ isD (byI T x183.2.1) := by omega
              refine lv_aload_n hx hb (eX12_readTime (149, .aload_n 0, 1) (List.mem_of_getElem? (i := 76) rfl)) rfl (lv_at hl181 1 rfl) ?_
              refine ff_bipush hx hb (eX12_readTime (150, .bipush 13, 2) (List.mem_of_getElem? (i := 77) rfl)) (by decide) (by decide) (fun v195 e195 => ?_)
              refine tz_rowV (As := [.int v195]) (st := []) (b := a) (C := RX12) (Ts := gT) hx hb hml hown h2 (fun _ h => h) (hX12_timeNumber l D cA ro sz H0 a v195 13 T (x183.2) n (upF x183.1 15 (1)) h ha hn1 hT (by omega) (by decide)) ⟨rfl, rfl⟩ ⟨by decide, by decide⟩ ⟨by decide, by decide⟩ (tb_8 80 rfl rfl) (tb_1 12 rfl rfl) (tb_8 77 rfl rfl) (tb_8 79 rfl rfl) (tb_0 44 rfl rfl) (show yX12_timeNumber.cls ≠ "java/lang/invoke/MethodHandle" ∧ yX12_timeNumber.cls ≠ "java/lang/invoke/VarHandle" ∧ (parseMethodDescriptor yX12_timeNumber.desc).map (fun d => d.parameters.length) = some 1 by decide +kernel) zs_blind (zs_ob hh190 ha (show RTg[11]? = some (0, 11, 0, fsX12) from rfl) (zCX12 hKn.1)) (fun U hU hW => ⟨rfl, by rw [hU]; exact hh190.l0, zKb s U hW.alike hKn, by rw [hU]; exact ⟨jv186, jg186⟩⟩) hh190.2.2.1 hl181.1 (Nat.le_of_ble_eq_true rfl) (eX12_readTime (152, .invokevirtual 377, 3) (List.mem_of_getElem? (i := 78) rfl)) (fun r196 s196 t196 lo196 g196 f196 l196 => ?_)
              obtain ⟨q196, z196, c196, jv196, jg196⟩ := f196
              cases q196
              rw [g196] at c196
              have hh196 : zh_ok D cA RTg ro sz H0 t196.heap lo196 := ⟨z196.1, z196.2.1, l196, z196.2.2.2⟩
              have kp196 := kp186.trans (c196.mono (ms' := gM) (by decide))
              generalize hx196 : nuG T 13 2 ((upF x183.1 15 (1)), x183.2) = x196 at jv196 jg196
              have uu196 := jv196.2.2
              unfold vOK at uu196
              have bb196 := byI_bd T x196.2.1
              refine W.eq (g2 := F0 m 155 ls181 []) rfl ?_
              refine lv_aload_n hx hb (eX12_readTime (155, .aload_n 0, 1) (List.mem_of_getElem? (i := 79) rfl)) rfl (lv_at hl181 1 rfl) ?_
              refine ff_bipush hx hb (eX12_readTime (156, .bipush 15, 2) (List.mem_of_getElem? (i := 80) rfl)) (by decide) (by decide) (fun v197 e197 => ?_)
              refine ff_ldc2 (n := 2) hx hb hown h2 (clX12_ok 105 2 (List.mem_of_getElem? (i := 7) rfl)) (eX12_readTime (158, .ldc2_w 105, 3) (List.mem_of_getElem? (i := 81) rfl)) (fun v198 e198 => ?_)
              refine tz_rowV (As := [.int v197, .long v198]) (st := []) (b := a) (C := RX12) (Ts := gT) hx hb hml hown h2 (fun _ h => h) (hX12_set l D cA ro sz H0 a v197 v198 15 n x196.1 h ha hn1 (by omega) (by decide)) ⟨rfl, rfl⟩ ⟨by decide, by decide⟩ ⟨by decide, by decide⟩ (tb_8 72 rfl rfl) (tb_1 12 rfl rfl) (tb_8 69 rfl rfl) (tb_8 71 rfl rfl) (tb_0 42 rfl rfl) (show yX12_set.cls ≠ "java/lang/invoke/MethodHandle" ∧ yX12_set.cls ≠ "java/lang/invoke/VarHandle" ∧ (parseMethodDescriptor yX12_set.desc).map (fun d => d.parameters.length) = some 2 by decide +kernel) zs_blind (zs_ob hh196 ha (show RTg[11]? = some (0, 11, 0, fsX12) from rfl) (zCX12 hKn.1)) (fun U hU hW => ⟨rfl, by rw [hU]; exact hh196.l0, zKb s U hW.alike hKn, by rw [hU]; exact jg196⟩) hh196.2.2.1 hl181.1 (Nat.le_of_ble_eq_true rfl) (eX12_readTime (161, .invokevirtual 357, 3) (List.mem_of_getElem? (i := 82) rfl)) (fun r199 s199 t199 lo199 g199 f199 l199 => ?_)
              obtain ⟨q199, z199, c199, jg199⟩ := f199
              cases q199
              rw [g199] at c199
              have hh199 : zh_ok D cA RTg ro sz H0 t199.heap lo199 := ⟨z199.1, z199.2.1, l199, z199.2.2.2⟩
              have kp199 := kp196.trans (c199.mono (ms' := gM) (by decide))
              have jg199 : jG D cA ro t199.heap a n (upF x196.1 15 (2)) h := by rw [← show v198.toInt = 2 by omega]; exact jg199
              have jv199 := jv196.kept ha c199 (by decide)
              refine W.eq (g2 := F0 m 164 ls181 []) rfl ?_
              exact jn164 (upF x196.1 15 (2)) x196.2 v180 2 ls181 _ _ hh199 kp199 jv199 jg199 (by omega) (by first | (simp only [trG, tm0G, tmsG, tm1G, tm2G, tmiG, tseG, upS, ad1, hx164, hx183, hx196, if_neg d168, if_pos d179, if_pos d194, up_eq]; done) | (simp only [trG, tm0G, tmsG, tm1G, tm2G, tmiG, tseG, upS, ad1, hx164, hx183, hx196, if_neg d168, if_pos d179, if_pos d194, up_eq] <;> rfl) | rfl) (lv_sub hl181 [0, 1, 2] rfl)
  · skip
    refine lv_iload_n hx hb (eX12_readTime (29, .iload_n 1, 1) (List.mem_of_getElem? (i := 16) rfl)) rfl (lv_at hl165 2 rfl) ?_
    refine ff_iconst hx hb (eX12_readTime (30, .iconst 2, 1) (List.mem_of_getElem? (i := 17) rfl)) (by decide) (by decide) (fun v200 e200 => ?_)
    refine ff_icmp_eq hx hb (eX12_readTime (31, .if_icmp .eq 64, 3) (List.mem_of_getElem? (i := 18) rfl)) (tgt := 95) rfl (fun c201 => ?_) (fun c201 => ?_)
    · skip
      have d202 : ¬ ((x164.2.2.1 < 0 ∧ mo ≠ 2) ∧ byI T x164.2.1 = 58) := by omega
      refine lv_aload_n hx hb (eX12_readTime (95, .aload_n 0, 1) (List.mem_of_getElem? (i := 50) rfl)) rfl (lv_at hl165 1 rfl) ?_
      refine tz_rowV (As := []) (st := []) (b := a) (C := RX12) (Ts := gT) hx hb hml hown h2 (fun _ h => h) (hX12_isGood l D cA ro sz H0 a T (x164.2) ha) ⟨rfl, rfl⟩ ⟨by decide, by decide⟩ ⟨by decide, by decide⟩ (tb_8 17 rfl rfl) (tb_1 12 rfl rfl) (tb_8 14 rfl rfl) (tb_8 16 rfl rfl) (tb_0 31 rfl rfl) (show yX12_isGood.cls ≠ "java/lang/invoke/MethodHandle" ∧ yX12_isGood.cls ≠ "java/lang/invoke/VarHandle" ∧ (parseMethodDescriptor yX12_isGood.desc).map (fun d => d.parameters.length) = some 0 by decide +kernel) zs_blind (zs_ob hh166 ha (show RTg[11]? = some (0, 11, 0, fsX12) from rfl) (zCX12 hKn.1)) (fun U hU hW => ⟨rfl, by rw [hU]; exact hh166.l0, zKb s U hW.alike hKn, by rw [hU]; exact jv164⟩) hh166.2.2.1 hl165.1 (Nat.le_of_ble_eq_true rfl) (eX12_readTime (96, .invokevirtual 305, 3) (List.mem_of_getElem? (i := 51) rfl)) (fun r203 s203 t203 lo203 g203 f203 l203 => ?_)
      obtain ⟨z203, v203, q203, e203⟩ := f203
      cases q203
      rw [z203, g203]
      have hh203 : zh_ok D cA RTg ro sz H0 t164.heap lo203 := ⟨hh166.1, hh166.2.1, l203, hh166.2.2.2⟩
      refine W.eq (g2 := F0 m 99 ls165 [.int v203]) rfl ?_
      refine ff_if_eq hx hb (eX12_readTime (99, .ifCond .eq 65, 3) (List.mem_of_getElem? (i := 52) rfl)) (tgt := 164) rfl (fun c204 => ?_) (fun c204 => ?_)
      · skip
        have d205 : ¬ ((x164.2.2.1 < 0 ∧ mo ≠ 1) ∧ isD (byI T x164.2.1)) := by omega
        exact jn164 x164.1 x164.2 mv mo ls165 _ _ hh203 kp164 jv164 jg164 (by omega) (by first | (simp only [trG, tm0G, tmsG, tm1G, tm2G, tmiG, tseG, upS, ad1, hx164, if_neg d202, if_neg d205, up_eq]; done) | (simp only [trG, tm0G, tmsG, tm1G, tm2G, tmiG, tseG, upS, ad1, hx164, if_neg d202, if_neg d205, up_eq] <;> rfl) | rfl) (lv_sub hl165 [0, 1, 2] rfl)
      · skip
        refine lv_iload_n hx hb (eX12_readTime (102, .iload_n 1, 1) (List.mem_of_getElem? (i := 53) rfl)) rfl (lv_at hl165 2 rfl) ?_
        refine ff_iconst hx hb (eX12_readTime (103, .iconst 1, 1) (List.mem_of_getElem? (i := 54) rfl)) (by decide) (by decide) (fun v206 e206 => ?_)
        refine ff_icmp_eq hx hb (eX12_readTime (104, .if_icmp .eq 60, 3) (List.mem_of_getElem? (i := 55) rfl)) (tgt := 164) rfl (fun c207 => ?_) (fun c207 => ?_)
        · skip
          have d208 : ¬ ((x164.2.2.1 < 0 ∧ mo ≠ 1) ∧ isD (byI T x164.2.1)) := by omega
          exact jn164 x164.1 x164.2 mv mo ls165 _ _ hh203 kp164 jv164 jg164 (by omega) (by first | (simp only [trG, tm0G, tmsG, tm1G, tm2G, tmiG, tseG, upS, ad1, hx164, if_neg d202, if_neg d208, up_eq]; done) | (simp only [trG, tm0G, tmsG, tm1G, tm2G, tmiG, tseG, upS, ad1, hx164, if_neg d202, if_neg d208, up_eq] <;> rfl) | rfl) (lv_sub hl165 [0, 1, 2] rfl)
        · skip
          refine lv_aload_n hx hb (eX12_readTime (107, .aload_n 0, 1) (List.mem_of_getElem? (i := 56) rfl)) rfl (lv_at hl165 1 rfl) ?_
          refine tz_rowV (As := []) (st := []) (b := a) (C := RX12) (Ts := gT) hx hb hml hown h2 (fun _ h => h) (hX12_sign l D cA ro sz H0 a T (x164.2) ha) ⟨rfl, rfl⟩ ⟨by decide, by decide⟩ ⟨by decide, by decide⟩ (tb_8 21 rfl rfl) (tb_1 12 rfl rfl) (tb_8 18 rfl rfl) (tb_8 20 rfl rfl) (tb_0 32 rfl rfl) (show yX12_sign.cls ≠ "java/lang/invoke/MethodHandle" ∧ yX12_sign.cls ≠ "java/lang/invoke/VarHandle" ∧ (parseMethodDescriptor yX12_sign.desc).map (fun d => d.parameters.length) = some 0 by decide +kernel) zs_blind (zs_ob hh203 ha (show RTg[11]? = some (0, 11, 0, fsX12) from rfl) (zCX12 hKn.1)) (fun U hU hW => ⟨rfl, by rw [hU]; exact hh203.l0, zKb s U hW.alike hKn, by rw [hU]; exact jv164⟩) hh203.2.2.1 hl165.1 (Nat.le_of_ble_eq_true rfl) (eX12_readTime (108, .invokevirtual 309, 3) (List.mem_of_getElem? (i := 57) rfl)) (fun r209 s209 t209 lo209 g209 f209 l209 => ?_)
          obtain ⟨z209, v209, q209, e209⟩ := f209
          cases q209
          rw [z209, g209]
          have hh209 : zh_ok D cA RTg ro sz H0 t164.heap lo209 := ⟨hh203.1, hh203.2.1, l209, hh203.2.2.2⟩
          refine W.eq (g2 := F0 m 111 ls165 [.int v209]) rfl ?_
          refine zu_S (vs := [.int v209]) (rest := []) hx hb hml hown hts0 zu_BT (hX12_isDigit l v209) ⟨rfl, rfl⟩ ⟨by decide, by decide⟩ ⟨by decide, by decide⟩ (tb_8 27 rfl rfl) (tb_1 12 rfl rfl) (tb_8 25 rfl rfl) (tb_8 26 rfl rfl) (show yX12_isDigit.cls ≠ "java/lang/invoke/MethodHandle" ∧ yX12_isDigit.cls ≠ "java/lang/invoke/VarHandle" ∧ (parseMethodDescriptor yX12_isDigit.desc).map (fun d => d.parameters.length) = some 1 by decide +kernel) rfl (fun _ _ _ => trivial) hl165.1 (Nat.le_of_ble_eq_true rfl) (eX12_readTime (111, .invokestatic 319, 3) (List.mem_of_getElem? (i := 58) rfl)) (fun w210 f210 => ?_)
          obtain ⟨v210, rfl, e210⟩ := f210
          refine ff_if_eq hx hb (eX12_readTime (114, .ifCond .eq 50, 3) (List.mem_of_getElem? (i := 59) rfl)) (tgt := 164) rfl (fun c211 => ?_) (fun c211 => ?_)
          · skip
            have d212 : ¬ ((x164.2.2.1 < 0 ∧ mo ≠ 1) ∧ isD (byI T x164.2.1)) := by omega
            exact jn164 x164.1 x164.2 mv mo ls165 _ _ hh209 kp164 jv164 jg164 (by omega) (by first | (simp only [trG, tm0G, tmsG, tm1G, tm2G, tmiG, tseG, upS, ad1, hx164, if_neg d202, if_neg d212, up_eq]; done) | (simp only [trG, tm0G, tmsG, tm1G, tm2G, tmiG, tseG, upS, ad1, hx164, if_neg d202, if_neg d212, up_eq] <;> rfl) | rfl) (lv_sub hl165 [0, 1, 2] rfl)
          · skip
            have d213 : (x164.2.2.1 < 0 ∧ mo ≠ 1) ∧ isD (byI T x164.2.1) := by omega
            refine ff_iconst hx hb (eX12_readTime (117, .iconst 2, 1) (List.mem_of_getElem? (i := 60) rfl)) (by decide) (by decide) (fun v214 e214 => ?_)
            refine lv_istore_n hx hb (eX12_readTime (118, .istore_n 2, 1) (List.mem_of_getElem? (i := 61) rfl)) rfl hl165 (by decide) rfl (fun ls215 hl215 => ?_)
            refine lv_aload_n hx hb (eX12_readTime (119, .aload_n 0, 1) (List.mem_of_getElem? (i := 62) rfl)) rfl (lv_at hl215 1 rfl) ?_
            refine ff_bipush hx hb (eX12_readTime (120, .bipush 11, 2) (List.mem_of_getElem? (i := 63) rfl)) (by decide) (by decide) (fun v216 e216 => ?_)
            refine tz_rowV (As := [.int v216]) (st := []) (b := a) (C := RX12) (Ts := gT) hx hb hml hown h2 (fun _ h => h) (hX12_timeNumber l D cA ro sz H0 a v216 11 T (x164.2) n x164.1 h ha hn1 hT (by omega) (by decide)) ⟨rfl, rfl⟩ ⟨by decide, by decide⟩ ⟨by decide, by decide⟩ (tb_8 80 rfl rfl) (tb_1 12 rfl rfl) (tb_8 77 rfl rfl) (tb_8 79 rfl rfl) (tb_0 44 rfl rfl) (show yX12_timeNumber.cls ≠ "java/lang/invoke/MethodHandle" ∧ yX12_timeNumber.cls ≠ "java/lang/invoke/VarHandle" ∧ (parseMethodDescriptor yX12_timeNumber.desc).map (fun d => d.parameters.length) = some 1 by decide +kernel) zs_blind (zs_ob hh209 ha (show RTg[11]? = some (0, 11, 0, fsX12) from rfl) (zCX12 hKn.1)) (fun U hU hW => ⟨rfl, by rw [hU]; exact hh209.l0, zKb s U hW.alike hKn, by rw [hU]; exact ⟨jv164, jg164⟩⟩) hh209.2.2.1 hl215.1 (Nat.le_of_ble_eq_true rfl) (eX12_readTime (122, .invokevirtual 377, 3) (List.mem_of_getElem? (i := 64) rfl)) (fun r217 s217 t217 lo217 g217 f217 l217 => ?_)
            obtain ⟨q217, z217, c217, jv217, jg217⟩ := f217
            cases q217
            rw [g217] at c217
            have hh217 : zh_ok D cA RTg ro sz H0 t217.heap lo217 := ⟨z217.1, z217.2.1, l217, z217.2.2.2⟩
            have kp217 := kp164.trans (c217.mono (ms' := gM) (by decide))
            generalize hx217 : nuG T 11 2 (x164.1, x164.2) = x217 at jv217 jg217
            have uu217 := jv217.2.2
            unfold vOK at uu217
            have bb217 := byI_bd T x217.2.1
            refine W.eq (g2 := F0 m 125 ls215 []) rfl ?_
            refine lv_aload_n hx hb (eX12_readTime (125, .aload_n 0, 1) (List.mem_of_getElem? (i := 65) rfl)) rfl (lv_at hl215 1 rfl) ?_
            refine ff_bipush hx hb (eX12_readTime (126, .bipush 15, 2) (List.mem_of_getElem? (i := 66) rfl)) (by decide) (by decide) (fun v218 e218 => ?_)
            refine ff_lconst hx hb (eX12_readTime (128, .lconst 1, 1) (List.mem_of_getElem? (i := 67) rfl)) rfl (fun v219 e219 => ?_)
            refine tz_rowV (As := [.int v218, .long v219]) (st := []) (b := a) (C := RX12) (Ts := gT) hx hb hml hown h2 (fun _ h => h) (hX12_set l D cA ro sz H0 a v218 v219 15 n x217.1 h ha hn1 (by omega) (by decide)) ⟨rfl, rfl⟩ ⟨by decide, by decide⟩ ⟨by decide, by decide⟩ (tb_8 72 rfl rfl) (tb_1 12 rfl rfl) (tb_8 69 rfl rfl) (tb_8 71 rfl rfl) (tb_0 42 rfl rfl) (show yX12_set.cls ≠ "java/lang/invoke/MethodHandle" ∧ yX12_set.cls ≠ "java/lang/invoke/VarHandle" ∧ (parseMethodDescriptor yX12_set.desc).map (fun d => d.parameters.length) = some 2 by decide +kernel) zs_blind (zs_ob hh217 ha (show RTg[11]? = some (0, 11, 0, fsX12) from rfl) (zCX12 hKn.1)) (fun U hU hW => ⟨rfl, by rw [hU]; exact hh217.l0, zKb s U hW.alike hKn, by rw [hU]; exact jg217⟩) hh217.2.2.1 hl215.1 (Nat.le_of_ble_eq_true rfl) (eX12_readTime (129, .invokevirtual 357, 3) (List.mem_of_getElem? (i := 68) rfl)) (fun r220 s220 t220 lo220 g220 f220 l220 => ?_)
            obtain ⟨q220, z220, c220, jg220⟩ := f220
            cases q220
            rw [g220] at c220
            have hh220 : zh_ok D cA RTg ro sz H0 t220.heap lo220 := ⟨z220.1, z220.2.1, l220, z220.2.2.2⟩
            have kp220 := kp217.trans (c220.mono (ms' := gM) (by decide))
            have jg220 : jG D cA ro t220.heap a n (upF x217.1 15 (1)) h := by rw [← show v219.toInt = 1 by omega]; exact jg220
            have jv220 := jv217.kept ha c220 (by decide)
            refine W.eq (g2 := F0 m 132 ls215 []) rfl ?_
            refine lv_aload_n hx hb (eX12_readTime (132, .aload_n 0, 1) (List.mem_of_getElem? (i := 69) rfl)) rfl (lv_at hl215 1 rfl) ?_
            refine tz_rowV (As := []) (st := []) (b := a) (C := RX12) (Ts := gT) hx hb hml hown h2 (fun _ h => h) (hX12_isGood l D cA ro sz H0 a T (x217.2) ha) ⟨rfl, rfl⟩ ⟨by decide, by decide⟩ ⟨by decide, by decide⟩ (tb_8 17 rfl rfl) (tb_1 12 rfl rfl) (tb_8 14 rfl rfl) (tb_8 16 rfl rfl) (tb_0 31 rfl rfl) (show yX12_isGood.cls ≠ "java/lang/invoke/MethodHandle" ∧ yX12_isGood.cls ≠ "java/lang/invoke/VarHandle" ∧ (parseMethodDescriptor yX12_isGood.desc).map (fun d => d.parameters.length) = some 0 by decide +kernel) zs_blind (zs_ob hh220 ha (show RTg[11]? = some (0, 11, 0, fsX12) from rfl) (zCX12 hKn.1)) (fun U hU hW => ⟨rfl, by rw [hU]; exact hh220.l0, zKb s U hW.alike hKn, by rw [hU]; exact jv220⟩) hh220.2.2.1 hl215.1 (Nat.le_of_ble_eq_true rfl) (eX12_readTime (133, .invokevirtual 305, 3) (List.mem_of_getElem? (i := 70) rfl)) (fun r221 s221 t221 lo221 g221 f221 l221 => ?_)
            obtain ⟨z221, v221, q221, e221⟩ := f221
            cases q221
            rw [z221, g221]
            have hh221 : zh_ok D cA RTg ro sz H0 t220.heap lo221 := ⟨hh220.1, hh220.2.1, l221, hh220.2.2.2⟩
            refine W.eq (g2 := F0 m 136 ls215 [.int v221]) rfl ?_
            refine ff_if_eq hx hb (eX12_readTime (136, .ifCond .eq 28, 3) (List.mem_of_getElem? (i := 71) rfl)) (tgt := 164) rfl (fun c222 => ?_) (fun c222 => ?_)
            · skip
              have d223 : ¬ (x217.2.2.1 < 0 ∧ isD (byI T x217.2.1)) := by omega
              exact jn164 (upF x217.1 15 (1)) x217.2 v214 2 ls215 _ _ hh221 kp220 jv220 jg220 (by omega) (by first | (simp only [trG, tm0G, tmsG, tm1G, tm2G, tmiG, tseG, upS, ad1, hx164, hx217, if_neg d202, if_pos d213, if_neg d223, up_eq]; done) | (simp only [trG, tm0G, tmsG, tm1G, tm2G, tmiG, tseG, upS, ad1, hx164, hx217, if_neg d202, if_pos d213, if_neg d223, up_eq] <;> rfl) | rfl) (lv_sub hl215 [0, 1, 2] rfl)
            · skip
              refine lv_aload_n hx hb (eX12_readTime (139, .aload_n 0, 1) (List.mem_of_getElem? (i := 72) rfl)) rfl (lv_at hl215 1 rfl) ?_
              refine tz_rowV (As := []) (st := []) (b := a) (C := RX12) (Ts := gT) hx hb hml hown h2 (fun _ h => h) (hX12_sign l D cA ro sz H0 a T (x217.2) ha) ⟨rfl, rfl⟩ ⟨by decide, by decide⟩ ⟨by decide, by decide⟩ (tb_8 21 rfl rfl) (tb_1 12 rfl rfl) (tb_8 18 rfl rfl) (tb_8 20 rfl rfl) (tb_0 32 rfl rfl) (show yX12_sign.cls ≠ "java/lang/invoke/MethodHandle" ∧ yX12_sign.cls ≠ "java/lang/invoke/VarHandle" ∧ (parseMethodDescriptor yX12_sign.desc).map (fun d => d.parameters.length) = some 0 by decide +kernel) zs_blind (zs_ob hh221 ha (show RTg[11]? = some (0, 11, 0, fsX12) from rfl) (zCX12 hKn.1)) (fun U hU hW => ⟨rfl, by rw [hU]; exact hh221.l0, zKb s U hW.alike hKn, by rw [hU]; exact jv220⟩) hh221.2.2.1 hl215.1 (Nat.le_of_ble_eq_true rfl) (eX12_readTime (140, .invokevirtual 309, 3) (List.mem_of_getElem? (i := 73) rfl)) (fun r224 s224 t224 lo224 g224 f224 l224 => ?_)
              obtain ⟨z224, v224, q224, e224⟩ := f224
              cases q224
              rw [z224, g224]
              have hh224 : zh_ok D cA RTg ro sz H0 t220.heap lo224 := ⟨hh221.1, hh221.2.1, l224, hh221.2.2.2⟩
              refine W.eq (g2 := F0 m 143 ls215 [.int v224]) rfl ?_
              refine zu_S (vs := [.int v224]) (rest := []) hx hb hml hown hts0 zu_BT (hX12_isDigit l v224) ⟨rfl, rfl⟩ ⟨by decide, by decide⟩ ⟨by decide, by decide⟩ (tb_8 27 rfl rfl) (tb_1 12 rfl rfl) (tb_8 25 rfl rfl) (tb_8 26 rfl rfl) (show yX12_isDigit.cls ≠ "java/lang/invoke/MethodHandle" ∧ yX12_isDigit.cls ≠ "java/lang/invoke/VarHandle" ∧ (parseMethodDescriptor yX12_isDigit.desc).map (fun d => d.parameters.length) = some 1 by decide +kernel) rfl (fun _ _ _ => trivial) hl215.1 (Nat.le_of_ble_eq_true rfl) (eX12_readTime (143, .invokestatic 319, 3) (List.mem_of_getElem? (i := 74) rfl)) (fun w225 f225 => ?_)
              obtain ⟨v225, rfl, e225⟩ := f225
              refine ff_if_eq hx hb (eX12_readTime (146, .ifCond .eq 18, 3) (List.mem_of_getElem? (i := 75) rfl)) (tgt := 164) rfl (fun c226 => ?_) (fun c226 => ?_)
              · skip
                have d227 : ¬ (x217.2.2.1 < 0 ∧ isD (byI T x217.2.1)) := by omega
                exact jn164 (upF x217.1 15 (1)) x217.2 v214 2 ls215 _ _ hh224 kp220 jv220 jg220 (by omega) (by first | (simp only [trG, tm0G, tmsG, tm1G, tm2G, tmiG, tseG, upS, ad1, hx164, hx217, if_neg d202, if_pos d213, if_neg d227, up_eq]; done) | (simp only [trG, tm0G, tmsG, tm1G, tm2G, tmiG, tseG, upS, ad1, hx164, hx217, if_neg d202, if_pos d213, if_neg d227, up_eq] <;> rfl) | rfl) (lv_sub hl215 [0, 1, 2] rfl)
              · skip
                have d228 : x217.2.2.1 < 0 ∧ isD (byI T x217.2.1) := by omega
                refine lv_aload_n hx hb (eX12_readTime (149, .aload_n 0, 1) (List.mem_of_getElem? (i := 76) rfl)) rfl (lv_at hl215 1 rfl) ?_
                refine ff_bipush hx hb (eX12_readTime (150, .bipush 13, 2) (List.mem_of_getElem? (i := 77) rfl)) (by decide) (by decide) (fun v229 e229 => ?_)
                refine tz_rowV (As := [.int v229]) (st := []) (b := a) (C := RX12) (Ts := gT) hx hb hml hown h2 (fun _ h => h) (hX12_timeNumber l D cA ro sz H0 a v229 13 T (x217.2) n (upF x217.1 15 (1)) h ha hn1 hT (by omega) (by decide)) ⟨rfl, rfl⟩ ⟨by decide, by decide⟩ ⟨by decide, by decide⟩ (tb_8 80 rfl rfl) (tb_1 12 rfl rfl) (tb_8 77 rfl rfl) (tb_8 79 rfl rfl) (tb_0 44 rfl rfl) (show yX12_timeNumber.cls ≠ "java/lang/invoke/MethodHandle" ∧ yX12_timeNumber.cls ≠ "java/lang/invoke/VarHandle" ∧ (parseMethodDescriptor yX12_timeNumber.desc).map (fun d => d.parameters.length) = some 1 by decide +kernel) zs_blind (zs_ob hh224 ha (show RTg[11]? = some (0, 11, 0, fsX12) from rfl) (zCX12 hKn.1)) (fun U hU hW => ⟨rfl, by rw [hU]; exact hh224.l0, zKb s U hW.alike hKn, by rw [hU]; exact ⟨jv220, jg220⟩⟩) hh224.2.2.1 hl215.1 (Nat.le_of_ble_eq_true rfl) (eX12_readTime (152, .invokevirtual 377, 3) (List.mem_of_getElem? (i := 78) rfl)) (fun r230 s230 t230 lo230 g230 f230 l230 => ?_)
                obtain ⟨q230, z230, c230, jv230, jg230⟩ := f230
                cases q230
                rw [g230] at c230
                have hh230 : zh_ok D cA RTg ro sz H0 t230.heap lo230 := ⟨z230.1, z230.2.1, l230, z230.2.2.2⟩
                have kp230 := kp220.trans (c230.mono (ms' := gM) (by decide))
                generalize hx230 : nuG T 13 2 ((upF x217.1 15 (1)), x217.2) = x230 at jv230 jg230
                have uu230 := jv230.2.2
                unfold vOK at uu230
                have bb230 := byI_bd T x230.2.1
                refine W.eq (g2 := F0 m 155 ls215 []) rfl ?_
                refine lv_aload_n hx hb (eX12_readTime (155, .aload_n 0, 1) (List.mem_of_getElem? (i := 79) rfl)) rfl (lv_at hl215 1 rfl) ?_
                refine ff_bipush hx hb (eX12_readTime (156, .bipush 15, 2) (List.mem_of_getElem? (i := 80) rfl)) (by decide) (by decide) (fun v231 e231 => ?_)
                refine ff_ldc2 (n := 2) hx hb hown h2 (clX12_ok 105 2 (List.mem_of_getElem? (i := 7) rfl)) (eX12_readTime (158, .ldc2_w 105, 3) (List.mem_of_getElem? (i := 81) rfl)) (fun v232 e232 => ?_)
                refine tz_rowV (As := [.int v231, .long v232]) (st := []) (b := a) (C := RX12) (Ts := gT) hx hb hml hown h2 (fun _ h => h) (hX12_set l D cA ro sz H0 a v231 v232 15 n x230.1 h ha hn1 (by omega) (by decide)) ⟨rfl, rfl⟩ ⟨by decide, by decide⟩ ⟨by decide, by decide⟩ (tb_8 72 rfl rfl) (tb_1 12 rfl rfl) (tb_8 69 rfl rfl) (tb_8 71 rfl rfl) (tb_0 42 rfl rfl) (show yX12_set.cls ≠ "java/lang/invoke/MethodHandle" ∧ yX12_set.cls ≠ "java/lang/invoke/VarHandle" ∧ (parseMethodDescriptor yX12_set.desc).map (fun d => d.parameters.length) = some 2 by decide +kernel) zs_blind (zs_ob hh230 ha (show RTg[11]? = some (0, 11, 0, fsX12) from rfl) (zCX12 hKn.1)) (fun U hU hW => ⟨rfl, by rw [hU]; exact hh230.l0, zKb s U hW.alike hKn, by rw [hU]; exact jg230⟩) hh230.2.2.1 hl215.1 (Nat.le_of_ble_eq_true rfl) (eX12_readTime (161, .invokevirtual 357, 3) (List.mem_of_getElem? (i := 82) rfl)) (fun r233 s233 t233 lo233 g233 f233 l233 => ?_)
                obtain ⟨q233, z233, c233, jg233⟩ := f233
                cases q233
                rw [g233] at c233
                have hh233 : zh_ok D cA RTg ro sz H0 t233.heap lo233 := ⟨z233.1, z233.2.1, l233, z233.2.2.2⟩
                have kp233 := kp230.trans (c233.mono (ms' := gM) (by decide))
                have jg233 : jG D cA ro t233.heap a n (upF x230.1 15 (2)) h := by rw [← show v232.toInt = 2 by omega]; exact jg233
                have jv233 := jv230.kept ha c233 (by decide)
                refine W.eq (g2 := F0 m 164 ls215 []) rfl ?_
                exact jn164 (upF x230.1 15 (2)) x230.2 v214 2 ls215 _ _ hh233 kp233 jv233 jg233 (by omega) (by first | (simp only [trG, tm0G, tmsG, tm1G, tm2G, tmiG, tseG, upS, ad1, hx164, hx217, hx230, if_neg d202, if_pos d213, if_pos d228, up_eq]; done) | (simp only [trG, tm0G, tmsG, tm1G, tm2G, tmiG, tseG, upS, ad1, hx164, hx217, hx230, if_neg d202, if_pos d213, if_pos d228, up_eq] <;> rfl) | rfl) (lv_sub hl215 [0, 1, 2] rfl)
    · skip
      refine lv_aload_n hx hb (eX12_readTime (34, .aload_n 0, 1) (List.mem_of_getElem? (i := 19) rfl)) rfl (lv_at hl165 1 rfl) ?_
      refine tz_rowV (As := []) (st := []) (b := a) (C := RX12) (Ts := gT) hx hb hml hown h2 (fun _ h => h) (hX12_sign l D cA ro sz H0 a T (x164.2) ha) ⟨rfl, rfl⟩ ⟨by decide, by decide⟩ ⟨by decide, by decide⟩ (tb_8 21 rfl rfl) (tb_1 12 rfl rfl) (tb_8 18 rfl rfl) (tb_8 20 rfl rfl) (tb_0 32 rfl rfl) (show yX12_sign.cls ≠ "java/lang/invoke/MethodHandle" ∧ yX12_sign.cls ≠ "java/lang/invoke/VarHandle" ∧ (parseMethodDescriptor yX12_sign.desc).map (fun d => d.parameters.length) = some 0 by decide +kernel) zs_blind (zs_ob hh166 ha (show RTg[11]? = some (0, 11, 0, fsX12) from rfl) (zCX12 hKn.1)) (fun U hU hW => ⟨rfl, by rw [hU]; exact hh166.l0, zKb s U hW.alike hKn, by rw [hU]; exact jv164⟩) hh166.2.2.1 hl165.1 (Nat.le_of_ble_eq_true rfl) (eX12_readTime (35, .invokevirtual 309, 3) (List.mem_of_getElem? (i := 20) rfl)) (fun r234 s234 t234 lo234 g234 f234 l234 => ?_)
      obtain ⟨z234, v234, q234, e234⟩ := f234
      cases q234
      rw [z234, g234]
      have hh234 : zh_ok D cA RTg ro sz H0 t164.heap lo234 := ⟨hh166.1, hh166.2.1, l234, hh166.2.2.2⟩
      refine W.eq (g2 := F0 m 38 ls165 [.int v234]) rfl ?_
      refine ff_bipush hx hb (eX12_readTime (38, .bipush 58, 2) (List.mem_of_getElem? (i := 21) rfl)) (by decide) (by decide) (fun v235 e235 => ?_)
      refine ff_icmp_ne hx hb (eX12_readTime (40, .if_icmp .ne 55, 3) (List.mem_of_getElem? (i := 22) rfl)) (tgt := 95) rfl (fun c236 => ?_) (fun c236 => ?_)
      · skip
        have d237 : ¬ ((x164.2.2.1 < 0 ∧ mo ≠ 2) ∧ byI T x164.2.1 = 58) := by omega
        refine lv_aload_n hx hb (eX12_readTime (95, .aload_n 0, 1) (List.mem_of_getElem? (i := 50) rfl)) rfl (lv_at hl165 1 rfl) ?_
        refine tz_rowV (As := []) (st := []) (b := a) (C := RX12) (Ts := gT) hx hb hml hown h2 (fun _ h => h) (hX12_isGood l D cA ro sz H0 a T (x164.2) ha) ⟨rfl, rfl⟩ ⟨by decide, by decide⟩ ⟨by decide, by decide⟩ (tb_8 17 rfl rfl) (tb_1 12 rfl rfl) (tb_8 14 rfl rfl) (tb_8 16 rfl rfl) (tb_0 31 rfl rfl) (show yX12_isGood.cls ≠ "java/lang/invoke/MethodHandle" ∧ yX12_isGood.cls ≠ "java/lang/invoke/VarHandle" ∧ (parseMethodDescriptor yX12_isGood.desc).map (fun d => d.parameters.length) = some 0 by decide +kernel) zs_blind (zs_ob hh234 ha (show RTg[11]? = some (0, 11, 0, fsX12) from rfl) (zCX12 hKn.1)) (fun U hU hW => ⟨rfl, by rw [hU]; exact hh234.l0, zKb s U hW.alike hKn, by rw [hU]; exact jv164⟩) hh234.2.2.1 hl165.1 (Nat.le_of_ble_eq_true rfl) (eX12_readTime (96, .invokevirtual 305, 3) (List.mem_of_getElem? (i := 51) rfl)) (fun r238 s238 t238 lo238 g238 f238 l238 => ?_)
        obtain ⟨z238, v238, q238, e238⟩ := f238
        cases q238
        rw [z238, g238]
        have hh238 : zh_ok D cA RTg ro sz H0 t164.heap lo238 := ⟨hh234.1, hh234.2.1, l238, hh234.2.2.2⟩
        refine W.eq (g2 := F0 m 99 ls165 [.int v238]) rfl ?_
        refine ff_if_eq hx hb (eX12_readTime (99, .ifCond .eq 65, 3) (List.mem_of_getElem? (i := 52) rfl)) (tgt := 164) rfl (fun c239 => ?_) (fun c239 => ?_)
        · skip
          have d240 : ¬ ((x164.2.2.1 < 0 ∧ mo ≠ 1) ∧ isD (byI T x164.2.1)) := by omega
          exact jn164 x164.1 x164.2 mv mo ls165 _ _ hh238 kp164 jv164 jg164 (by omega) (by first | (simp only [trG, tm0G, tmsG, tm1G, tm2G, tmiG, tseG, upS, ad1, hx164, if_neg d237, if_neg d240, up_eq]; done) | (simp only [trG, tm0G, tmsG, tm1G, tm2G, tmiG, tseG, upS, ad1, hx164, if_neg d237, if_neg d240, up_eq] <;> rfl) | rfl) (lv_sub hl165 [0, 1, 2] rfl)
        · skip
          refine lv_iload_n hx hb (eX12_readTime (102, .iload_n 1, 1) (List.mem_of_getElem? (i := 53) rfl)) rfl (lv_at hl165 2 rfl) ?_
          refine ff_iconst hx hb (eX12_readTime (103, .iconst 1, 1) (List.mem_of_getElem? (i := 54) rfl)) (by decide) (by decide) (fun v241 e241 => ?_)
          refine ff_icmp_eq hx hb (eX12_readTime (104, .if_icmp .eq 60, 3) (List.mem_of_getElem? (i := 55) rfl)) (tgt := 164) rfl (fun c242 => ?_) (fun c242 => ?_)
          · skip
            have d243 : ¬ ((x164.2.2.1 < 0 ∧ mo ≠ 1) ∧ isD (byI T x164.2.1)) := by omega
            exact jn164 x164.1 x164.2 mv mo ls165 _ _ hh238 kp164 jv164 jg164 (by omega) (by first | (simp only [trG, tm0G, tmsG, tm1G, tm2G, tmiG, tseG, upS, ad1, hx164, if_neg d237, if_neg d243, up_eq]; done) | (simp only [trG, tm0G, tmsG, tm1G, tm2G, tmiG, tseG, upS, ad1, hx164, if_neg d237, if_neg d243, up_eq] <;> rfl) | rfl) (lv_sub hl165 [0, 1, 2] rfl)
          · skip
            refine lv_aload_n hx hb (eX12_readTime (107, .aload_n 0, 1) (List.mem_of_getElem? (i := 56) rfl)) rfl (lv_at hl165 1 rfl) ?_
            refine tz_rowV (As := []) (st := []) (b := a) (C := RX12) (Ts := gT) hx hb hml hown h2 (fun _ h => h) (hX12_sign l D cA ro sz H0 a T (x164.2) ha) ⟨rfl, rfl⟩ ⟨by decide, by decide⟩ ⟨by decide, by decide⟩ (tb_8 21 rfl rfl) (tb_1 12 rfl rfl) (tb_8 18 rfl rfl) (tb_8 20 rfl rfl) (tb_0 32 rfl rfl) (show yX12_sign.cls ≠ "java/lang/invoke/MethodHandle" ∧ yX12_sign.cls ≠ "java/lang/invoke/VarHandle" ∧ (parseMethodDescriptor yX12_sign.desc).map (fun d => d.parameters.length) = some 0 by decide +kernel) zs_blind (zs_ob hh238 ha (show RTg[11]? = some (0, 11, 0, fsX12) from rfl) (zCX12 hKn.1)) (fun U hU hW => ⟨rfl, by rw [hU]; exact hh238.l0, zKb s U hW.alike hKn, by rw [hU]; exact jv164⟩) hh238.2.2.1 hl165.1 (Nat.le_of_ble_eq_true rfl) (eX12_readTime (108, .invokevirtual 309, 3) (List.mem_of_getElem? (i := 57) rfl)) (fun r244 s244 t244 lo244 g244 f244 l244 => ?_)
            obtain ⟨z244, v244, q244, e244⟩ := f244
            cases q244
            rw [z244, g244]
            have hh244 : zh_ok D cA RTg ro sz H0 t164.heap lo244 := ⟨hh238.1, hh238.2.1, l244, hh238.2.2.2⟩
            refine W.eq (g2 := F0 m 111 ls165 [.int v244]) rfl ?_
            refine zu_S (vs := [.int v244]) (rest := []) hx hb hml hown hts0 zu_BT (hX12_isDigit l v244) ⟨rfl, rfl⟩ ⟨by decide, by decide⟩ ⟨by decide, by decide⟩ (tb_8 27 rfl rfl) (tb_1 12 rfl rfl) (tb_8 25 rfl rfl) (tb_8 26 rfl rfl) (show yX12_isDigit.cls ≠ "java/lang/invoke/MethodHandle" ∧ yX12_isDigit.cls ≠ "java/lang/invoke/VarHandle" ∧ (parseMethodDescriptor yX12_isDigit.desc).map (fun d => d.parameters.length) = some 1 by decide +kernel) rfl (fun _ _ _ => trivial) hl165.1 (Nat.le_of_ble_eq_true rfl) (eX12_readTime (111, .invokestatic 319, 3) (List.mem_of_getElem? (i := 58) rfl)) (fun w245 f245 => ?_)
            obtain ⟨v245, rfl, e245⟩ := f245
            refine ff_if_eq hx hb (eX12_readTime (114, .ifCond .eq 50, 3) (List.mem_of_getElem? (i := 59) rfl)) (tgt := 164) rfl (fun c246 => ?_) (fun c246 => ?_)
            · skip
              have d247 : ¬ ((x164.2.2.1 < 0 ∧ mo ≠ 1) ∧ isD (byI T x164.2.1)) := by omega
              exact jn164 x164.1 x164.2 mv mo ls165 _ _ hh244 kp164 jv164 jg164 (by omega) (by first | (simp only [trG, tm0G, tmsG, tm1G, tm2G, tmiG, tseG, upS, ad1, hx164, if_neg d237, if_neg d247, up_eq]; done) | (simp only [trG, tm0G, tmsG, tm1G, tm2G, tmiG, tseG, upS, ad1, hx164, if_neg d237, if_neg d247, up_eq] <;> rfl) | rfl) (lv_sub hl165 [0, 1, 2] rfl)
            · skip
              have d248 : (x164.2.2.1 < 0 ∧ mo ≠ 1) ∧ isD (byI T x164.2.1) := by omega
              refine ff_iconst hx hb (eX12_readTime (117, .iconst 2, 1) (List.mem_of_getElem? (i := 60) rfl)) (by decide) (by decide) (fun v249 e249 => ?_)
              refine lv_istore_n hx hb (eX12_readTime (118, .istore_n 2, 1) (List.mem_of_getElem? (i := 61) rfl)) rfl hl165 (by decide) rfl (fun ls250 hl250 => ?_)
              refine lv_aload_n hx hb (eX12_readTime (119, .aload_n 0, 1) (List.mem_of_getElem? (i := 62) rfl)) rfl (lv_at hl250 1 rfl) ?_
              refine ff_bipush hx hb (eX12_readTime (120, .bipush 11, 2) (List.mem_of_getElem? (i := 63) rfl)) (by decide) (by decide) (fun v251 e251 => ?_)
              refine tz_rowV (As := [.int v251]) (st := []) (b := a) (C := RX12) (Ts := gT) hx hb hml hown h2 (fun _ h => h) (hX12_timeNumber l D cA ro sz H0 a v251 11 T (x164.2) n x164.1 h ha hn1 hT (by omega) (by decide)) ⟨rfl, rfl⟩ ⟨by decide, by decide⟩ ⟨by decide, by decide⟩ (tb_8 80 rfl rfl) (tb_1 12 rfl rfl) (tb_8 77 rfl rfl) (tb_8 79 rfl rfl) (tb_0 44 rfl rfl) (show yX12_timeNumber.cls ≠ "java/lang/invoke/MethodHandle" ∧ yX12_timeNumber.cls ≠ "java/lang/invoke/VarHandle" ∧ (parseMethodDescriptor yX12_timeNumber.desc).map (fun d => d.parameters.length) = some 1 by decide +kernel) zs_blind (zs_ob hh244 ha (show RTg[11]? = some (0, 11, 0, fsX12) from rfl) (zCX12 hKn.1)) (fun U hU hW => ⟨rfl, by rw [hU]; exact hh244.l0, zKb s U hW.alike hKn, by rw [hU]; exact ⟨jv164, jg164⟩⟩) hh244.2.2.1 hl250.1 (Nat.le_of_ble_eq_true rfl) (eX12_readTime (122, .invokevirtual 377, 3) (List.mem_of_getElem? (i := 64) rfl)) (fun r252 s252 t252 lo252 g252 f252 l252 => ?_)
              obtain ⟨q252, z252, c252, jv252, jg252⟩ := f252
              cases q252
              rw [g252] at c252
              have hh252 : zh_ok D cA RTg ro sz H0 t252.heap lo252 := ⟨z252.1, z252.2.1, l252, z252.2.2.2⟩
              have kp252 := kp164.trans (c252.mono (ms' := gM) (by decide))
              generalize hx252 : nuG T 11 2 (x164.1, x164.2) = x252 at jv252 jg252
              have uu252 := jv252.2.2
              unfold vOK at uu252
              have bb252 := byI_bd T x252.2.1
              refine W.eq (g2 := F0 m 125 ls250 []) rfl ?_
              refine lv_aload_n hx hb (eX12_readTime (125, .aload_n 0, 1) (List.mem_of_getElem? (i := 65) rfl)) rfl (lv_at hl250 1 rfl) ?_
              refine ff_bipush hx hb (eX12_readTime (126, .bipush 15, 2) (List.mem_of_getElem? (i := 66) rfl)) (by decide) (by decide) (fun v253 e253 => ?_)
              refine ff_lconst hx hb (eX12_readTime (128, .lconst 1, 1) (List.mem_of_getElem? (i := 67) rfl)) rfl (fun v254 e254 => ?_)
              refine tz_rowV (As := [.int v253, .long v254]) (st := []) (b := a) (C := RX12) (Ts := gT) hx hb hml hown h2 (fun _ h => h) (hX12_set l D cA ro sz H0 a v253 v254 15 n x252.1 h ha hn1 (by omega) (by decide)) ⟨rfl, rfl⟩ ⟨by decide, by decide⟩ ⟨by decide, by decide⟩ (tb_8 72 rfl rfl) (tb_1 12 rfl rfl) (tb_8 69 rfl rfl) (tb_8 71 rfl rfl) (tb_0 42 rfl rfl) (show yX12_set.cls ≠ "java/lang/invoke/MethodHandle" ∧ yX12_set.cls ≠ "java/lang/invoke/VarHandle" ∧ (parseMethodDescriptor yX12_set.desc).map (fun d => d.parameters.length) = some 2 by decide +kernel) zs_blind (zs_ob hh252 ha (show RTg[11]? = some (0, 11, 0, fsX12) from rfl) (zCX12 hKn.1)) (fun U hU hW => ⟨rfl, by rw [hU]; exact hh252.l0, zKb s U hW.alike hKn, by rw [hU]; exact jg252⟩) hh252.2.2.1 hl250.1 (Nat.le_of_ble_eq_true rfl) (eX12_readTime (129, .invokevirtual 357, 3) (List.mem_of_getElem? (i := 68) rfl)) (fun r255 s255 t255 lo255 g255 f255 l255 => ?_)
              obtain ⟨q255, z255, c255, jg255⟩ := f255
              cases q255
              rw [g255] at c255
              have hh255 : zh_ok D cA RTg ro sz H0 t255.heap lo255 := ⟨z255.1, z255.2.1, l255, z255.2.2.2⟩
              have kp255 := kp252.trans (c255.mono (ms' := gM) (by decide))
              have jg255 : jG D cA ro t255.heap a n (upF x252.1 15 (1)) h := by rw [← show v254.toInt = 1 by omega]; exact jg255
              have jv255 := jv252.kept ha c255 (by decide)
              refine W.eq (g2 := F0 m 132 ls250 []) rfl ?_
              refine lv_aload_n hx hb (eX12_readTime (132, .aload_n 0, 1) (List.mem_of_getElem? (i := 69) rfl)) rfl (lv_at hl250 1 rfl) ?_
              refine tz_rowV (As := []) (st := []) (b := a) (C := RX12) (Ts := gT) hx hb hml hown h2 (fun _ h => h) (hX12_isGood l D cA ro sz H0 a T (x252.2) ha) ⟨rfl, rfl⟩ ⟨by decide, by decide⟩ ⟨by decide, by decide⟩ (tb_8 17 rfl rfl) (tb_1 12 rfl rfl) (tb_8 14 rfl rfl) (tb_8 16 rfl rfl) (tb_0 31 rfl rfl) (show yX12_isGood.cls ≠ "java/lang/invoke/MethodHandle" ∧ yX12_isGood.cls ≠ "java/lang/invoke/VarHandle" ∧ (parseMethodDescriptor yX12_isGood.desc).map (fun d => d.parameters.length) = some 0 by decide +kernel) zs_blind (zs_ob hh255 ha (show RTg[11]? = some (0, 11, 0, fsX12) from rfl) (zCX12 hKn.1)) (fun U hU hW => ⟨rfl, by rw [hU]; exact hh255.l0, zKb s U hW.alike hKn, by rw [hU]; exact jv255⟩) hh255.2.2.1 hl250.1 (Nat.le_of_ble_eq_true rfl) (eX12_readTime (133, .invokevirtual 305, 3) (List.mem_of_getElem? (i := 70) rfl)) (fun r256 s256 t256 lo256 g256 f256 l256 => ?_)
              obtain ⟨z256, v256, q256, e256⟩ := f256
              cases q256
              rw [z256, g256]
              have hh256 : zh_ok D cA RTg ro sz H0 t255.heap lo256 := ⟨hh255.1, hh255.2.1, l256, hh255.2.2.2⟩
              refine W.eq (g2 := F0 m 136 ls250 [.int v256]) rfl ?_
              refine ff_if_eq hx hb (eX12_readTime (136, .ifCond .eq 28, 3) (List.mem_of_getElem? (i := 71) rfl)) (tgt := 164) rfl (fun c257 => ?_) (fun c257 => ?_)
              · skip
                have d258 : ¬ (x252.2.2.1 < 0 ∧ isD (byI T x252.2.1)) := by omega
                exact jn164 (upF x252.1 15 (1)) x252.2 v249 2 ls250 _ _ hh256 kp255 jv255 jg255 (by omega) (by first | (simp only [trG, tm0G, tmsG, tm1G, tm2G, tmiG, tseG, upS, ad1, hx164, hx252, if_neg d237, if_pos d248, if_neg d258, up_eq]; done) | (simp only [trG, tm0G, tmsG, tm1G, tm2G, tmiG, tseG, upS, ad1, hx164, hx252, if_neg d237, if_pos d248, if_neg d258, up_eq] <;> rfl) | rfl) (lv_sub hl250 [0, 1, 2] rfl)
              · skip
                refine lv_aload_n hx hb (eX12_readTime (139, .aload_n 0, 1) (List.mem_of_getElem? (i := 72) rfl)) rfl (lv_at hl250 1 rfl) ?_
                refine tz_rowV (As := []) (st := []) (b := a) (C := RX12) (Ts := gT) hx hb hml hown h2 (fun _ h => h) (hX12_sign l D cA ro sz H0 a T (x252.2) ha) ⟨rfl, rfl⟩ ⟨by decide, by decide⟩ ⟨by decide, by decide⟩ (tb_8 21 rfl rfl) (tb_1 12 rfl rfl) (tb_8 18 rfl rfl) (tb_8 20 rfl rfl) (tb_0 32 rfl rfl) (show yX12_sign.cls ≠ "java/lang/invoke/MethodHandle" ∧ yX12_sign.cls ≠ "java/lang/invoke/VarHandle" ∧ (parseMethodDescriptor yX12_sign.desc).map (fun d => d.parameters.length) = some 0 by decide +kernel) zs_blind (zs_ob hh256 ha (show RTg[11]? = some (0, 11, 0, fsX12) from rfl) (zCX12 hKn.1)) (fun U hU hW => ⟨rfl, by rw [hU]; exact hh256.l0, zKb s U hW.alike hKn, by rw [hU]; exact jv255⟩) hh256.2.2.1 hl250.1 (Nat.le_of_ble_eq_true rfl) (eX12_readTime (140, .invokevirtual 309, 3) (List.mem_of_getElem? (i := 73) rfl)) (fun r259 s259 t259 lo259 g259 f259 l259 => ?_)
                obtain ⟨z259, v259, q259, e259⟩ := f259
                cases q259
                rw [z259, g259]
                have hh259 : zh_ok D cA RTg ro sz H0 t255.heap lo259 := ⟨hh256.1, hh256.2.1, l259, hh256.2.2.2⟩
                refine W.eq (g2 := F0 m 143 ls250 [.int v259]) rfl ?_
                refine zu_S (vs := [.int v259]) (rest := []) hx hb hml hown hts0 zu_BT (hX12_isDigit l v259) ⟨rfl, rfl⟩ ⟨by decide, by decide⟩ ⟨by decide, by decide⟩ (tb_8 27 rfl rfl) (tb_1 12 rfl rfl) (tb_8 25 rfl rfl) (tb_8 26 rfl rfl) (show yX12_isDigit.cls ≠ "java/lang/invoke/MethodHandle" ∧ yX12_isDigit.cls ≠ "java/lang/invoke/VarHandle" ∧ (parseMethodDescriptor yX12_isDigit.desc).map (fun d => d.parameters.length) = some 1 by decide +kernel) rfl (fun _ _ _ => trivial) hl250.1 (Nat.le_of_ble_eq_true rfl) (eX12_readTime (143, .invokestatic 319, 3) (List.mem_of_getElem? (i := 74) rfl)) (fun w260 f260 => ?_)
                obtain ⟨v260, rfl, e260⟩ := f260
                refine ff_if_eq hx hb (eX12_readTime (146, .ifCond .eq 18, 3) (List.mem_of_getElem? (i := 75) rfl)) (tgt := 164) rfl (fun c261 => ?_) (fun c261 => ?_)
                · skip
                  have d262 : ¬ (x252.2.2.1 < 0 ∧ isD (byI T x252.2.1)) := by omega
                  exact jn164 (upF x252.1 15 (1)) x252.2 v249 2 ls250 _ _ hh259 kp255 jv255 jg255 (by omega) (by first | (simp only [trG, tm0G, tmsG, tm1G, tm2G, tmiG, tseG, upS, ad1, hx164, hx252, if_neg d237, if_pos d248, if_neg d262, up_eq]; done) | (simp only [trG, tm0G, tmsG, tm1G, tm2G, tmiG, tseG, upS, ad1, hx164, hx252, if_neg d237, if_pos d248, if_neg d262, up_eq] <;> rfl) | rfl) (lv_sub hl250 [0, 1, 2] rfl)
                · skip
                  have d263 : x252.2.2.1 < 0 ∧ isD (byI T x252.2.1) := by omega
                  refine lv_aload_n hx hb (eX12_readTime (149, .aload_n 0, 1) (List.mem_of_getElem? (i := 76) rfl)) rfl (lv_at hl250 1 rfl) ?_
                  refine ff_bipush hx hb (eX12_readTime (150, .bipush 13, 2) (List.mem_of_getElem? (i := 77) rfl)) (by decide) (by decide) (fun v264 e264 => ?_)
                  refine tz_rowV (As := [.int v264]) (st := []) (b := a) (C := RX12) (Ts := gT) hx hb hml hown h2 (fun _ h => h) (hX12_timeNumber l D cA ro sz H0 a v264 13 T (x252.2) n (upF x252.1 15 (1)) h ha hn1 hT (by omega) (by decide)) ⟨rfl, rfl⟩ ⟨by decide, by decide⟩ ⟨by decide, by decide⟩ (tb_8 80 rfl rfl) (tb_1 12 rfl rfl) (tb_8 77 rfl rfl) (tb_8 79 rfl rfl) (tb_0 44 rfl rfl) (show yX12_timeNumber.cls ≠ "java/lang/invoke/MethodHandle" ∧ yX12_timeNumber.cls ≠ "java/lang/invoke/VarHandle" ∧ (parseMethodDescriptor yX12_timeNumber.desc).map (fun d => d.parameters.length) = some 1 by decide +kernel) zs_blind (zs_ob hh259 ha (show RTg[11]? = some (0, 11, 0, fsX12) from rfl) (zCX12 hKn.1)) (fun U hU hW => ⟨rfl, by rw [hU]; exact hh259.l0, zKb s U hW.alike hKn, by rw [hU]; exact ⟨jv255, jg255⟩⟩) hh259.2.2.1 hl250.1 (Nat.le_of_ble_eq_true rfl) (eX12_readTime (152, .invokevirtual 377, 3) (List.mem_of_getElem? (i := 78) rfl)) (fun r265 s265 t265 lo265 g265 f265 l265 => ?_)
                  obtain ⟨q265, z265, c265, jv265, jg265⟩ := f265
                  cases q265
                  rw [g265] at c265
                  have hh265 : zh_ok D cA RTg ro sz H0 t265.heap lo265 := ⟨z265.1, z265.2.1, l265, z265.2.2.2⟩
                  have kp265 := kp255.trans (c265.mono (ms' := gM) (by decide))
                  generalize hx265 : nuG T 13 2 ((upF x252.1 15 (1)), x252.2) = x265 at jv265 jg265
                  have uu265 := jv265.2.2
                  unfold vOK at uu265
                  have bb265 := byI_bd T x265.2.1
                  refine W.eq (g2 := F0 m 155 ls250 []) rfl ?_
                  refine lv_aload_n hx hb (eX12_readTime (155, .aload_n 0, 1) (List.mem_of_getElem? (i := 79) rfl)) rfl (lv_at hl250 1 rfl) ?_
                  refine ff_bipush hx hb (eX12_readTime (156, .bipush 15, 2) (List.mem_of_getElem? (i := 80) rfl)) (by decide) (by decide) (fun v266 e266 => ?_)
                  refine ff_ldc2 (n := 2) hx hb hown h2 (clX12_ok 105 2 (List.mem_of_getElem? (i := 7) rfl)) (eX12_readTime (158, .ldc2_w 105, 3) (List.mem_of_getElem? (i := 81) rfl)) (fun v267 e267 => ?_)
                  refine tz_rowV (As := [.int v266, .long v267]) (st := []) (b := a) (C := RX12) (Ts := gT) hx hb hml hown h2 (fun _ h => h) (hX12_set l D cA ro sz H0 a v266 v267 15 n x265.1 h ha hn1 (by omega) (by decide)) ⟨rfl, rfl⟩ ⟨by decide, by decide⟩ ⟨by decide, by decide⟩ (tb_8 72 rfl rfl) (tb_1 12 rfl rfl) (tb_8 69 rfl rfl) (tb_8 71 rfl rfl) (tb_0 42 rfl rfl) (show yX12_set.cls ≠ "java/lang/invoke/MethodHandle" ∧ yX12_set.cls ≠ "java/lang/invoke/VarHandle" ∧ (parseMethodDescriptor yX12_set.desc).map (fun d => d.parameters.length) = some 2 by decide +kernel) zs_blind (zs_ob hh265 ha (show RTg[11]? = some (0, 11, 0, fsX12) from rfl) (zCX12 hKn.1)) (fun U hU hW => ⟨rfl, by rw [hU]; exact hh265.l0, zKb s U hW.alike hKn, by rw [hU]; exact jg265⟩) hh265.2.2.1 hl250.1 (Nat.le_of_ble_eq_true rfl) (eX12_readTime (161, .invokevirtual 357, 3) (List.mem_of_getElem? (i := 82) rfl)) (fun r268 s268 t268 lo268 g268 f268 l268 => ?_)
                  obtain ⟨q268, z268, c268, jg268⟩ := f268
                  cases q268
                  rw [g268] at c268
                  have hh268 : zh_ok D cA RTg ro sz H0 t268.heap lo268 := ⟨z268.1, z268.2.1, l268, z268.2.2.2⟩
                  have kp268 := kp265.trans (c268.mono (ms' := gM) (by decide))
                  have jg268 : jG D cA ro t268.heap a n (upF x265.1 15 (2)) h := by rw [← show v267.toInt = 2 by omega]; exact jg268
                  have jv268 := jv265.kept ha c268 (by decide)
                  refine W.eq (g2 := F0 m 164 ls250 []) rfl ?_
                  exact jn164 (upF x265.1 15 (2)) x265.2 v249 2 ls250 _ _ hh268 kp268 jv268 jg268 (by omega) (by first | (simp only [trG, tm0G, tmsG, tm1G, tm2G, tmiG, tseG, upS, ad1, hx164, hx252, hx265, if_neg d237, if_pos d248, if_pos d263, up_eq]; done) | (simp only [trG, tm0G, tmsG, tm1G, tm2G, tmiG, tseG, upS, ad1, hx164, hx252, hx265, if_neg d237, if_pos d248, if_pos d263, up_eq] <;> rfl) | rfl) (lv_sub hl250 [0, 1, 2] rfl)
      · skip
        have d269 : (x164.2.2.1 < 0 ∧ mo ≠ 2) ∧ byI T x164.2.1 = 58 := by omega
        refine lv_aload_n hx hb (eX12_readTime (43, .aload_n 0, 1) (List.mem_of_getElem? (i := 23) rfl)) rfl (lv_at hl165 1 rfl) ?_
        refine lv_dup hx hb (eX12_readTime (44, .dup, 1) (List.mem_of_getElem? (i := 24) rfl)) rfl ?_
        obtain ⟨jt270, ⟨av270, fv270, bv270, f29270, f30270, f31270, hav270, hfv270, hbv270⟩, hu270⟩ := id jv164
        refine tz_get (r := 11) (k := 29) (t := (0, 0, 120)) hx hb hh234 ha rfl rfl (hcl11 293 29 (0, 0, 120) (by decide) rfl).1 f29270 (eX12_readTime (45, .getfield 293, 3) (List.mem_of_getElem? (i := 25) rfl)) ?_
        refine ff_iconst hx hb (eX12_readTime (48, .iconst 1, 1) (List.mem_of_getElem? (i := 26) rfl)) (by decide) (by decide) (fun v271 e271 => ?_)
        have ha9272 : av270.toInt + v271.toInt ≤ 121 ∧ 0 ≤ av270.toInt := by omega
        refine ff_iadd hx hb (eX12_readTime (49, .iadd, 1) (List.mem_of_getElem? (i := 27) rfl)) (by omega) (by omega) (fun v272 e272 => ?_)
        have hlt := byI_lt (T := T) (a := x164.2.1) (by omega) (by omega)
        refine tz_put (r := 11) (k := 29) (t := (0, 0, 120)) hx hb hD hh234 ha rfl rfl ((hcl11 293 29 (0, 0, 120) (by decide) rfl).2 (by decide)) (tz_i (by omega) (by omega)) (eX12_readTime (50, .putfield 293, 3) (List.mem_of_getElem? (i := 28) rfl)) (fun H273 lo273 hh273 hf273 hk273 _ hq273 => ?_)
        have mf273_a_30 := (hk273.1 a 11 30 11 0 fsX12 ha rfl (by decide) (by decide)).trans f30270
        have mf273_a_31 := (hk273.1 a 11 31 11 0 fsX12 ha rfl (by decide) (by decide)).trans f31270
        have kp273 := kp164.trans (hk273.mono (ms' := gM) (fun x hx => by cases List.mem_singleton.mp hx; decide))
        have jv273 : jV D cA ro H273 a T (x164.2.1 + 1, x164.2.2) := ⟨jv164.1.kept ha hk273 (by decide) (by decide) (by decide), ⟨_, _, _, hf273, mf273_a_30, mf273_a_31, by show _ = x164.2.1 + 1; omega, hfv270, hbv270⟩, adG_ok jv164.2.2 (by omega)⟩
        have jg273 := jg164.kept ha hk273 (by decide)
        have uv273 := jv273.2.2
        unfold vOK at uv273
        have bb273 := byI_bd T (x164.2.1 + 1, x164.2.2).1
        refine ff_iconst hx hb (eX12_readTime (53, .iconst 1, 1) (List.mem_of_getElem? (i := 29) rfl)) (by decide) (by decide) (fun v274 e274 => ?_)
        refine lv_istore_n hx hb (eX12_readTime (54, .istore_n 2, 1) (List.mem_of_getElem? (i := 30) rfl)) rfl hl165 (by decide) rfl (fun ls275 hl275 => ?_)
        refine lv_aload_n hx hb (eX12_readTime (55, .aload_n 0, 1) (List.mem_of_getElem? (i := 31) rfl)) rfl (lv_at hl275 1 rfl) ?_
        refine ff_bipush hx hb (eX12_readTime (56, .bipush 11, 2) (List.mem_of_getElem? (i := 32) rfl)) (by decide) (by decide) (fun v276 e276 => ?_)
        refine tz_rowV (As := [.int v276]) (st := []) (b := a) (C := RX12) (Ts := gT) hx hb hml hown h2 (fun _ h => h) (hX12_timeNumber l D cA ro sz H0 a v276 11 T ((x164.2.1 + 1, x164.2.2)) n x164.1 h ha hn1 hT (by omega) (by decide)) ⟨rfl, rfl⟩ ⟨by decide, by decide⟩ ⟨by decide, by decide⟩ (tb_8 80 rfl rfl) (tb_1 12 rfl rfl) (tb_8 77 rfl rfl) (tb_8 79 rfl rfl) (tb_0 44 rfl rfl) (show yX12_timeNumber.cls ≠ "java/lang/invoke/MethodHandle" ∧ yX12_timeNumber.cls ≠ "java/lang/invoke/VarHandle" ∧ (parseMethodDescriptor yX12_timeNumber.desc).map (fun d => d.parameters.length) = some 1 by decide +kernel) zs_blind (zs_ob hh273 ha (show RTg[11]? = some (0, 11, 0, fsX12) from rfl) (zCX12 hKn.1)) (fun U hU hW => ⟨rfl, by rw [hU]; exact hh273.l0, zKb s U hW.alike hKn, by rw [hU]; exact ⟨jv273, jg273⟩⟩) hh273.2.2.1 hl275.1 (Nat.le_of_ble_eq_true rfl) (eX12_readTime (58, .invokevirtual 377, 3) (List.mem_of_getElem? (i := 33) rfl)) (fun r277 s277 t277 lo277 g277 f277 l277 => ?_)
        obtain ⟨q277, z277, c277, jv277, jg277⟩ := f277
        cases q277
        rw [g277] at c277
        have hh277 : zh_ok D cA RTg ro sz H0 t277.heap lo277 := ⟨z277.1, z277.2.1, l277, z277.2.2.2⟩
        have kp277 := kp273.trans (c277.mono (ms' := gM) (by decide))
        generalize hx277 : nuG T 11 2 (x164.1, (x164.2.1 + 1, x164.2.2)) = x277 at jv277 jg277
        have uu277 := jv277.2.2
        unfold vOK at uu277
        have bb277 := byI_bd T x277.2.1
        refine W.eq (g2 := F0 m 61 ls275 []) rfl ?_
        refine lv_aload_n hx hb (eX12_readTime (61, .aload_n 0, 1) (List.mem_of_getElem? (i := 34) rfl)) rfl (lv_at hl275 1 rfl) ?_
        refine ff_bipush hx hb (eX12_readTime (62, .bipush 15, 2) (List.mem_of_getElem? (i := 35) rfl)) (by decide) (by decide) (fun v278 e278 => ?_)
        refine ff_lconst hx hb (eX12_readTime (64, .lconst 1, 1) (List.mem_of_getElem? (i := 36) rfl)) rfl (fun v279 e279 => ?_)
        refine tz_rowV (As := [.int v278, .long v279]) (st := []) (b := a) (C := RX12) (Ts := gT) hx hb hml hown h2 (fun _ h => h) (hX12_set l D cA ro sz H0 a v278 v279 15 n x277.1 h ha hn1 (by omega) (by decide)) ⟨rfl, rfl⟩ ⟨by decide, by decide⟩ ⟨by decide, by decide⟩ (tb_8 72 rfl rfl) (tb_1 12 rfl rfl) (tb_8 69 rfl rfl) (tb_8 71 rfl rfl) (tb_0 42 rfl rfl) (show yX12_set.cls ≠ "java/lang/invoke/MethodHandle" ∧ yX12_set.cls ≠ "java/lang/invoke/VarHandle" ∧ (parseMethodDescriptor yX12_set.desc).map (fun d => d.parameters.length) = some 2 by decide +kernel) zs_blind (zs_ob hh277 ha (show RTg[11]? = some (0, 11, 0, fsX12) from rfl) (zCX12 hKn.1)) (fun U hU hW => ⟨rfl, by rw [hU]; exact hh277.l0, zKb s U hW.alike hKn, by rw [hU]; exact jg277⟩) hh277.2.2.1 hl275.1 (Nat.le_of_ble_eq_true rfl) (eX12_readTime (65, .invokevirtual 357, 3) (List.mem_of_getElem? (i := 37) rfl)) (fun r280 s280 t280 lo280 g280 f280 l280 => ?_)
        obtain ⟨q280, z280, c280, jg280⟩ := f280
        cases q280
        rw [g280] at c280
        have hh280 : zh_ok D cA RTg ro sz H0 t280.heap lo280 := ⟨z280.1, z280.2.1, l280, z280.2.2.2⟩
        have kp280 := kp277.trans (c280.mono (ms' := gM) (by decide))
        have jg280 : jG D cA ro t280.heap a n (upF x277.1 15 (1)) h := by rw [← show v279.toInt = 1 by omega]; exact jg280
        have jv280 := jv277.kept ha c280 (by decide)
        refine W.eq (g2 := F0 m 68 ls275 []) rfl ?_
        refine lv_aload_n hx hb (eX12_readTime (68, .aload_n 0, 1) (List.mem_of_getElem? (i := 38) rfl)) rfl (lv_at hl275 1 rfl) ?_
        refine ff_bipush hx hb (eX12_readTime (69, .bipush 58, 2) (List.mem_of_getElem? (i := 39) rfl)) (by decide) (by decide) (fun v281 e281 => ?_)
        refine tz_rowV (As := [.int v281]) (st := []) (b := a) (C := RX12) (Ts := gT) hx hb hml hown h2 (fun _ h => h) (hX12_takes l D cA ro sz H0 a v281 58 T (x277.2) ha (by omega) (by decide)) ⟨rfl, rfl⟩ ⟨by decide, by decide⟩ ⟨by decide, by decide⟩ (tb_8 13 rfl rfl) (tb_1 12 rfl rfl) (tb_8 10 rfl rfl) (tb_8 12 rfl rfl) (tb_0 30 rfl rfl) (show yX12_takes.cls ≠ "java/lang/invoke/MethodHandle" ∧ yX12_takes.cls ≠ "java/lang/invoke/VarHandle" ∧ (parseMethodDescriptor yX12_takes.desc).map (fun d => d.parameters.length) = some 1 by decide +kernel) zs_blind (zs_ob hh280 ha (show RTg[11]? = some (0, 11, 0, fsX12) from rfl) (zCX12 hKn.1)) (fun U hU hW => ⟨rfl, by rw [hU]; exact hh280.l0, zKb s U hW.alike hKn, by rw [hU]; exact jv280⟩) hh280.2.2.1 hl275.1 (Nat.le_of_ble_eq_true rfl) (eX12_readTime (71, .invokevirtual 313, 3) (List.mem_of_getElem? (i := 40) rfl)) (fun r282 s282 t282 lo282 g282 f282 l282 => ?_)
        obtain ⟨v282, q282, e282, z282, c282, jv282⟩ := f282
        cases q282
        rw [g282] at c282
        have hh282 : zh_ok D cA RTg ro sz H0 t282.heap lo282 := ⟨z282.1, z282.2.1, l282, z282.2.2.2⟩
        have kp282 := kp280.trans (c282.mono (ms' := gM) (by decide))
        have kf282 := tkG_01 T 58 x277.2
        generalize hx282 : tkG T 58 x277.2 = x282 at jv282 e282 kf282
        have uu282 := jv282.2.2
        unfold vOK at uu282
        have bb282 := byI_bd T x282.2.1
        have jg282 := jg280.kept ha c282 (by decide)
        refine W.eq (g2 := F0 m 74 ls275 [.int v282]) rfl ?_
        refine ff_if_eq hx hb (eX12_readTime (74, .ifCond .eq 90, 3) (List.mem_of_getElem? (i := 41) rfl)) (tgt := 164) rfl (fun c283 => ?_) (fun c283 => ?_)
        · skip
          have d282 : ¬ x282.1 = 1 := by omega
          exact jn164 (upF x277.1 15 (1)) x282.2 v274 1 ls275 _ _ hh282 kp282 jv282 jg282 (by omega) (by first | (simp only [trG, tm0G, tmsG, tm1G, tm2G, tmiG, tseG, upS, ad1, hx164, hx277, hx282, if_pos d269, if_neg d282, up_eq]; done) | (simp only [trG, tm0G, tmsG, tm1G, tm2G, tmiG, tseG, upS, ad1, hx164, hx277, hx282, if_pos d269, if_neg d282, up_eq] <;> rfl) | rfl) (lv_sub hl275 [0, 1, 2] rfl)
        · skip
          have d282 : x282.1 = 1 := by omega
          refine lv_aload_n hx hb (eX12_readTime (77, .aload_n 0, 1) (List.mem_of_getElem? (i := 42) rfl)) rfl (lv_at hl275 1 rfl) ?_
          refine ff_bipush hx hb (eX12_readTime (78, .bipush 13, 2) (List.mem_of_getElem? (i := 43) rfl)) (by decide) (by decide) (fun v284 e284 => ?_)
          refine tz_rowV (As := [.int v284]) (st := []) (b := a) (C := RX12) (Ts := gT) hx hb hml hown h2 (fun _ h => h) (hX12_timeNumber l D cA ro sz H0 a v284 13 T (x282.2) n (upF x277.1 15 (1)) h ha hn1 hT (by omega) (by decide)) ⟨rfl, rfl⟩ ⟨by decide, by decide⟩ ⟨by decide, by decide⟩ (tb_8 80 rfl rfl) (tb_1 12 rfl rfl) (tb_8 77 rfl rfl) (tb_8 79 rfl rfl) (tb_0 44 rfl rfl) (show yX12_timeNumber.cls ≠ "java/lang/invoke/MethodHandle" ∧ yX12_timeNumber.cls ≠ "java/lang/invoke/VarHandle" ∧ (parseMethodDescriptor yX12_timeNumber.desc).map (fun d => d.parameters.length) = some 1 by decide +kernel) zs_blind (zs_ob hh282 ha (show RTg[11]? = some (0, 11, 0, fsX12) from rfl) (zCX12 hKn.1)) (fun U hU hW => ⟨rfl, by rw [hU]; exact hh282.l0, zKb s U hW.alike hKn, by rw [hU]; exact ⟨jv282, jg282⟩⟩) hh282.2.2.1 hl275.1 (Nat.le_of_ble_eq_true rfl) (eX12_readTime (80, .invokevirtual 377, 3) (List.mem_of_getElem? (i := 44) rfl)) (fun r285 s285 t285 lo285 g285 f285 l285 => ?_)
          obtain ⟨q285, z285, c285, jv285, jg285⟩ := f285
          cases q285
          rw [g285] at c285
          have hh285 : zh_ok D cA RTg ro sz H0 t285.heap lo285 := ⟨z285.1, z285.2.1, l285, z285.2.2.2⟩
          have kp285 := kp282.trans (c285.mono (ms' := gM) (by decide))
          generalize hx285 : nuG T 13 2 ((upF x277.1 15 (1)), x282.2) = x285 at jv285 jg285
          have uu285 := jv285.2.2
          unfold vOK at uu285
          have bb285 := byI_bd T x285.2.1
          refine W.eq (g2 := F0 m 83 ls275 []) rfl ?_
          refine lv_aload_n hx hb (eX12_readTime (83, .aload_n 0, 1) (List.mem_of_getElem? (i := 45) rfl)) rfl (lv_at hl275 1 rfl) ?_
          refine ff_bipush hx hb (eX12_readTime (84, .bipush 15, 2) (List.mem_of_getElem? (i := 46) rfl)) (by decide) (by decide) (fun v286 e286 => ?_)
          refine ff_ldc2 (n := 2) hx hb hown h2 (clX12_ok 105 2 (List.mem_of_getElem? (i := 7) rfl)) (eX12_readTime (86, .ldc2_w 105, 3) (List.mem_of_getElem? (i := 47) rfl)) (fun v287 e287 => ?_)
          refine tz_rowV (As := [.int v286, .long v287]) (st := []) (b := a) (C := RX12) (Ts := gT) hx hb hml hown h2 (fun _ h => h) (hX12_set l D cA ro sz H0 a v286 v287 15 n x285.1 h ha hn1 (by omega) (by decide)) ⟨rfl, rfl⟩ ⟨by decide, by decide⟩ ⟨by decide, by decide⟩ (tb_8 72 rfl rfl) (tb_1 12 rfl rfl) (tb_8 69 rfl rfl) (tb_8 71 rfl rfl) (tb_0 42 rfl rfl) (show yX12_set.cls ≠ "java/lang/invoke/MethodHandle" ∧ yX12_set.cls ≠ "java/lang/invoke/VarHandle" ∧ (parseMethodDescriptor yX12_set.desc).map (fun d => d.parameters.length) = some 2 by decide +kernel) zs_blind (zs_ob hh285 ha (show RTg[11]? = some (0, 11, 0, fsX12) from rfl) (zCX12 hKn.1)) (fun U hU hW => ⟨rfl, by rw [hU]; exact hh285.l0, zKb s U hW.alike hKn, by rw [hU]; exact jg285⟩) hh285.2.2.1 hl275.1 (Nat.le_of_ble_eq_true rfl) (eX12_readTime (89, .invokevirtual 357, 3) (List.mem_of_getElem? (i := 48) rfl)) (fun r288 s288 t288 lo288 g288 f288 l288 => ?_)
          obtain ⟨q288, z288, c288, jg288⟩ := f288
          cases q288
          rw [g288] at c288
          have hh288 : zh_ok D cA RTg ro sz H0 t288.heap lo288 := ⟨z288.1, z288.2.1, l288, z288.2.2.2⟩
          have kp288 := kp285.trans (c288.mono (ms' := gM) (by decide))
          have jg288 : jG D cA ro t288.heap a n (upF x285.1 15 (2)) h := by rw [← show v287.toInt = 2 by omega]; exact jg288
          have jv288 := jv285.kept ha c288 (by decide)
          refine W.eq (g2 := F0 m 92 ls275 []) rfl ?_
          refine lv_goto hx hb (eX12_readTime (92, .goto 72, 3) (List.mem_of_getElem? (i := 49) rfl)) (tgt := 164) rfl ?_
          exact jn164 (upF x285.1 15 (2)) x285.2 v274 1 ls275 _ _ hh288 kp288 jv288 jg288 (by omega) (by first | (simp only [trG, tm0G, tmsG, tm1G, tm2G, tmiG, tseG, upS, ad1, hx164, hx277, hx282, hx285, if_pos d269, if_pos d282, up_eq]; done) | (simp only [trG, tm0G, tmsG, tm1G, tm2G, tmiG, tseG, upS, ad1, hx164, hx277, hx282, hx285, if_pos d269, if_pos d282, up_eq] <;> rfl) | rfl) (lv_sub hl275 [0, 1, 2] rfl)
