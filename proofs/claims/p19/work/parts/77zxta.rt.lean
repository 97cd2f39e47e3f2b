set_option maxRecDepth 100000 in
set_option maxHeartbeats 4000000 in
theorem hX12_readPlain (l : Launch) (D : va_G) (cA : Nat → ClassId) (ro : Nat → Option Nat) (sz : Nat) (H0 : Heap) (a : Nat)  (T : List Int) (sg : uS) (n : Nat) (g h : fN) (ha : ro a = some 11) (hn1 : n ≤ 1) (hT : (T.length : Int) ≤ 120) : Met l yX12_readPlain (gW yX12_readPlain cX12_readPlain 1 none) { frames := 3, cells := 0, slots := 0, locals := 65 } (zs_P D cA ro sz H0 (fun H => jV D cA ro H a T sg ∧ jG D cA ro H a n g h) [.ref a]) (rg_V D cA ro sz H0 gM a n T h (rpG T sg)) 0 0 (zy_fr sz) := by
  refine zy_ofW (cc := cX12_readPlain) (maxL := 1) (ret := none) (by decide +kernel) rfl ?_
  intro p e s m args below meth c s1 B hml hv
  obtain ⟨rfl, hh, hKn, hJ⟩ := hv
  have hx := B.exec
  have hb := B.bytes
  have hr := B.returns
  have hlk := B.notSynchronized
  have hts0 := atoms_spec (ws := gW yX12_readPlain cX12_readPlain 1 none) B.pre
  have h2 : ∀ w ∈ gT, w.before ([.ref a] : List Value).toArray s = true := fun w hw => hts0 w (List.mem_cons_of_mem _ hw)
  have hown : s.vm.findClass RX12 = some m.cls := findClass_of_methodNamed B.named
  have hl := lv_entry [.ref a] (n := 1) (Nat.le_of_ble_eq_true rfl)
  rw [lg_entry_eq]
  generalize (lg_sl [.ref a] ++ List.replicate (1 - (lg_sl [.ref a]).length) Slot.unset).toArray = ls at hl ⊢
  have hD := zD_all h2 hKn.1
  have hcl11 := fun (idx k : Nat) (t : zt_T) (h : (idx, 11, k) ∈ gfX12) (hk : fsX12[k]? = some t) => zf_clause (ro := ro) (ms := gM) h2 hown hKn.1 gfX12_ok (by decide +kernel) idx 11 k 11 0 fsX12 t h rfl hk
  have kp0 : zc_kept D RTg ro gM s.heap s.heap := zc_kept.refl
  obtain ⟨jv0, jg0⟩ := hJ
  have hu := jv0.2.2
  unfold vOK at hu
  have hbb := byI_bd T sg.1
  have jn296 : ∀ (fj : fN) (gj : uS)  (ls : Array Slot) (H : Heap) (lo0 : List Loc), zh_ok D cA RTg ro sz H0 H lo0 → zc_kept D RTg ro gM s.heap H → jV D cA ro H a T gj → jG D cA ro H a n fj h → nuG T 20 2 (exS T 58 (fj, gj)) = rpG T sg → lv_has ls 1 [(0, .ref a)] → W p l e (headSpec (gW yX12_readPlain cX12_readPlain 1 none) { frames := 3, cells := 0, slots := 0, locals := 65 }).room s m ([.ref a] : List Value).toArray below meth c H lo0 0 0 (MQ below (rg_V D cA ro sz H0 gM a n T h (rpG T sg)) ([.ref a] : List Value).toArray s 0 0 (zy_fr sz)) (F0 m 296 ls []) := by
    intro fj gj  ls H lo0 hh0 kpl jl jgl  htot hl
    have hul := jl.2.2
    unfold vOK at hul
    have hbj := byI_bd T gj.1
    refine lv_aload_n hx hb (eX12_readPlain (296, .aload_n 0, 1) (List.mem_of_getElem? (i := 150) rfl)) rfl (lv_at hl 0 rfl) ?_
    refine ff_bipush hx hb (eX12_readPlain (297, .bipush 58, 2) (List.mem_of_getElem? (i := 151) rfl)) (by decide) (by decide) (fun v1 e1 => ?_)
    refine tz_rowV (As := [.int v1]) (st := []) (b := a) (C := RX12) (Ts := gT) hx hb hml hown h2 (fun _ h => h) (hX12_expect l D cA ro sz H0 a v1 58 T (gj) ha (by omega) (by decide)) ⟨rfl, rfl⟩ ⟨by decide, by decide⟩ ⟨by decide, by decide⟩ (tb_8 35 rfl rfl) (tb_1 12 rfl rfl) (tb_8 32 rfl rfl) (tb_8 34 rfl rfl) (tb_0 34 rfl rfl) (show yX12_expect.cls ≠ "java/lang/invoke/MethodHandle" ∧ yX12_expect.cls ≠ "java/lang/invoke/VarHandle" ∧ (parseMethodDescriptor yX12_expect.desc).map (fun d => d.parameters.length) = some 1 by decide +kernel) zs_blind (zs_ob hh0 ha (show RTg[11]? = some (0, 11, 0, fsX12) from rfl) (zCX12 hKn.1)) (fun U hU hW => ⟨rfl, by rw [hU]; exact hh0.l0, zKb s U hW.alike hKn, by rw [hU]; exact jl⟩) hh0.2.2.1 hl.1 (Nat.le_of_ble_eq_true rfl) (eX12_readPlain (299, .invokevirtual 325, 3) (List.mem_of_getElem? (i := 152) rfl)) (fun r2 s2 t2 lo2 g2 f2 l2 => ?_)
    obtain ⟨q2, z2, c2, jv2⟩ := f2
    cases q2
    rw [g2] at c2
    have hh2 : zh_ok D cA RTg ro sz H0 t2.heap lo2 := ⟨z2.1, z2.2.1, l2, z2.2.2.2⟩
    have kp2 := kpl.trans (c2.mono (ms' := gM) (by decide))
    generalize hx2 : exG T 58 gj = x2 at jv2
    have uu2 := jv2.2.2
    unfold vOK at uu2
    have bb2 := byI_bd T x2.1
    have jg2 := jgl.kept ha c2 (by decide)
    refine W.eq (g2 := F0 m 302 ls []) rfl ?_
    refine lv_aload_n hx hb (eX12_readPlain (302, .aload_n 0, 1) (List.mem_of_getElem? (i := 153) rfl)) rfl (lv_at hl 0 rfl) ?_
    refine ff_bipush hx hb (eX12_readPlain (303, .bipush 20, 2) (List.mem_of_getElem? (i := 154) rfl)) (by decide) (by decide) (fun v3 e3 => ?_)
    refine tz_rowV (As := [.int v3]) (st := []) (b := a) (C := RX12) (Ts := gT) hx hb hml hown h2 (fun _ h => h) (hX12_timeNumber l D cA ro sz H0 a v3 20 T (x2) n fj h ha hn1 hT (by omega) (by decide)) ⟨rfl, rfl⟩ ⟨by decide, by decide⟩ ⟨by decide, by decide⟩ (tb_8 80 rfl rfl) (tb_1 12 rfl rfl) (tb_8 77 rfl rfl) (tb_8 79 rfl rfl) (tb_0 44 rfl rfl) (show yX12_timeNumber.cls ≠ "java/lang/invoke/MethodHandle" ∧ yX12_timeNumber.cls ≠ "java/lang/invoke/VarHandle" ∧ (parseMethodDescriptor yX12_timeNumber.desc).map (fun d => d.parameters.length) = some 1 by decide +kernel) zs_blind (zs_ob hh2 ha (show RTg[11]? = some (0, 11, 0, fsX12) from rfl) (zCX12 hKn.1)) (fun U hU hW => ⟨rfl, by rw [hU]; exact hh2.l0, zKb s U hW.alike hKn, by rw [hU]; exact ⟨jv2, jg2⟩⟩) hh2.2.2.1 hl.1 (Nat.le_of_ble_eq_true rfl) (eX12_readPlain (305, .invokevirtual 377, 3) (List.mem_of_getElem? (i := 155) rfl)) (fun r4 s4 t4 lo4 g4 f4 l4 => ?_)
    obtain ⟨q4, z4, c4, jv4, jg4⟩ := f4
    cases q4
    rw [g4] at c4
    have hh4 : zh_ok D cA RTg ro sz H0 t4.heap lo4 := ⟨z4.1, z4.2.1, l4, z4.2.2.2⟩
    have kp4 := kp2.trans (c4.mono (ms' := gM) (by decide))
    generalize hx4 : nuG T 20 2 (fj, x2) = x4 at jv4 jg4
    have uu4 := jv4.2.2
    unfold vOK at uu4
    have bb4 := byI_bd T x4.2.1
    refine W.eq (g2 := F0 m 308 ls []) rfl ?_
    refine lv_goto hx hb (eX12_readPlain (308, .goto 7, 3) (List.mem_of_getElem? (i := 156) rfl)) (tgt := 315) rfl ?_
    have hfin : rpG T sg = (x4.1, x4.2) := by rw [← htot]; first | (simp only [rp4G, tz1G, exS, hx2, hx4, up_eq]; done) | (simp only [rp4G, tz1G, exS, hx2, hx4, up_eq] <;> rfl) | rfl
    exact W.vret hx hb hr (fun t ht hW => ⟨rfl, by rw [ht]; exact hh4.l0, by rw [ht]; exact kp4, by rw [ht, hfin]; exact jv4, by rw [ht, hfin]; exact jg4⟩) hh4.2.2.1 (eX12_readPlain (315, .return_, 1) (List.mem_of_getElem? (i := 159) rfl))
  have jn226 : ∀ (fj : fN) (gj : uS)  (ls : Array Slot) (H : Heap) (lo0 : List Loc), zh_ok D cA RTg ro sz H0 H lo0 → zc_kept D RTg ro gM s.heap H → jV D cA ro H a T gj → jG D cA ro H a n fj h → (if gj.2.1 < 0 ∧ (byI T gj.1 = 43 ∨ byI T gj.1 = 45) then nuG T 20 2 (exS T 58 (tz1G T (fj, gj))) else (fj, flG gj)) = rpG T sg → lv_has ls 1 [(0, .ref a)] → W p l e (headSpec (gW yX12_readPlain cX12_readPlain 1 none) { frames := 3, cells := 0, slots := 0, locals := 65 }).room s m ([.ref a] : List Value).toArray below meth c H lo0 0 0 (MQ below (rg_V D cA ro sz H0 gM a n T h (rpG T sg)) ([.ref a] : List Value).toArray s 0 0 (zy_fr sz)) (F0 m 226 ls []) := by
    intro fj gj  ls H lo0 hh0 kpl jl jgl  htot hl
    have hul := jl.2.2
    unfold vOK at hul
    have hbj := byI_bd T gj.1
    refine lv_aload_n hx hb (eX12_readPlain (226, .aload_n 0, 1) (List.mem_of_getElem? (i := 116) rfl)) rfl (lv_at hl 0 rfl) ?_
    refine tz_rowV (As := []) (st := []) (b := a) (C := RX12) (Ts := gT) hx hb hml hown h2 (fun _ h => h) (hX12_isGood l D cA ro sz H0 a T (gj) ha) ⟨rfl, rfl⟩ ⟨by decide, by decide⟩ ⟨by decide, by decide⟩ (tb_8 17 rfl rfl) (tb_1 12 rfl rfl) (tb_8 14 rfl rfl) (tb_8 16 rfl rfl) (tb_0 31 rfl rfl) (show yX12_isGood.cls ≠ "java/lang/invoke/MethodHandle" ∧ yX12_isGood.cls ≠ "java/lang/invoke/VarHandle" ∧ (parseMethodDescriptor yX12_isGood.desc).map (fun d => d.parameters.length) = some 0 by decide +kernel) zs_blind (zs_ob hh0 ha (show RTg[11]? = some (0, 11, 0, fsX12) from rfl) (zCX12 hKn.1)) (fun U hU hW => ⟨rfl, by rw [hU]; exact hh0.l0, zKb s U hW.alike hKn, by rw [hU]; exact jl⟩) hh0.2.2.1 hl.1 (Nat.le_of_ble_eq_true rfl) (eX12_readPlain (227, .invokevirtual 305, 3) (List.mem_of_getElem? (i := 117) rfl)) (fun r5 s5 t5 lo5 g5 f5 l5 => ?_)
    obtain ⟨z5, v5, q5, e5⟩ := f5
    cases q5
    rw [z5, g5]
    have hh5 : zh_ok D cA RTg ro sz H0 H lo5 := ⟨hh0.1, hh0.2.1, l5, hh0.2.2.2⟩
    refine W.eq (g2 := F0 m 230 ls [.int v5]) rfl ?_
    refine ff_if_eq hx hb (eX12_readPlain (230, .ifCond .eq 81, 3) (List.mem_of_getElem? (i := 118) rfl)) (tgt := 311) rfl (fun c6 => ?_) (fun c6 => ?_)
    · skip
      have d7 : ¬ (gj.2.1 < 0 ∧ (byI T gj.1 = 43 ∨ byI T gj.1 = 45)) := by omega
      refine lv_aload_n hx hb (eX12_readPlain (311, .aload_n 0, 1) (List.mem_of_getElem? (i := 157) rfl)) rfl (lv_at hl 0 rfl) ?_
      refine tz_rowV (As := []) (st := []) (b := a) (C := RX12) (Ts := gT) hx hb hml hown h2 (fun _ h => h) (hX12_fail l D cA ro sz H0 a T (gj) ha) ⟨rfl, rfl⟩ ⟨by decide, by decide⟩ ⟨by decide, by decide⟩ (tb_8 31 rfl rfl) (tb_1 12 rfl rfl) (tb_8 28 rfl rfl) (tb_8 30 rfl rfl) (tb_0 33 rfl rfl) (show yX12_fail.cls ≠ "java/lang/invoke/MethodHandle" ∧ yX12_fail.cls ≠ "java/lang/invoke/VarHandle" ∧ (parseMethodDescriptor yX12_fail.desc).map (fun d => d.parameters.length) = some 0 by decide +kernel) zs_blind (zs_ob hh5 ha (show RTg[11]? = some (0, 11, 0, fsX12) from rfl) (zCX12 hKn.1)) (fun U hU hW => ⟨rfl, by rw [hU]; exact hh5.l0, zKb s U hW.alike hKn, by rw [hU]; exact jl⟩) hh5.2.2.1 hl.1 (Nat.le_of_ble_eq_true rfl) (eX12_readPlain (312, .invokevirtual 316, 3) (List.mem_of_getElem? (i := 158) rfl)) (fun r8 s8 t8 lo8 g8 f8 l8 => ?_)
      obtain ⟨q8, z8, c8, jv8⟩ := f8
      cases q8
      rw [g8] at c8
      have hh8 : zh_ok D cA RTg ro sz H0 t8.heap lo8 := ⟨z8.1, z8.2.1, l8, z8.2.2.2⟩
      have kp8 := kpl.trans (c8.mono (ms' := gM) (by decide))
      have kf8 := flG_nn (T := T) (r := gj) jl.2.2
      generalize hx8 : flG gj = x8 at jv8 kf8
      have uu8 := jv8.2.2
      unfold vOK at uu8
      have bb8 := byI_bd T x8.1
      have jg8 := jgl.kept ha c8 (by decide)
      refine W.eq (g2 := F0 m 315 ls []) rfl ?_
      have hfin : rpG T sg = (fj, x8) := by rw [← htot]; first | (simp only [rp4G, tz1G, exS, hx8, if_neg d7, up_eq]; done) | (simp only [rp4G, tz1G, exS, hx8, if_neg d7, up_eq] <;> rfl) | rfl
      exact W.vret hx hb hr (fun t ht hW => ⟨rfl, by rw [ht]; exact hh8.l0, by rw [ht]; exact kp8, by rw [ht, hfin]; exact jv8, by rw [ht, hfin]; exact jg8⟩) hh8.2.2.1 (eX12_readPlain (315, .return_, 1) (List.mem_of_getElem? (i := 159) rfl))
    · skip
      refine lv_aload_n hx hb (eX12_readPlain (233, .aload_n 0, 1) (List.mem_of_getElem? (i := 119) rfl)) rfl (lv_at hl 0 rfl) ?_
      refine tz_rowV (As := []) (st := []) (b := a) (C := RX12) (Ts := gT) hx hb hml hown h2 (fun _ h => h) (hX12_sign l D cA ro sz H0 a T (gj) ha) ⟨rfl, rfl⟩ ⟨by decide, by decide⟩ ⟨by decide, by decide⟩ (tb_8 21 rfl rfl) (tb_1 12 rfl rfl) (tb_8 18 rfl rfl) (tb_8 20 rfl rfl) (tb_0 32 rfl rfl) (show yX12_sign.cls ≠ "java/lang/invoke/MethodHandle" ∧ yX12_sign.cls ≠ "java/lang/invoke/VarHandle" ∧ (parseMethodDescriptor yX12_sign.desc).map (fun d => d.parameters.length) = some 0 by decide +kernel) zs_blind (zs_ob hh5 ha (show RTg[11]? = some (0, 11, 0, fsX12) from rfl) (zCX12 hKn.1)) (fun U hU hW => ⟨rfl, by rw [hU]; exact hh5.l0, zKb s U hW.alike hKn, by rw [hU]; exact jl⟩) hh5.2.2.1 hl.1 (Nat.le_of_ble_eq_true rfl) (eX12_readPlain (234, .invokevirtual 309, 3) (List.mem_of_getElem? (i := 120) rfl)) (fun r9 s9 t9 lo9 g9 f9 l9 => ?_)
      obtain ⟨z9, v9, q9, e9⟩ := f9
      cases q9
      rw [z9, g9]
      have hh9 : zh_ok D cA RTg ro sz H0 H lo9 := ⟨hh5.1, hh5.2.1, l9, hh5.2.2.2⟩
      refine W.eq (g2 := F0 m 237 ls [.int v9]) rfl ?_
      refine ff_bipush hx hb (eX12_readPlain (237, .bipush 43, 2) (List.mem_of_getElem? (i := 121) rfl)) (by decide) (by decide) (fun v10 e10 => ?_)
      refine ff_icmp_eq hx hb (eX12_readPlain (239, .if_icmp .eq 12, 3) (List.mem_of_getElem? (i := 122) rfl)) (tgt := 251) rfl (fun c11 => ?_) (fun c11 => ?_)
      · skip
        have d12 : gj.2.1 < 0 ∧ (byI T gj.1 = 43 ∨ byI T gj.1 = 45) := by omega
        refine lv_aload_n hx hb (eX12_readPlain (251, .aload_n 0, 1) (List.mem_of_getElem? (i := 127) rfl)) rfl (lv_at hl 0 rfl) ?_
        refine ff_bipush hx hb (eX12_readPlain (252, .bipush 22, 2) (List.mem_of_getElem? (i := 128) rfl)) (by decide) (by decide) (fun v13 e13 => ?_)
        refine lv_aload_n hx hb (eX12_readPlain (254, .aload_n 0, 1) (List.mem_of_getElem? (i := 129) rfl)) rfl (lv_at hl 0 rfl) ?_
        refine tz_rowV (As := []) (st := [.int v13, .ref a]) (b := a) (C := RX12) (Ts := gT) hx hb hml hown h2 (fun _ h => h) (hX12_sign l D cA ro sz H0 a T (gj) ha) ⟨rfl, rfl⟩ ⟨by decide, by decide⟩ ⟨by decide, by decide⟩ (tb_8 21 rfl rfl) (tb_1 12 rfl rfl) (tb_8 18 rfl rfl) (tb_8 20 rfl rfl) (tb_0 32 rfl rfl) (show yX12_sign.cls ≠ "java/lang/invoke/MethodHandle" ∧ yX12_sign.cls ≠ "java/lang/invoke/VarHandle" ∧ (parseMethodDescriptor yX12_sign.desc).map (fun d => d.parameters.length) = some 0 by decide +kernel) zs_blind (zs_ob hh9 ha (show RTg[11]? = some (0, 11, 0, fsX12) from rfl) (zCX12 hKn.1)) (fun U hU hW => ⟨rfl, by rw [hU]; exact hh9.l0, zKb s U hW.alike hKn, by rw [hU]; exact jl⟩) hh9.2.2.1 hl.1 (Nat.le_of_ble_eq_true rfl) (eX12_readPlain (255, .invokevirtual 309, 3) (List.mem_of_getElem? (i := 130) rfl)) (fun r14 s14 t14 lo14 g14 f14 l14 => ?_)
        obtain ⟨z14, v14, q14, e14⟩ := f14
        cases q14
        rw [z14, g14]
        have hh14 : zh_ok D cA RTg ro sz H0 H lo14 := ⟨hh9.1, hh9.2.1, l14, hh9.2.2.2⟩
        refine W.eq (g2 := F0 m 258 ls [.int v14, .int v13, .ref a]) rfl ?_
        refine ff_bipush hx hb (eX12_readPlain (258, .bipush 45, 2) (List.mem_of_getElem? (i := 131) rfl)) (by decide) (by decide) (fun v15 e15 => ?_)
        refine ff_icmp_ne hx hb (eX12_readPlain (260, .if_icmp .ne 7, 3) (List.mem_of_getElem? (i := 132) rfl)) (tgt := 267) rfl (fun c16 => ?_) (fun c16 => ?_)
        · skip
          have d17 : ¬ (byI T gj.1 = 45) := by omega
          refine ff_lconst hx hb (eX12_readPlain (267, .lconst 0, 1) (List.mem_of_getElem? (i := 135) rfl)) rfl (fun v18 e18 => ?_)
          refine tz_rowV (As := [.int v13, .long v18]) (st := []) (b := a) (C := RX12) (Ts := gT) hx hb hml hown h2 (fun _ h => h) (hX12_set l D cA ro sz H0 a v13 v18 22 n fj h ha hn1 (by omega) (by decide)) ⟨rfl, rfl⟩ ⟨by decide, by decide⟩ ⟨by decide, by decide⟩ (tb_8 72 rfl rfl) (tb_1 12 rfl rfl) (tb_8 69 rfl rfl) (tb_8 71 rfl rfl) (tb_0 42 rfl rfl) (show yX12_set.cls ≠ "java/lang/invoke/MethodHandle" ∧ yX12_set.cls ≠ "java/lang/invoke/VarHandle" ∧ (parseMethodDescriptor yX12_set.desc).map (fun d => d.parameters.length) = some 2 by decide +kernel) zs_blind (zs_ob hh14 ha (show RTg[11]? = some (0, 11, 0, fsX12) from rfl) (zCX12 hKn.1)) (fun U hU hW => ⟨rfl, by rw [hU]; exact hh14.l0, zKb s U hW.alike hKn, by rw [hU]; exact jgl⟩) hh14.2.2.1 hl.1 (Nat.le_of_ble_eq_true rfl) (eX12_readPlain (268, .invokevirtual 357, 3) (List.mem_of_getElem? (i := 136) rfl)) (fun r19 s19 t19 lo19 g19 f19 l19 => ?_)
          obtain ⟨q19, z19, c19, jg19⟩ := f19
          cases q19
          rw [g19] at c19
          have hh19 : zh_ok D cA RTg ro sz H0 t19.heap lo19 := ⟨z19.1, z19.2.1, l19, z19.2.2.2⟩
          have kp19 := kpl.trans (c19.mono (ms' := gM) (by decide))
          have jg19 : jG D cA ro t19.heap a n (upF fj 22 (0)) h := by rw [← show v18.toInt = 0 by omega]; exact jg19
          have jv19 := jl.kept ha c19 (by decide)
          refine W.eq (g2 := F0 m 271 ls []) rfl ?_
          refine lv_aload_n hx hb (eX12_readPlain (271, .aload_n 0, 1) (List.mem_of_getElem? (i := 137) rfl)) rfl (lv_at hl 0 rfl) ?_
          refine lv_dup hx hb (eX12_readPlain (272, .dup, 1) (List.mem_of_getElem? (i := 138) rfl)) rfl ?_
          obtain ⟨jt20, ⟨av20, fv20, bv20, f2920, f3020, f3120, hav20, hfv20, hbv20⟩, hu20⟩ := id jv19
          refine tz_get (r := 11) (k := 29) (t := (0, 0, 120)) hx hb hh19 ha rfl rfl (hcl11 293 29 (0, 0, 120) (by decide) rfl).1 f2920 (eX12_readPlain (273, .getfield 293, 3) (List.mem_of_getElem? (i := 139) rfl)) ?_
          refine ff_iconst hx hb (eX12_readPlain (276, .iconst 1, 1) (List.mem_of_getElem? (i := 140) rfl)) (by decide) (by decide) (fun v21 e21 => ?_)
          have ha922 : av20.toInt + v21.toInt ≤ 121 ∧ 0 ≤ av20.toInt := by omega
          refine ff_iadd hx hb (eX12_readPlain (277, .iadd, 1) (List.mem_of_getElem? (i := 141) rfl)) (by omega) (by omega) (fun v22 e22 => ?_)
          have hlt := byI_lt (T := T) (a := gj.1) (by omega) (by omega)
          refine tz_put (r := 11) (k := 29) (t := (0, 0, 120)) hx hb hD hh19 ha rfl rfl ((hcl11 293 29 (0, 0, 120) (by decide) rfl).2 (by decide)) (tz_i (by omega) (by omega)) (eX12_readPlain (278, .putfield 293, 3) (List.mem_of_getElem? (i := 142) rfl)) (fun H23 lo23 hh23 hf23 hk23 _ hq23 => ?_)
          have mf23_a_30 := (hk23.1 a 11 30 11 0 fsX12 ha rfl (by decide) (by decide)).trans f3020
          have mf23_a_31 := (hk23.1 a 11 31 11 0 fsX12 ha rfl (by decide) (by decide)).trans f3120
          have kp23 := kp19.trans (hk23.mono (ms' := gM) (fun x hx => by cases List.mem_singleton.mp hx; decide))
          have jv23 : jV D cA ro H23 a T (gj.1 + 1, gj.2) := ⟨jv19.1.kept ha hk23 (by decide) (by decide) (by decide), ⟨_, _, _, hf23, mf23_a_30, mf23_a_31, by show _ = gj.1 + 1; omega, hfv20, hbv20⟩, adG_ok jv19.2.2 (by omega)⟩
          have jg23 := jg19.kept ha hk23 (by decide)
          have uv23 := jv23.2.2
          unfold vOK at uv23
          have bb23 := byI_bd T (gj.1 + 1, gj.2).1
          refine lv_aload_n hx hb (eX12_readPlain (281, .aload_n 0, 1) (List.mem_of_getElem? (i := 143) rfl)) rfl (lv_at hl 0 rfl) ?_
          refine ff_bipush hx hb (eX12_readPlain (282, .bipush 17, 2) (List.mem_of_getElem? (i := 144) rfl)) (by decide) (by decide) (fun v24 e24 => ?_)
          refine ff_ldc2 (n := 2) hx hb hown h2 (clX12_ok 105 2 (List.mem_of_getElem? (i := 7) rfl)) (eX12_readPlain (284, .ldc2_w 105, 3) (List.mem_of_getElem? (i := 145) rfl)) (fun v25 e25 => ?_)
          refine tz_rowV (As := [.int v24, .long v25]) (st := []) (b := a) (C := RX12) (Ts := gT) hx hb hml hown h2 (fun _ h => h) (hX12_set l D cA ro sz H0 a v24 v25 17 n (upF fj 22 (0)) h ha hn1 (by omega) (by decide)) ⟨rfl, rfl⟩ ⟨by decide, by decide⟩ ⟨by decide, by decide⟩ (tb_8 72 rfl rfl) (tb_1 12 rfl rfl) (tb_8 69 rfl rfl) (tb_8 71 rfl rfl) (tb_0 42 rfl rfl) (show yX12_set.cls ≠ "java/lang/invoke/MethodHandle" ∧ yX12_set.cls ≠ "java/lang/invoke/VarHandle" ∧ (parseMethodDescriptor yX12_set.desc).map (fun d => d.parameters.length) = some 2 by decide +kernel) zs_blind (zs_ob hh23 ha (show RTg[11]? = some (0, 11, 0, fsX12) from rfl) (zCX12 hKn.1)) (fun U hU hW => ⟨rfl, by rw [hU]; exact hh23.l0, zKb s U hW.alike hKn, by rw [hU]; exact jg23⟩) hh23.2.2.1 hl.1 (Nat.le_of_ble_eq_true rfl) (eX12_readPlain (287, .invokevirtual 357, 3) (List.mem_of_getElem? (i := 146) rfl)) (fun r26 s26 t26 lo26 g26 f26 l26 => ?_)
          obtain ⟨q26, z26, c26, jg26⟩ := f26
          cases q26
          rw [g26] at c26
          have hh26 : zh_ok D cA RTg ro sz H0 t26.heap lo26 := ⟨z26.1, z26.2.1, l26, z26.2.2.2⟩
          have kp26 := kp23.trans (c26.mono (ms' := gM) (by decide))
          have jg26 : jG D cA ro t26.heap a n (upF (upF fj 22 (0)) 17 (2)) h := by rw [← show v25.toInt = 2 by omega]; exact jg26
          have jv26 := jv23.kept ha c26 (by decide)
          refine W.eq (g2 := F0 m 290 ls []) rfl ?_
          refine lv_aload_n hx hb (eX12_readPlain (290, .aload_n 0, 1) (List.mem_of_getElem? (i := 147) rfl)) rfl (lv_at hl 0 rfl) ?_
          refine ff_bipush hx hb (eX12_readPlain (291, .bipush 18, 2) (List.mem_of_getElem? (i := 148) rfl)) (by decide) (by decide) (fun v27 e27 => ?_)
          refine tz_rowV (As := [.int v27]) (st := []) (b := a) (C := RX12) (Ts := gT) hx hb hml hown h2 (fun _ h => h) (hX12_timeNumber l D cA ro sz H0 a v27 18 T ((gj.1 + 1, gj.2)) n (upF (upF fj 22 (0)) 17 (2)) h ha hn1 hT (by omega) (by decide)) ⟨rfl, rfl⟩ ⟨by decide, by decide⟩ ⟨by decide, by decide⟩ (tb_8 80 rfl rfl) (tb_1 12 rfl rfl) (tb_8 77 rfl rfl) (tb_8 79 rfl rfl) (tb_0 44 rfl rfl) (show yX12_timeNumber.cls ≠ "java/lang/invoke/MethodHandle" ∧ yX12_timeNumber.cls ≠ "java/lang/invoke/VarHandle" ∧ (parseMethodDescriptor yX12_timeNumber.desc).map (fun d => d.parameters.length) = some 1 by decide +kernel) zs_blind (zs_ob hh26 ha (show RTg[11]? = some (0, 11, 0, fsX12) from rfl) (zCX12 hKn.1)) (fun U hU hW => ⟨rfl, by rw [hU]; exact hh26.l0, zKb s U hW.alike hKn, by rw [hU]; exact ⟨jv26, jg26⟩⟩) hh26.2.2.1 hl.1 (Nat.le_of_ble_eq_true rfl) (eX12_readPlain (293, .invokevirtual 377, 3) (List.mem_of_getElem? (i := 149) rfl)) (fun r28 s28 t28 lo28 g28 f28 l28 => ?_)
          obtain ⟨q28, z28, c28, jv28, jg28⟩ := f28
          cases q28
          rw [g28] at c28
          have hh28 : zh_ok D cA RTg ro sz H0 t28.heap lo28 := ⟨z28.1, z28.2.1, l28, z28.2.2.2⟩
          have kp28 := kp26.trans (c28.mono (ms' := gM) (by decide))
          generalize hx28 : nuG T 18 2 ((upF (upF fj 22 (0)) 17 (2)), (gj.1 + 1, gj.2)) = x28 at jv28 jg28
          have uu28 := jv28.2.2
          unfold vOK at uu28
          have bb28 := byI_bd T x28.2.1
          refine W.eq (g2 := F0 m 296 ls []) rfl ?_
          exact jn296 x28.1 x28.2  ls _ _ hh28 kp28 jv28 jg28 (by rw [← htot]; first | (simp only [rp4G, tz1G, hx28, if_pos d12, if_neg d17, up_eq]; done) | (simp only [rp4G, tz1G, hx28, if_pos d12, if_neg d17, up_eq] <;> rfl) | rfl) (lv_sub hl [0] rfl)
        · skip
          have d29 : byI T gj.1 = 45 := by omega
          refine ff_lconst hx hb (eX12_readPlain (263, .lconst 1, 1) (List.mem_of_getElem? (i := 133) rfl)) rfl (fun v30 e30 => ?_)
          refine lv_goto hx hb (eX12_readPlain (264, .goto 4, 3) (List.mem_of_getElem? (i := 134) rfl)) (tgt := 268) rfl ?_
          refine tz_rowV (As := [.int v13, .long v30]) (st := []) (b := a) (C := RX12) (Ts := gT) hx hb hml hown h2 (fun _ h => h) (hX12_set l D cA ro sz H0 a v13 v30 22 n fj h ha hn1 (by omega) (by decide)) ⟨rfl, rfl⟩ ⟨by decide, by decide⟩ ⟨by decide, by decide⟩ (tb_8 72 rfl rfl) (tb_1 12 rfl rfl) (tb_8 69 rfl rfl) (tb_8 71 rfl rfl) (tb_0 42 rfl rfl) (show yX12_set.cls ≠ "java/lang/invoke/MethodHandle" ∧ yX12_set.cls ≠ "java/lang/invoke/VarHandle" ∧ (parseMethodDescriptor yX12_set.desc).map (fun d => d.parameters.length) = some 2 by decide +kernel) zs_blind (zs_ob hh14 ha (show RTg[11]? = some (0, 11, 0, fsX12) from rfl) (zCX12 hKn.1)) (fun U hU hW => ⟨rfl, by rw [hU]; exact hh14.l0, zKb s U hW.alike hKn, by rw [hU]; exact jgl⟩) hh14.2.2.1 hl.1 (Nat.le_of_ble_eq_true rfl) (eX12_readPlain (268, .invokevirtual 357, 3) (List.mem_of_getElem? (i := 136) rfl)) (fun r31 s31 t31 lo31 g31 f31 l31 => ?_)
          obtain ⟨q31, z31, c31, jg31⟩ := f31
          cases q31
          rw [g31] at c31
          have hh31 : zh_ok D cA RTg ro sz H0 t31.heap lo31 := ⟨z31.1, z31.2.1, l31, z31.2.2.2⟩
          have kp31 := kpl.trans (c31.mono (ms' := gM) (by decide))
          have jg31 : jG D cA ro t31.heap a n (upF fj 22 (1)) h := by rw [← show v30.toInt = 1 by omega]; exact jg31
          have jv31 := jl.kept ha c31 (by decide)
          refine W.eq (g2 := F0 m 271 ls []) rfl ?_
          refine lv_aload_n hx hb (eX12_readPlain (271, .aload_n 0, 1) (List.mem_of_getElem? (i := 137) rfl)) rfl (lv_at hl 0 rfl) ?_
          refine lv_dup hx hb (eX12_readPlain (272, .dup, 1) (List.mem_of_getElem? (i := 138) rfl)) rfl ?_
          obtain ⟨jt32, ⟨av32, fv32, bv32, f2932, f3032, f3132, hav32, hfv32, hbv32⟩, hu32⟩ := id jv31
          refine tz_get (r := 11) (k := 29) (t := (0, 0, 120)) hx hb hh31 ha rfl rfl (hcl11 293 29 (0, 0, 120) (by decide) rfl).1 f2932 (eX12_readPlain (273, .getfield 293, 3) (List.mem_of_getElem? (i := 139) rfl)) ?_
          refine ff_iconst hx hb (eX12_readPlain (276, .iconst 1, 1) (List.mem_of_getElem? (i := 140) rfl)) (by decide) (by decide) (fun v33 e33 => ?_)
          have ha934 : av32.toInt + v33.toInt ≤ 121 ∧ 0 ≤ av32.toInt := by omega
          refine ff_iadd hx hb (eX12_readPlain (277, .iadd, 1) (List.mem_of_getElem? (i := 141) rfl)) (by omega) (by omega) (fun v34 e34 => ?_)
          have hlt := byI_lt (T := T) (a := gj.1) (by omega) (by omega)
          refine tz_put (r := 11) (k := 29) (t := (0, 0, 120)) hx hb hD hh31 ha rfl rfl ((hcl11 293 29 (0, 0, 120) (by decide) rfl).2 (by decide)) (tz_i (by omega) (by omega)) (eX12_readPlain (278, .putfield 293, 3) (List.mem_of_getElem? (i := 142) rfl)) (fun H35 lo35 hh35 hf35 hk35 _ hq35 => ?_)
          have mf35_a_30 := (hk35.1 a 11 30 11 0 fsX12 ha rfl (by decide) (by decide)).trans f3032
          have mf35_a_31 := (hk35.1 a 11 31 11 0 fsX12 ha rfl (by decide) (by decide)).trans f3132
          have kp35 := kp31.trans (hk35.mono (ms' := gM) (fun x hx => by cases List.mem_singleton.mp hx; decide))
          have jv35 : jV D cA ro H35 a T (gj.1 + 1, gj.2) := ⟨jv31.1.kept ha hk35 (by decide) (by decide) (by decide), ⟨_, _, _, hf35, mf35_a_30, mf35_a_31, by show _ = gj.1 + 1; omega, hfv32, hbv32⟩, adG_ok jv31.2.2 (by omega)⟩
          have jg35 := jg31.kept ha hk35 (by decide)
          have uv35 := jv35.2.2
          unfold vOK at uv35
          have bb35 := byI_bd T (gj.1 + 1, gj.2).1
          refine lv_aload_n hx hb (eX12_readPlain (281, .aload_n 0, 1) (List.mem_of_getElem? (i := 143) rfl)) rfl (lv_at hl 0 rfl) ?_
          refine ff_bipush hx hb (eX12_readPlain (282, .bipush 17, 2) (List.mem_of_getElem? (i := 144) rfl)) (by decide) (by decide) (fun v36 e36 => ?_)
          refine ff_ldc2 (n := 2) hx hb hown h2 (clX12_ok 105 2 (List.mem_of_getElem? (i := 7) rfl)) (eX12_readPlain (284, .ldc2_w 105, 3) (List.mem_of_getElem? (i := 145) rfl)) (fun v37 e37 => ?_)
          refine tz_rowV (As := [.int v36, .long v37]) (st := []) (b := a) (C := RX12) (Ts := gT) hx hb hml hown h2 (fun _ h => h) (hX12_set l D cA ro sz H0 a v36 v37 17 n (upF fj 22 (1)) h ha hn1 (by omega) (by decide)) ⟨rfl, rfl⟩ ⟨by decide, by decide⟩ ⟨by decide, by decide⟩ (tb_8 72 rfl rfl) (tb_1 12 rfl rfl) (tb_8 69 rfl rfl) (tb_8 71 rfl rfl) (tb_0 42 rfl rfl) (show yX12_set.cls ≠ "java/lang/invoke/MethodHandle" ∧ yX12_set.cls ≠ "java/lang/invoke/VarHandle" ∧ (parseMethodDescriptor yX12_set.desc).map (fun d => d.parameters.length) = some 2 by decide +kernel) zs_blind (zs_ob hh35 ha (show RTg[11]? = some (0, 11, 0, fsX12) from rfl) (zCX12 hKn.1)) (fun U hU hW => ⟨rfl, by rw [hU]; exact hh35.l0, zKb s U hW.alike hKn, by rw [hU]; exact jg35⟩) hh35.2.2.1 hl.1 (Nat.le_of_ble_eq_true rfl) (eX12_readPlain (287, .invokevirtual 357, 3) (List.mem_of_getElem? (i := 146) rfl)) (fun r38 s38 t38 lo38 g38 f38 l38 => ?_)
          obtain ⟨q38, z38, c38, jg38⟩ := f38
          cases q38
          rw [g38] at c38
          have hh38 : zh_ok D cA RTg ro sz H0 t38.heap lo38 := ⟨z38.1, z38.2.1, l38, z38.2.2.2⟩
          have kp38 := kp35.trans (c38.mono (ms' := gM) (by decide))
          have jg38 : jG D cA ro t38.heap a n (upF (upF fj 22 (1)) 17 (2)) h := by rw [← show v37.toInt = 2 by omega]; exact jg38
          have jv38 := jv35.kept ha c38 (by decide)
          refine W.eq (g2 := F0 m 290 ls []) rfl ?_
          refine lv_aload_n hx hb (eX12_readPlain (290, .aload_n 0, 1) (List.mem_of_getElem? (i := 147) rfl)) rfl (lv_at hl 0 rfl) ?_
          refine ff_bipush hx hb (eX12_readPlain (291, .bipush 18, 2) (List.mem_of_getElem? (i := 148) rfl)) (by decide) (by decide) (fun v39 e39 => ?_)
          refine tz_rowV (As := [.int v39]) (st := []) (b := a) (C := RX12) (Ts := gT) hx hb hml hown h2 (fun _ h => h) (hX12_timeNumber l D cA ro sz H0 a v39 18 T ((gj.1 + 1, gj.2)) n (upF (upF fj 22 (1)) 17 (2)) h ha hn1 hT (by omega) (by decide)) ⟨rfl, rfl⟩ ⟨by decide, by decide⟩ ⟨by decide, by decide⟩ (tb_8 80 rfl rfl) (tb_1 12 rfl rfl) (tb_8 77 rfl rfl) (tb_8 79 rfl rfl) (tb_0 44 rfl rfl) (show yX12_timeNumber.cls ≠ "java/lang/invoke/MethodHandle" ∧ yX12_timeNumber.cls ≠ "java/lang/invoke/VarHandle" ∧ (parseMethodDescriptor yX12_timeNumber.desc).map (fun d => d.parameters.length) = some 1 by decide +kernel) zs_blind (zs_ob hh38 ha (show RTg[11]? = some (0, 11, 0, fsX12) from rfl) (zCX12 hKn.1)) (fun U hU hW => ⟨rfl, by rw [hU]; exact hh38.l0, zKb s U hW.alike hKn, by rw [hU]; exact ⟨jv38, jg38⟩⟩) hh38.2.2.1 hl.1 (Nat.le_of_ble_eq_true rfl) (eX12_readPlain (293, .invokevirtual 377, 3) (List.mem_of_getElem? (i := 149) rfl)) (fun r40 s40 t40 lo40 g40 f40 l40 => ?_)
          obtain ⟨q40, z40, c40, jv40, jg40⟩ := f40
          cases q40
          rw [g40] at c40
          have hh40 : zh_ok D cA RTg ro sz H0 t40.heap lo40 := ⟨z40.1, z40.2.1, l40, z40.2.2.2⟩
          have kp40 := kp38.trans (c40.mono (ms' := gM) (by decide))
          generalize hx40 : nuG T 18 2 ((upF (upF fj 22 (1)) 17 (2)), (gj.1 + 1, gj.2)) = x40 at jv40 jg40
          have uu40 := jv40.2.2
          unfold vOK at uu40
          have bb40 := byI_bd T x40.2.1
          refine W.eq (g2 := F0 m 296 ls []) rfl ?_
          exact jn296 x40.1 x40.2  ls _ _ hh40 kp40 jv40 jg40 (by rw [← htot]; first | (simp only [rp4G, tz1G, hx40, if_pos d12, if_pos d29, up_eq]; done) | (simp only [rp4G, tz1G, hx40, if_pos d12, if_pos d29, up_eq] <;> rfl) | rfl) (lv_sub hl [0] rfl)
      · skip
        refine lv_aload_n hx hb (eX12_readPlain (242, .aload_n 0, 1) (List.mem_of_getElem? (i := 123) rfl)) rfl (lv_at hl 0 rfl) ?_
        refine tz_rowV (As := []) (st := []) (b := a) (C := RX12) (Ts := gT) hx hb hml hown h2 (fun _ h => h) (hX12_sign l D cA ro sz H0 a T (gj) ha) ⟨rfl, rfl⟩ ⟨by decide, by decide⟩ ⟨by decide, by decide⟩ (tb_8 21 rfl rfl) (tb_1 12 rfl rfl) (tb_8 18 rfl rfl) (tb_8 20 rfl rfl) (tb_0 32 rfl rfl) (show yX12_sign.cls ≠ "java/lang/invoke/MethodHandle" ∧ yX12_sign.cls ≠ "java/lang/invoke/VarHandle" ∧ (parseMethodDescriptor yX12_sign.desc).map (fun d => d.parameters.length) = some 0 by decide +kernel) zs_blind (zs_ob hh9 ha (show RTg[11]? = some (0, 11, 0, fsX12) from rfl) (zCX12 hKn.1)) (fun U hU hW => ⟨rfl, by rw [hU]; exact hh9.l0, zKb s U hW.alike hKn, by rw [hU]; exact jl⟩) hh9.2.2.1 hl.1 (Nat.le_of_ble_eq_true rfl) (eX12_readPlain (243, .invokevirtual 309, 3) (List.mem_of_getElem? (i := 124) rfl)) (fun r41 s41 t41 lo41 g41 f41 l41 => ?_)
        obtain ⟨z41, v41, q41, e41⟩ := f41
        cases q41
        rw [z41, g41]
        have hh41 : zh_ok D cA RTg ro sz H0 H lo41 := ⟨hh9.1, hh9.2.1, l41, hh9.2.2.2⟩
        refine W.eq (g2 := F0 m 246 ls [.int v41]) rfl ?_
        refine ff_bipush hx hb (eX12_readPlain (246, .bipush 45, 2) (List.mem_of_getElem? (i := 125) rfl)) (by decide) (by decide) (fun v42 e42 => ?_)
        refine ff_icmp_ne hx hb (eX12_readPlain (248, .if_icmp .ne 63, 3) (List.mem_of_getElem? (i := 126) rfl)) (tgt := 311) rfl (fun c43 => ?_) (fun c43 => ?_)
        · skip
          have d44 : ¬ (gj.2.1 < 0 ∧ (byI T gj.1 = 43 ∨ byI T gj.1 = 45)) := by omega
          refine lv_aload_n hx hb (eX12_readPlain (311, .aload_n 0, 1) (List.mem_of_getElem? (i := 157) rfl)) rfl (lv_at hl 0 rfl) ?_
          refine tz_rowV (As := []) (st := []) (b := a) (C := RX12) (Ts := gT) hx hb hml hown h2 (fun _ h => h) (hX12_fail l D cA ro sz H0 a T (gj) ha) ⟨rfl, rfl⟩ ⟨by decide, by decide⟩ ⟨by decide, by decide⟩ (tb_8 31 rfl rfl) (tb_1 12 rfl rfl) (tb_8 28 rfl rfl) (tb_8 30 rfl rfl) (tb_0 33 rfl rfl) (show yX12_fail.cls ≠ "java/lang/invoke/MethodHandle" ∧ yX12_fail.cls ≠ "java/lang/invoke/VarHandle" ∧ (parseMethodDescriptor yX12_fail.desc).map (fun d => d.parameters.length) = some 0 by decide +kernel) zs_blind (zs_ob hh41 ha (show RTg[11]? = some (0, 11, 0, fsX12) from rfl) (zCX12 hKn.1)) (fun U hU hW => ⟨rfl, by rw [hU]; exact hh41.l0, zKb s U hW.alike hKn, by rw [hU]; exact jl⟩) hh41.2.2.1 hl.1 (Nat.le_of_ble_eq_true rfl) (eX12_readPlain (312, .invokevirtual 316, 3) (List.mem_of_getElem? (i := 158) rfl)) (fun r45 s45 t45 lo45 g45 f45 l45 => ?_)
          obtain ⟨q45, z45, c45, jv45⟩ := f45
          cases q45
          rw [g45] at c45
          have hh45 : zh_ok D cA RTg ro sz H0 t45.heap lo45 := ⟨z45.1, z45.2.1, l45, z45.2.2.2⟩
          have kp45 := kpl.trans (c45.mono (ms' := gM) (by decide))
          have kf45 := flG_nn (T := T) (r := gj) jl.2.2
          generalize hx45 : flG gj = x45 at jv45 kf45
          have uu45 := jv45.2.2
          unfold vOK at uu45
          have bb45 := byI_bd T x45.1
          have jg45 := jgl.kept ha c45 (by decide)
          refine W.eq (g2 := F0 m 315 ls []) rfl ?_
          have hfin : rpG T sg = (fj, x45) := by rw [← htot]; first | (simp only [rp4G, tz1G, exS, hx45, if_neg d44, up_eq]; done) | (simp only [rp4G, tz1G, exS, hx45, if_neg d44, up_eq] <;> rfl) | rfl
          exact W.vret hx hb hr (fun t ht hW => ⟨rfl, by rw [ht]; exact hh45.l0, by rw [ht]; exact kp45, by rw [ht, hfin]; exact jv45, by rw [ht, hfin]; exact jg45⟩) hh45.2.2.1 (eX12_readPlain (315, .return_, 1) (List.mem_of_getElem? (i := 159) rfl))
        · skip
          have d46 : gj.2.1 < 0 ∧ (byI T gj.1 = 43 ∨ byI T gj.1 = 45) := by omega
          refine lv_aload_n hx hb (eX12_readPlain (251, .aload_n 0, 1) (List.mem_of_getElem? (i := 127) rfl)) rfl (lv_at hl 0 rfl) ?_
          refine ff_bipush hx hb (eX12_readPlain (252, .bipush 22, 2) (List.mem_of_getElem? (i := 128) rfl)) (by decide) (by decide) (fun v47 e47 => ?_)
          refine lv_aload_n hx hb (eX12_readPlain (254, .aload_n 0, 1) (List.mem_of_getElem? (i := 129) rfl)) rfl (lv_at hl 0 rfl) ?_
          refine tz_rowV (As := []) (st := [.int v47, .ref a]) (b := a) (C := RX12) (Ts := gT) hx hb hml hown h2 (fun _ h => h) (hX12_sign l D cA ro sz H0 a T (gj) ha) ⟨rfl, rfl⟩ ⟨by decide, by decide⟩ ⟨by decide, by decide⟩ (tb_8 21 rfl rfl) (tb_1 12 rfl rfl) (tb_8 18 rfl rfl) (tb_8 20 rfl rfl) (tb_0 32 rfl rfl) (show yX12_sign.cls ≠ "java/lang/invoke/MethodHandle" ∧ yX12_sign.cls ≠ "java/lang/invoke/VarHandle" ∧ (parseMethodDescriptor yX12_sign.desc).map (fun d => d.parameters.length) = some 0 by decide +kernel) zs_blind (zs_ob hh41 ha (show RTg[11]? = some (0, 11, 0, fsX12) from rfl) (zCX12 hKn.1)) (fun U hU hW => ⟨rfl, by rw [hU]; exact hh41.l0, zKb s U hW.alike hKn, by rw [hU]; exact jl⟩) hh41.2.2.1 hl.1 (Nat.le_of_ble_eq_true rfl) (eX12_readPlain (255, .invokevirtual 309, 3) (List.mem_of_getElem? (i := 130) rfl)) (fun r48 s48 t48 lo48 g48 f48 l48 => ?_)
          obtain ⟨z48, v48, q48, e48⟩ := f48
          cases q48
          rw [z48, g48]
          have hh48 : zh_ok D cA RTg ro sz H0 H lo48 := ⟨hh41.1, hh41.2.1, l48, hh41.2.2.2⟩
          refine W.eq (g2 := F0 m 258 ls [.int v48, .int v47, .ref a]) rfl ?_
          refine ff_bipush hx hb (eX12_readPlain (258, .bipush 45, 2) (List.mem_of_getElem? (i := 131) rfl)) (by decide) (by decide) (fun v49 e49 => ?_)
          refine ff_icmp_ne hx hb (eX12_readPlain (260, .if_icmp .ne 7, 3) (List.mem_of_getElem? (i := 132) rfl)) (tgt := 267) rfl (fun c50 => ?_) (fun c50 => ?_)
          · skip
            have d51 : ¬ (byI T gj.1 = 45) := by omega
            refine ff_lconst hx hb (eX12_readPlain (267, .lconst 0, 1) (List.mem_of_getElem? (i := 135) rfl)) rfl (fun v52 e52 => ?_)
            refine tz_rowV (As := [.int v47, .long v52]) (st := []) (b := a) (C := RX12) (Ts := gT) hx hb hml hown h2 (fun _ h => h) (hX12_set l D cA ro sz H0 a v47 v52 22 n fj h ha hn1 (by omega) (by decide)) ⟨rfl, rfl⟩ ⟨by decide, by decide⟩ ⟨by decide, by decide⟩ (tb_8 72 rfl rfl) (tb_1 12 rfl rfl) (tb_8 69 rfl rfl) (tb_8 71 rfl rfl) (tb_0 42 rfl rfl) (show yX12_set.cls ≠ "java/lang/invoke/MethodHandle" ∧ yX12_set.cls ≠ "java/lang/invoke/VarHandle" ∧ (parseMethodDescriptor yX12_set.desc).map (fun d => d.parameters.length) = some 2 by decide +kernel) zs_blind (zs_ob hh48 ha (show RTg[11]? = some (0, 11, 0, fsX12) from rfl) (zCX12 hKn.1)) (fun U hU hW => ⟨rfl, by rw [hU]; exact hh48.l0, zKb s U hW.alike hKn, by rw [hU]; exact jgl⟩) hh48.2.2.1 hl.1 (Nat.le_of_ble_eq_true rfl) (eX12_readPlain (268, .invokevirtual 357, 3) (List.mem_of_getElem? (i := 136) rfl)) (fun r53 s53 t53 lo53 g53 f53 l53 => ?_)
            obtain ⟨q53, z53, c53, jg53⟩ := f53
            cases q53
            rw [g53] at c53
            have hh53 : zh_ok D cA RTg ro sz H0 t53.heap lo53 := ⟨z53.1, z53.2.1, l53, z53.2.2.2⟩
            have kp53 := kpl.trans (c53.mono (ms' := gM) (by decide))
            have jg53 : jG D cA ro t53.heap a n (upF fj 22 (0)) h := by rw [← show v52.toInt = 0 by omega]; exact jg53
            have jv53 := jl.kept ha c53 (by decide)
            refine W.eq (g2 := F0 m 271 ls []) rfl ?_
            refine lv_aload_n hx hb (eX12_readPlain (271, .aload_n 0, 1) (List.mem_of_getElem? (i := 137) rfl)) rfl (lv_at hl 0 rfl) ?_
            refine lv_dup hx hb (eX12_readPlain (272, .dup, 1) (List.mem_of_getElem? (i := 138) rfl)) rfl ?_
            obtain ⟨jt54, ⟨av54, fv54, bv54, f2954, f3054, f3154, hav54, hfv54, hbv54⟩, hu54⟩ := id jv53
            refine tz_get (r := 11) (k := 29) (t := (0, 0, 120)) hx hb hh53 ha rfl rfl (hcl11 293 29 (0, 0, 120) (by decide) rfl).1 f2954 (eX12_readPlain (273, .getfield 293, 3) (List.mem_of_getElem? (i := 139) rfl)) ?_
            refine ff_iconst hx hb (eX12_readPlain (276, .iconst 1, 1) (List.mem_of_getElem? (i := 140) rfl)) (by decide) (by decide) (fun v55 e55 => ?_)
            have ha956 : av54.toInt + v55.toInt ≤ 121 ∧ 0 ≤ av54.toInt := by omega
            refine ff_iadd hx hb (eX12_readPlain (277, .iadd, 1) (List.mem_of_getElem? (i := 141) rfl)) (by omega) (by omega) (fun v56 e56 => ?_)
            have hlt := byI_lt (T := T) (a := gj.1) (by omega) (by omega)
            refine tz_put (r := 11) (k := 29) (t := (0, 0, 120)) hx hb hD hh53 ha rfl rfl ((hcl11 293 29 (0, 0, 120) (by decide) rfl).2 (by decide)) (tz_i (by omega) (by omega)) (eX12_readPlain (278, .putfield 293, 3) (List.mem_of_getElem? (i := 142) rfl)) (fun H57 lo57 hh57 hf57 hk57 _ hq57 => ?_)
            have mf57_a_30 := (hk57.1 a 11 30 11 0 fsX12 ha rfl (by decide) (by decide)).trans f3054
            have mf57_a_31 := (hk57.1 a 11 31 11 0 fsX12 ha rfl (by decide) (by decide)).trans f3154
            have kp57 := kp53.trans (hk57.mono (ms' := gM) (fun x hx => by cases List.mem_singleton.mp hx; decide))
            have jv57 : jV D cA ro H57 a T (gj.1 + 1, gj.2) := ⟨jv53.1.kept ha hk57 (by decide) (by decide) (by decide), ⟨_, _, _, hf57, mf57_a_30, mf57_a_31, by show _ = gj.1 + 1; omega, hfv54, hbv54⟩, adG_ok jv53.2.2 (by omega)⟩
            have jg57 := jg53.kept ha hk57 (by decide)
            have uv57 := jv57.2.2
            unfold vOK at uv57
            have bb57 := byI_bd T (gj.1 + 1, gj.2).1
            refine lv_aload_n hx hb (eX12_readPlain (281, .aload_n 0, 1) (List.mem_of_getElem? (i := 143) rfl)) rfl (lv_at hl 0 rfl) ?_
            refine ff_bipush hx hb (eX12_readPlain (282, .bipush 17, 2) (List.mem_of_getElem? (i := 144) rfl)) (by decide) (by decide) (fun v58 e58 => ?_)
            refine ff_ldc2 (n := 2) hx hb hown h2 (clX12_ok 105 2 (List.mem_of_getElem? (i := 7) rfl)) (eX12_readPlain (284, .ldc2_w 105, 3) (List.mem_of_getElem? (i := 145) rfl)) (fun v59 e59 => ?_)
            refine tz_rowV (As := [.int v58, .long v59]) (st := []) (b := a) (C := RX12) (Ts := gT) hx hb hml hown h2 (fun _ h => h) (hX12_set l D cA ro sz H0 a v58 v59 17 n (upF fj 22 (0)) h ha hn1 (by omega) (by decide)) ⟨rfl, rfl⟩ ⟨by decide, by decide⟩ ⟨by decide, by decide⟩ (tb_8 72 rfl rfl) (tb_1 12 rfl rfl) (tb_8 69 rfl rfl) (tb_8 71 rfl rfl) (tb_0 42 rfl rfl) (show yX12_set.cls ≠ "java/lang/invoke/MethodHandle" ∧ yX12_set.cls ≠ "java/lang/invoke/VarHandle" ∧ (parseMethodDescriptor yX12_set.desc).map (fun d => d.parameters.length) = some 2 by decide +kernel) zs_blind (zs_ob hh57 ha (show RTg[11]? = some (0, 11, 0, fsX12) from rfl) (zCX12 hKn.1)) (fun U hU hW => ⟨rfl, by rw [hU]; exact hh57.l0, zKb s U hW.alike hKn, by rw [hU]; exact jg57⟩) hh57.2.2.1 hl.1 (Nat.le_of_ble_eq_true rfl) (eX12_readPlain (287, .invokevirtual 357, 3) (List.mem_of_getElem? (i := 146) rfl)) (fun r60 s60 t60 lo60 g60 f60 l60 => ?_)
            obtain ⟨q60, z60, c60, jg60⟩ := f60
            cases q60
            rw [g60] at c60
            have hh60 : zh_ok D cA RTg ro sz H0 t60.heap lo60 := ⟨z60.1, z60.2.1, l60, z60.2.2.2⟩
            have kp60 := kp57.trans (c60.mono (ms' := gM) (by decide))
            have jg60 : jG D cA ro t60.heap a n (upF (upF fj 22 (0)) 17 (2)) h := by rw [← show v59.toInt = 2 by omega]; exact jg60
            have jv60 := jv57.kept ha c60 (by decide)
            refine W.eq (g2 := F0 m 290 ls []) rfl ?_
            refine lv_aload_n hx hb (eX12_readPlain (290, .aload_n 0, 1) (List.mem_of_getElem? (i := 147) rfl)) rfl (lv_at hl 0 rfl) ?_
            refine ff_bipush hx hb (eX12_readPlain (291, .bipush 18, 2) (List.mem_of_getElem? (i := 148) rfl)) (by decide) (by decide) (fun v61 e61 => ?_)
            refine tz_rowV (As := [.int v61]) (st := []) (b := a) (C := RX12) (Ts := gT) hx hb hml hown h2 (fun _ h => h) (hX12_timeNumber l D cA ro sz H0 a v61 18 T ((gj.1 + 1, gj.2)) n (upF (upF fj 22 (0)) 17 (2)) h ha hn1 hT (by omega) (by decide)) ⟨rfl, rfl⟩ ⟨by decide, by decide⟩ ⟨by decide, by decide⟩ (tb_8 80 rfl rfl) (tb_1 12 rfl rfl) (tb_8 77 rfl rfl) (tb_8 79 rfl rfl) (tb_0 44 rfl rfl) (show yX12_timeNumber.cls ≠ "java/lang/invoke/MethodHandle" ∧ yX12_timeNumber.cls ≠ "java/lang/invoke/VarHandle" ∧ (parseMethodDescriptor yX12_timeNumber.desc).map (fun d => d.parameters.length) = some 1 by decide +kernel) zs_blind (zs_ob hh60 ha (show RTg[11]? = some (0, 11, 0, fsX12) from rfl) (zCX12 hKn.1)) (fun U hU hW => ⟨rfl, by rw [hU]; exact hh60.l0, zKb s U hW.alike hKn, by rw [hU]; exact ⟨jv60, jg60⟩⟩) hh60.2.2.1 hl.1 (Nat.le_of_ble_eq_true rfl) (eX12_readPlain (293, .invokevirtual 377, 3) (List.mem_of_getElem? (i := 149) rfl)) (fun r62 s62 t62 lo62 g62 f62 l62 => ?_)
            obtain ⟨q62, z62, c62, jv62, jg62⟩ := f62
            cases q62
            rw [g62] at c62
            have hh62 : zh_ok D cA RTg ro sz H0 t62.heap lo62 := ⟨z62.1, z62.2.1, l62, z62.2.2.2⟩
            have kp62 := kp60.trans (c62.mono (ms' := gM) (by decide))
            generalize hx62 : nuG T 18 2 ((upF (upF fj 22 (0)) 17 (2)), (gj.1 + 1, gj.2)) = x62 at jv62 jg62
            have uu62 := jv62.2.2
            unfold vOK at uu62
            have bb62 := byI_bd T x62.2.1
            refine W.eq (g2 := F0 m 296 ls []) rfl ?_
            exact jn296 x62.1 x62.2  ls _ _ hh62 kp62 jv62 jg62 (by rw [← htot]; first | (simp only [rp4G, tz1G, hx62, if_pos d46, if_neg d51, up_eq]; done) | (simp only [rp4G, tz1G, hx62, if_pos d46, if_neg d51, up_eq] <;> rfl) | rfl) (lv_sub hl [0] rfl)
          · skip
            have d63 : byI T gj.1 = 45 := by omega
            refine ff_lconst hx hb (eX12_readPlain (263, .lconst 1, 1) (List.mem_of_getElem? (i := 133) rfl)) rfl (fun v64 e64 => ?_)
            refine lv_goto hx hb (eX12_readPlain (264, .goto 4, 3) (List.mem_of_getElem? (i := 134) rfl)) (tgt := 268) rfl ?_
            refine tz_rowV (As := [.int v47, .long v64]) (st := []) (b := a) (C := RX12) (Ts := gT) hx hb hml hown h2 (fun _ h => h) (hX12_set l D cA ro sz H0 a v47 v64 22 n fj h ha hn1 (by omega) (by decide)) ⟨rfl, rfl⟩ ⟨by decide, by decide⟩ ⟨by decide, by decide⟩ (tb_8 72 rfl rfl) (tb_1 12 rfl rfl) (tb_8 69 rfl rfl) (tb_8 71 rfl rfl) (tb_0 42 rfl rfl) (show yX12_set.cls ≠ "java/lang/invoke/MethodHandle" ∧ yX12_set.cls ≠ "java/lang/invoke/VarHandle" ∧ (parseMethodDescriptor yX12_set.desc).map (fun d => d.parameters.length) = some 2 by decide +kernel) zs_blind (zs_ob hh48 ha (show RTg[11]? = some (0, 11, 0, fsX12) from rfl) (zCX12 hKn.1)) (fun U hU hW => ⟨rfl, by rw [hU]; exact hh48.l0, zKb s U hW.alike hKn, by rw [hU]; exact jgl⟩) hh48.2.2.1 hl.1 (Nat.le_of_ble_eq_true rfl) (eX12_readPlain (268, .invokevirtual 357, 3) (List.mem_of_getElem? (i := 136) rfl)) (fun r65 s65 t65 lo65 g65 f65 l65 => ?_)
            obtain ⟨q65, z65, c65, jg65⟩ := f65
            cases q65
            rw [g65] at c65
            have hh65 : zh_ok D cA RTg ro sz H0 t65.heap lo65 := ⟨z65.1, z65.2.1, l65, z65.2.2.2⟩
            have kp65 := kpl.trans (c65.mono (ms' := gM) (by decide))
            have jg65 : jG D cA ro t65.heap a n (upF fj 22 (1)) h := by rw [← show v64.toInt = 1 by omega]; exact jg65
            have jv65 := jl.kept ha c65 (by decide)
            refine W.eq (g2 := F0 m 271 ls []) rfl ?_
            refine lv_aload_n hx hb (eX12_readPlain (271, .aload_n 0, 1) (List.mem_of_getElem? (i := 137) rfl)) rfl (lv_at hl 0 rfl) ?_
            refine lv_dup hx hb (eX12_readPlain (272, .dup, 1) (List.mem_of_getElem? (i := 138) rfl)) rfl ?_
            obtain ⟨jt66, ⟨av66, fv66, bv66, f2966, f3066, f3166, hav66, hfv66, hbv66⟩, hu66⟩ := id jv65
            refine tz_get (r := 11) (k := 29) (t := (0, 0, 120)) hx hb hh65 ha rfl rfl (hcl11 293 29 (0, 0, 120) (by decide) rfl).1 f2966 (eX12_readPlain (273, .getfield 293, 3) (List.mem_of_getElem? (i := 139) rfl)) ?_
            refine ff_iconst hx hb (eX12_readPlain (276, .iconst 1, 1) (List.mem_of_getElem? (i := 140) rfl)) (by decide) (by decide) (fun v67 e67 => ?_)
            have ha968 : av66.toInt + v67.toInt ≤ 121 ∧ 0 ≤ av66.toInt := by omega
            refine ff_iadd hx hb (eX12_readPlain (277, .iadd, 1) (List.mem_of_getElem? (i := 141) rfl)) (by omega) (by omega) (fun v68 e68 => ?_)
            have hlt := byI_lt (T := T) (a := gj.1) (by omega) (by omega)
            refine tz_put (r := 11) (k := 29) (t := (0, 0, 120)) hx hb hD hh65 ha rfl rfl ((hcl11 293 29 (0, 0, 120) (by decide) rfl).2 (by decide)) (tz_i (by omega) (by omega)) (eX12_readPlain (278, .putfield 293, 3) (List.mem_of_getElem? (i := 142) rfl)) (fun H69 lo69 hh69 hf69 hk69 _ hq69 => ?_)
            have mf69_a_30 := (hk69.1 a 11 30 11 0 fsX12 ha rfl (by decide) (by decide)).trans f3066
            have mf69_a_31 := (hk69.1 a 11 31 11 0 fsX12 ha rfl (by decide) (by decide)).trans f3166
            have kp69 := kp65.trans (hk69.mono (ms' := gM) (fun x hx => by cases List.mem_singleton.mp hx; decide))
            have jv69 : jV D cA ro H69 a T (gj.1 + 1, gj.2) := ⟨jv65.1.kept ha hk69 (by decide) (by decide) (by decide), ⟨_, _, _, hf69, mf69_a_30, mf69_a_31, by show _ = gj.1 + 1; omega, hfv66, hbv66⟩, adG_ok jv65.2.2 (by omega)⟩
            have jg69 := jg65.kept ha hk69 (by decide)
            have uv69 := jv69.2.2
            unfold vOK at uv69
            have bb69 := byI_bd T (gj.1 + 1, gj.2).1
            refine lv_aload_n hx hb (eX12_readPlain (281, .aload_n 0, 1) (List.mem_of_getElem? (i := 143) rfl)) rfl (lv_at hl 0 rfl) ?_
            refine ff_bipush hx hb (eX12_readPlain (282, .bipush 17, 2) (List.mem_of_getElem? (i := 144) rfl)) (by decide) (by decide) (fun v70 e70 => ?_)
            refine ff_ldc2 (n := 2) hx hb hown h2 (clX12_ok 105 2 (List.mem_of_getElem? (i := 7) rfl)) (eX12_readPlain (284, .ldc2_w 105, 3) (List.mem_of_getElem? (i := 145) rfl)) (fun v71 e71 => ?_)
            refine tz_rowV (As := [.int v70, .long v71]) (st := []) (b := a) (C := RX12) (Ts := gT) hx hb hml hown h2 (fun _ h => h) (hX12_set l D cA ro sz H0 a v70 v71 17 n (upF fj 22 (1)) h ha hn1 (by omega) (by decide)) ⟨rfl, rfl⟩ ⟨by decide, by decide⟩ ⟨by decide, by decide⟩ (tb_8 72 rfl rfl) (tb_1 12 rfl rfl) (tb_8 69 rfl rfl) (tb_8 71 rfl rfl) (tb_0 42 rfl rfl) (show yX12_set.cls ≠ "java/lang/invoke/MethodHandle" ∧ yX12_set.cls ≠ "java/lang/invoke/VarHandle" ∧ (parseMethodDescriptor yX12_set.desc).map (fun d => d.parameters.length) = some 2 by decide +kernel) zs_blind (zs_ob hh69 ha (show RTg[11]? = some (0, 11, 0, fsX12) from rfl) (zCX12 hKn.1)) (fun U hU hW => ⟨rfl, by rw [hU]; exact hh69.l0, zKb s U hW.alike hKn, by rw [hU]; exact jg69⟩) hh69.2.2.1 hl.1 (Nat.le_of_ble_eq_true rfl) (eX12_readPlain (287, .invokevirtual 357, 3) (List.mem_of_getElem? (i := 146) rfl)) (fun r72 s72 t72 lo72 g72 f72 l72 => ?_)
            obtain ⟨q72, z72, c72, jg72⟩ := f72
            cases q72
            rw [g72] at c72
            have hh72 : zh_ok D cA RTg ro sz H0 t72.heap lo72 := ⟨z72.1, z72.2.1, l72, z72.2.2.2⟩
            have kp72 := kp69.trans (c72.mono (ms' := gM) (by decide))
            have jg72 : jG D cA ro t72.heap a n (upF (upF fj 22 (1)) 17 (2)) h := by rw [← show v71.toInt = 2 by omega]; exact jg72
            have jv72 := jv69.kept ha c72 (by decide)
            refine W.eq (g2 := F0 m 290 ls []) rfl ?_
            refine lv_aload_n hx hb (eX12_readPlain (290, .aload_n 0, 1) (List.mem_of_getElem? (i := 147) rfl)) rfl (lv_at hl 0 rfl) ?_
            refine ff_bipush hx hb (eX12_readPlain (291, .bipush 18, 2) (List.mem_of_getElem? (i := 148) rfl)) (by decide) (by decide) (fun v73 e73 => ?_)
            refine tz_rowV (As := [.int v73]) (st := []) (b := a) (C := RX12) (Ts := gT) hx hb hml hown h2 (fun _ h => h) (hX12_timeNumber l D cA ro sz H0 a v73 18 T ((gj.1 + 1, gj.2)) n (upF (upF fj 22 (1)) 17 (2)) h ha hn1 hT (by omega) (by decide)) ⟨rfl, rfl⟩ ⟨by decide, by decide⟩ ⟨by decide, by decide⟩ (tb_8 80 rfl rfl) (tb_1 12 rfl rfl) (tb_8 77 rfl rfl) (tb_8 79 rfl rfl) (tb_0 44 rfl rfl) (show yX12_timeNumber.cls ≠ "java/lang/invoke/MethodHandle" ∧ yX12_timeNumber.cls ≠ "java/lang/invoke/VarHandle" ∧ (parseMethodDescriptor yX12_timeNumber.desc).map (fun d => d.parameters.length) = some 1 by decide +kernel) zs_blind (zs_ob hh72 ha (show RTg[11]? = some (0, 11, 0, fsX12) from rfl) (zCX12 hKn.1)) (fun U hU hW => ⟨rfl, by rw [hU]; exact hh72.l0, zKb s U hW.alike hKn, by rw [hU]; exact ⟨jv72, jg72⟩⟩) hh72.2.2.1 hl.1 (Nat.le_of_ble_eq_true rfl) (eX12_readPlain (293, .invokevirtual 377, 3) (List.mem_of_getElem? (i := 149) rfl)) (fun r74 s74 t74 lo74 g74 f74 l74 => ?_)
            obtain ⟨q74, z74, c74, jv74, jg74⟩ := f74
            cases q74
            rw [g74] at c74
            have hh74 : zh_ok D cA RTg ro sz H0 t74.heap lo74 := ⟨z74.1, z74.2.1, l74, z74.2.2.2⟩
            have kp74 := kp72.trans (c74.mono (ms' := gM) (by decide))
            generalize hx74 : nuG T 18 2 ((upF (upF fj 22 (1)) 17 (2)), (gj.1 + 1, gj.2)) = x74 at jv74 jg74
            have uu74 := jv74.2.2
            unfold vOK at uu74
            have bb74 := byI_bd T x74.2.1
            refine W.eq (g2 := F0 m 296 ls []) rfl ?_
            exact jn296 x74.1 x74.2  ls _ _ hh74 kp74 jv74 jg74 (by rw [← htot]; first | (simp only [rp4G, tz1G, hx74, if_pos d46, if_pos d63, up_eq]; done) | (simp only [rp4G, tz1G, hx74, if_pos d46, if_pos d63, up_eq] <;> rfl) | rfl) (lv_sub hl [0] rfl)
  have jn181 : ∀ (fj : fN) (gj : uS)  (ls : Array Slot) (H : Heap) (lo0 : List Loc), zh_ok D cA RTg ro sz H0 H lo0 → zc_kept D RTg ro gM s.heap H → jV D cA ro H a T gj → jG D cA ro H a n fj h → rp4G T (fj, gj) = rpG T sg → lv_has ls 1 [(0, .ref a)] → W p l e (headSpec (gW yX12_readPlain cX12_readPlain 1 none) { frames := 3, cells := 0, slots := 0, locals := 65 }).room s m ([.ref a] : List Value).toArray below meth c H lo0 0 0 (MQ below (rg_V D cA ro sz H0 gM a n T h (rpG T sg)) ([.ref a] : List Value).toArray s 0 0 (zy_fr sz)) (F0 m 181 ls []) := by
    intro fj gj  ls H lo0 hh0 kpl jl jgl  htot hl
    have hul := jl.2.2
    unfold vOK at hul
    have hbj := byI_bd T gj.1
    refine lv_aload_n hx hb (eX12_readPlain (181, .aload_n 0, 1) (List.mem_of_getElem? (i := 94) rfl)) rfl (lv_at hl 0 rfl) ?_
    refine tz_rowV (As := []) (st := []) (b := a) (C := RX12) (Ts := gT) hx hb hml hown h2 (fun _ h => h) (hX12_isGood l D cA ro sz H0 a T (gj) ha) ⟨rfl, rfl⟩ ⟨by decide, by decide⟩ ⟨by decide, by decide⟩ (tb_8 17 rfl rfl) (tb_1 12 rfl rfl) (tb_8 14 rfl rfl) (tb_8 16 rfl rfl) (tb_0 31 rfl rfl) (show yX12_isGood.cls ≠ "java/lang/invoke/MethodHandle" ∧ yX12_isGood.cls ≠ "java/lang/invoke/VarHandle" ∧ (parseMethodDescriptor yX12_isGood.desc).map (fun d => d.parameters.length) = some 0 by decide +kernel) zs_blind (zs_ob hh0 ha (show RTg[11]? = some (0, 11, 0, fsX12) from rfl) (zCX12 hKn.1)) (fun U hU hW => ⟨rfl, by rw [hU]; exact hh0.l0, zKb s U hW.alike hKn, by rw [hU]; exact jl⟩) hh0.2.2.1 hl.1 (Nat.le_of_ble_eq_true rfl) (eX12_readPlain (182, .invokevirtual 305, 3) (List.mem_of_getElem? (i := 95) rfl)) (fun r75 s75 t75 lo75 g75 f75 l75 => ?_)
    obtain ⟨z75, v75, q75, e75⟩ := f75
    cases q75
    rw [z75, g75]
    have hh75 : zh_ok D cA RTg ro sz H0 H lo75 := ⟨hh0.1, hh0.2.1, l75, hh0.2.2.2⟩
    refine W.eq (g2 := F0 m 185 ls [.int v75]) rfl ?_
    refine ff_if_eq hx hb (eX12_readPlain (185, .ifCond .eq 41, 3) (List.mem_of_getElem? (i := 96) rfl)) (tgt := 226) rfl (fun c76 => ?_) (fun c76 => ?_)
    · skip
      have d77 : ¬ (gj.2.1 < 0 ∧ (byI T gj.1 = 90 ∨ byI T gj.1 = 122)) := by omega
      exact jn226 fj gj  ls _ _ hh75 kpl jl jgl (by rw [← htot]; first | (simp only [rp4G, if_neg d77, up_eq]; done) | (simp only [rp4G, if_neg d77, up_eq] <;> rfl) | rfl) (lv_sub hl [0] rfl)
    · skip
      refine lv_aload_n hx hb (eX12_readPlain (188, .aload_n 0, 1) (List.mem_of_getElem? (i := 97) rfl)) rfl (lv_at hl 0 rfl) ?_
      refine tz_rowV (As := []) (st := []) (b := a) (C := RX12) (Ts := gT) hx hb hml hown h2 (fun _ h => h) (hX12_sign l D cA ro sz H0 a T (gj) ha) ⟨rfl, rfl⟩ ⟨by decide, by decide⟩ ⟨by decide, by decide⟩ (tb_8 21 rfl rfl) (tb_1 12 rfl rfl) (tb_8 18 rfl rfl) (tb_8 20 rfl rfl) (tb_0 32 rfl rfl) (show yX12_sign.cls ≠ "java/lang/invoke/MethodHandle" ∧ yX12_sign.cls ≠ "java/lang/invoke/VarHandle" ∧ (parseMethodDescriptor yX12_sign.desc).map (fun d => d.parameters.length) = some 0 by decide +kernel) zs_blind (zs_ob hh75 ha (show RTg[11]? = some (0, 11, 0, fsX12) from rfl) (zCX12 hKn.1)) (fun U hU hW => ⟨rfl, by rw [hU]; exact hh75.l0, zKb s U hW.alike hKn, by rw [hU]; exact jl⟩) hh75.2.2.1 hl.1 (Nat.le_of_ble_eq_true rfl) (eX12_readPlain (189, .invokevirtual 309, 3) (List.mem_of_getElem? (i := 98) rfl)) (fun r78 s78 t78 lo78 g78 f78 l78 => ?_)
      obtain ⟨z78, v78, q78, e78⟩ := f78
      cases q78
      rw [z78, g78]
      have hh78 : zh_ok D cA RTg ro sz H0 H lo78 := ⟨hh75.1, hh75.2.1, l78, hh75.2.2.2⟩
      refine W.eq (g2 := F0 m 192 ls [.int v78]) rfl ?_
      refine ff_bipush hx hb (eX12_readPlain (192, .bipush 90, 2) (List.mem_of_getElem? (i := 99) rfl)) (by decide) (by decide) (fun v79 e79 => ?_)
      refine ff_icmp_eq hx hb (eX12_readPlain (194, .if_icmp .eq 12, 3) (List.mem_of_getElem? (i := 100) rfl)) (tgt := 206) rfl (fun c80 => ?_) (fun c80 => ?_)
      · skip
        have d81 : gj.2.1 < 0 ∧ (byI T gj.1 = 90 ∨ byI T gj.1 = 122) := by omega
        refine lv_aload_n hx hb (eX12_readPlain (206, .aload_n 0, 1) (List.mem_of_getElem? (i := 105) rfl)) rfl (lv_at hl 0 rfl) ?_
        refine lv_dup hx hb (eX12_readPlain (207, .dup, 1) (List.mem_of_getElem? (i := 106) rfl)) rfl ?_
        obtain ⟨jt82, ⟨av82, fv82, bv82, f2982, f3082, f3182, hav82, hfv82, hbv82⟩, hu82⟩ := id jl
        refine tz_get (r := 11) (k := 29) (t := (0, 0, 120)) hx hb hh78 ha rfl rfl (hcl11 293 29 (0, 0, 120) (by decide) rfl).1 f2982 (eX12_readPlain (208, .getfield 293, 3) (List.mem_of_getElem? (i := 107) rfl)) ?_
        refine ff_iconst hx hb (eX12_readPlain (211, .iconst 1, 1) (List.mem_of_getElem? (i := 108) rfl)) (by decide) (by decide) (fun v83 e83 => ?_)
        have ha984 : av82.toInt + v83.toInt ≤ 121 ∧ 0 ≤ av82.toInt := by omega
        refine ff_iadd hx hb (eX12_readPlain (212, .iadd, 1) (List.mem_of_getElem? (i := 109) rfl)) (by omega) (by omega) (fun v84 e84 => ?_)
        have hlt := byI_lt (T := T) (a := gj.1) (by omega) (by omega)
        refine tz_put (r := 11) (k := 29) (t := (0, 0, 120)) hx hb hD hh78 ha rfl rfl ((hcl11 293 29 (0, 0, 120) (by decide) rfl).2 (by decide)) (tz_i (by omega) (by omega)) (eX12_readPlain (213, .putfield 293, 3) (List.mem_of_getElem? (i := 110) rfl)) (fun H85 lo85 hh85 hf85 hk85 _ hq85 => ?_)
        have mf85_a_30 := (hk85.1 a 11 30 11 0 fsX12 ha rfl (by decide) (by decide)).trans f3082
        have mf85_a_31 := (hk85.1 a 11 31 11 0 fsX12 ha rfl (by decide) (by decide)).trans f3182
        have kp85 := kpl.trans (hk85.mono (ms' := gM) (fun x hx => by cases List.mem_singleton.mp hx; decide))
        have jv85 : jV D cA ro H85 a T (gj.1 + 1, gj.2) := ⟨jl.1.kept ha hk85 (by decide) (by decide) (by decide), ⟨_, _, _, hf85, mf85_a_30, mf85_a_31, by show _ = gj.1 + 1; omega, hfv82, hbv82⟩, adG_ok jl.2.2 (by omega)⟩
        have jg85 := jgl.kept ha hk85 (by decide)
        have uv85 := jv85.2.2
        unfold vOK at uv85
        have bb85 := byI_bd T (gj.1 + 1, gj.2).1
        refine lv_aload_n hx hb (eX12_readPlain (216, .aload_n 0, 1) (List.mem_of_getElem? (i := 111) rfl)) rfl (lv_at hl 0 rfl) ?_
        refine ff_bipush hx hb (eX12_readPlain (217, .bipush 17, 2) (List.mem_of_getElem? (i := 112) rfl)) (by decide) (by decide) (fun v86 e86 => ?_)
        refine ff_lconst hx hb (eX12_readPlain (219, .lconst 1, 1) (List.mem_of_getElem? (i := 113) rfl)) rfl (fun v87 e87 => ?_)
        refine tz_rowV (As := [.int v86, .long v87]) (st := []) (b := a) (C := RX12) (Ts := gT) hx hb hml hown h2 (fun _ h => h) (hX12_set l D cA ro sz H0 a v86 v87 17 n fj h ha hn1 (by omega) (by decide)) ⟨rfl, rfl⟩ ⟨by decide, by decide⟩ ⟨by decide, by decide⟩ (tb_8 72 rfl rfl) (tb_1 12 rfl rfl) (tb_8 69 rfl rfl) (tb_8 71 rfl rfl) (tb_0 42 rfl rfl) (show yX12_set.cls ≠ "java/lang/invoke/MethodHandle" ∧ yX12_set.cls ≠ "java/lang/invoke/VarHandle" ∧ (parseMethodDescriptor yX12_set.desc).map (fun d => d.parameters.length) = some 2 by decide +kernel) zs_blind (zs_ob hh85 ha (show RTg[11]? = some (0, 11, 0, fsX12) from rfl) (zCX12 hKn.1)) (fun U hU hW => ⟨rfl, by rw [hU]; exact hh85.l0, zKb s U hW.alike hKn, by rw [hU]; exact jg85⟩) hh85.2.2.1 hl.1 (Nat.le_of_ble_eq_true rfl) (eX12_readPlain (220, .invokevirtual 357, 3) (List.mem_of_getElem? (i := 114) rfl)) (fun r88 s88 t88 lo88 g88 f88 l88 => ?_)
        obtain ⟨q88, z88, c88, jg88⟩ := f88
        cases q88
        rw [g88] at c88
        have hh88 : zh_ok D cA RTg ro sz H0 t88.heap lo88 := ⟨z88.1, z88.2.1, l88, z88.2.2.2⟩
        have kp88 := kp85.trans (c88.mono (ms' := gM) (by decide))
        have jg88 : jG D cA ro t88.heap a n (upF fj 17 (1)) h := by rw [← show v87.toInt = 1 by omega]; exact jg88
        have jv88 := jv85.kept ha c88 (by decide)
        refine W.eq (g2 := F0 m 223 ls []) rfl ?_
        refine lv_goto hx hb (eX12_readPlain (223, .goto 92, 3) (List.mem_of_getElem? (i := 115) rfl)) (tgt := 315) rfl ?_
        have hfin : rpG T sg = ((upF fj 17 (1)), (gj.1 + 1, gj.2)) := by rw [← htot]; first | (simp only [rp4G, tz1G, exS, if_pos d81, up_eq]; done) | (simp only [rp4G, tz1G, exS, if_pos d81, up_eq] <;> rfl) | rfl
        exact W.vret hx hb hr (fun t ht hW => ⟨rfl, by rw [ht]; exact hh88.l0, by rw [ht]; exact kp88, by rw [ht, hfin]; exact jv88, by rw [ht, hfin]; exact jg88⟩) hh88.2.2.1 (eX12_readPlain (315, .return_, 1) (List.mem_of_getElem? (i := 159) rfl))
      · skip
        refine lv_aload_n hx hb (eX12_readPlain (197, .aload_n 0, 1) (List.mem_of_getElem? (i := 101) rfl)) rfl (lv_at hl 0 rfl) ?_
        refine tz_rowV (As := []) (st := []) (b := a) (C := RX12) (Ts := gT) hx hb hml hown h2 (fun _ h => h) (hX12_sign l D cA ro sz H0 a T (gj) ha) ⟨rfl, rfl⟩ ⟨by decide, by decide⟩ ⟨by decide, by decide⟩ (tb_8 21 rfl rfl) (tb_1 12 rfl rfl) (tb_8 18 rfl rfl) (tb_8 20 rfl rfl) (tb_0 32 rfl rfl) (show yX12_sign.cls ≠ "java/lang/invoke/MethodHandle" ∧ yX12_sign.cls ≠ "java/lang/invoke/VarHandle" ∧ (parseMethodDescriptor yX12_sign.desc).map (fun d => d.parameters.length) = some 0 by decide +kernel) zs_blind (zs_ob hh78 ha (show RTg[11]? = some (0, 11, 0, fsX12) from rfl) (zCX12 hKn.1)) (fun U hU hW => ⟨rfl, by rw [hU]; exact hh78.l0, zKb s U hW.alike hKn, by rw [hU]; exact jl⟩) hh78.2.2.1 hl.1 (Nat.le_of_ble_eq_true rfl) (eX12_readPlain (198, .invokevirtual 309, 3) (List.mem_of_getElem? (i := 102) rfl)) (fun r89 s89 t89 lo89 g89 f89 l89 => ?_)
        obtain ⟨z89, v89, q89, e89⟩ := f89
        cases q89
        rw [z89, g89]
        have hh89 : zh_ok D cA RTg ro sz H0 H lo89 := ⟨hh78.1, hh78.2.1, l89, hh78.2.2.2⟩
        refine W.eq (g2 := F0 m 201 ls [.int v89]) rfl ?_
        refine ff_bipush hx hb (eX12_readPlain (201, .bipush 122, 2) (List.mem_of_getElem? (i := 103) rfl)) (by decide) (by decide) (fun v90 e90 => ?_)
        refine ff_icmp_ne hx hb (eX12_readPlain (203, .if_icmp .ne 23, 3) (List.mem_of_getElem? (i := 104) rfl)) (tgt := 226) rfl (fun c91 => ?_) (fun c91 => ?_)
        · skip
          have d92 : ¬ (gj.2.1 < 0 ∧ (byI T gj.1 = 90 ∨ byI T gj.1 = 122)) := by omega
          exact jn226 fj gj  ls _ _ hh89 kpl jl jgl (by rw [← htot]; first | (simp only [rp4G, if_neg d92, up_eq]; done) | (simp only [rp4G, if_neg d92, up_eq] <;> rfl) | rfl) (lv_sub hl [0] rfl)
        · skip
          have d93 : gj.2.1 < 0 ∧ (byI T gj.1 = 90 ∨ byI T gj.1 = 122) := by omega
          refine lv_aload_n hx hb (eX12_readPlain (206, .aload_n 0, 1) (List.mem_of_getElem? (i := 105) rfl)) rfl (lv_at hl 0 rfl) ?_
          refine lv_dup hx hb (eX12_readPlain (207, .dup, 1) (List.mem_of_getElem? (i := 106) rfl)) rfl ?_
          obtain ⟨jt94, ⟨av94, fv94, bv94, f2994, f3094, f3194, hav94, hfv94, hbv94⟩, hu94⟩ := id jl
          refine tz_get (r := 11) (k := 29) (t := (0, 0, 120)) hx hb hh89 ha rfl rfl (hcl11 293 29 (0, 0, 120) (by decide) rfl).1 f2994 (eX12_readPlain (208, .getfield 293, 3) (List.mem_of_getElem? (i := 107) rfl)) ?_
          refine ff_iconst hx hb (eX12_readPlain (211, .iconst 1, 1) (List.mem_of_getElem? (i := 108) rfl)) (by decide) (by decide) (fun v95 e95 => ?_)
          have ha996 : av94.toInt + v95.toInt ≤ 121 ∧ 0 ≤ av94.toInt := by omega
          refine ff_iadd hx hb (eX12_readPlain (212, .iadd, 1) (List.mem_of_getElem? (i := 109) rfl)) (by omega) (by omega) (fun v96 e96 => ?_)
          have hlt := byI_lt (T := T) (a := gj.1) (by omega) (by omega)
          refine tz_put (r := 11) (k := 29) (t := (0, 0, 120)) hx hb hD hh89 ha rfl rfl ((hcl11 293 29 (0, 0, 120) (by decide) rfl).2 (by decide)) (tz_i (by omega) (by omega)) (eX12_readPlain (213, .putfield 293, 3) (List.mem_of_getElem? (i := 110) rfl)) (fun H97 lo97 hh97 hf97 hk97 _ hq97 => ?_)
          have mf97_a_30 := (hk97.1 a 11 30 11 0 fsX12 ha rfl (by decide) (by decide)).trans f3094
          have mf97_a_31 := (hk97.1 a 11 31 11 0 fsX12 ha rfl (by decide) (by decide)).trans f3194
          have kp97 := kpl.trans (hk97.mono (ms' := gM) (fun x hx => by cases List.mem_singleton.mp hx; decide))
          have jv97 : jV D cA ro H97 a T (gj.1 + 1, gj.2) := ⟨jl.1.kept ha hk97 (by decide) (by decide) (by decide), ⟨_, _, _, hf97, mf97_a_30, mf97_a_31, by show _ = gj.1 + 1; omega, hfv94, hbv94⟩, adG_ok jl.2.2 (by omega)⟩
          have jg97 := jgl.kept ha hk97 (by decide)
          have uv97 := jv97.2.2
          unfold vOK at uv97
          have bb97 := byI_bd T (gj.1 + 1, gj.2).1
          refine lv_aload_n hx hb (eX12_readPlain (216, .aload_n 0, 1) (List.mem_of_getElem? (i := 111) rfl)) rfl (lv_at hl 0 rfl) ?_
          refine ff_bipush hx hb (eX12_readPlain (217, .bipush 17, 2) (List.mem_of_getElem? (i := 112) rfl)) (by decide) (by decide) (fun v98 e98 => ?_)
          refine ff_lconst hx hb (eX12_readPlain (219, .lconst 1, 1) (List.mem_of_getElem? (i := 113) rfl)) rfl (fun v99 e99 => ?_)
          refine tz_rowV (As := [.int v98, .long v99]) (st := []) (b := a) (C := RX12) (Ts := gT) hx hb hml hown h2 (fun _ h => h) (hX12_set l D cA ro sz H0 a v98 v99 17 n fj h ha hn1 (by omega) (by decide)) ⟨rfl, rfl⟩ ⟨by decide, by decide⟩ ⟨by decide, by decide⟩ (tb_8 72 rfl rfl) (tb_1 12 rfl rfl) (tb_8 69 rfl rfl) (tb_8 71 rfl rfl) (tb_0 42 rfl rfl) (show yX12_set.cls ≠ "java/lang/invoke/MethodHandle" ∧ yX12_set.cls ≠ "java/lang/invoke/VarHandle" ∧ (parseMethodDescriptor yX12_set.desc).map (fun d => d.parameters.length) = some 2 by decide +kernel) zs_blind (zs_ob hh97 ha (show RTg[11]? = some (0, 11, 0, fsX12) from rfl) (zCX12 hKn.1)) (fun U hU hW => ⟨rfl, by rw [hU]; exact hh97.l0, zKb s U hW.alike hKn, by rw [hU]; exact jg97⟩) hh97.2.2.1 hl.1 (Nat.le_of_ble_eq_true rfl) (eX12_readPlain (220, .invokevirtual 357, 3) (List.mem_of_getElem? (i := 114) rfl)) (fun r100 s100 t100 lo100 g100 f100 l100 => ?_)
          obtain ⟨q100, z100, c100, jg100⟩ := f100
          cases q100
          rw [g100] at c100
          have hh100 : zh_ok D cA RTg ro sz H0 t100.heap lo100 := ⟨z100.1, z100.2.1, l100, z100.2.2.2⟩
          have kp100 := kp97.trans (c100.mono (ms' := gM) (by decide))
          have jg100 : jG D cA ro t100.heap a n (upF fj 17 (1)) h := by rw [← show v99.toInt = 1 by omega]; exact jg100
          have jv100 := jv97.kept ha c100 (by decide)
          refine W.eq (g2 := F0 m 223 ls []) rfl ?_
          refine lv_goto hx hb (eX12_readPlain (223, .goto 92, 3) (List.mem_of_getElem? (i := 115) rfl)) (tgt := 315) rfl ?_
          have hfin : rpG T sg = ((upF fj 17 (1)), (gj.1 + 1, gj.2)) := by rw [← htot]; first | (simp only [rp4G, tz1G, exS, if_pos d93, up_eq]; done) | (simp only [rp4G, tz1G, exS, if_pos d93, up_eq] <;> rfl) | rfl
          exact W.vret hx hb hr (fun t ht hW => ⟨rfl, by rw [ht]; exact hh100.l0, by rw [ht]; exact kp100, by rw [ht, hfin]; exact jv100, by rw [ht, hfin]; exact jg100⟩) hh100.2.2.1 (eX12_readPlain (315, .return_, 1) (List.mem_of_getElem? (i := 159) rfl))
  have jn116 : ∀ (fj : fN) (gj : uS)  (ls : Array Slot) (H : Heap) (lo0 : List Loc), zh_ok D cA RTg ro sz H0 H lo0 → zc_kept D RTg ro gM s.heap H → jV D cA ro H a T gj → jG D cA ro H a n fj h → rp4G T (rp3G T (rp2G T (fj, gj))) = rpG T sg → lv_has ls 1 [(0, .ref a)] → W p l e (headSpec (gW yX12_readPlain cX12_readPlain 1 none) { frames := 3, cells := 0, slots := 0, locals := 65 }).room s m ([.ref a] : List Value).toArray below meth c H lo0 0 0 (MQ below (rg_V D cA ro sz H0 gM a n T h (rpG T sg)) ([.ref a] : List Value).toArray s 0 0 (zy_fr sz)) (F0 m 116 ls []) := by
    intro fj gj  ls H lo0 hh0 kpl jl jgl  htot hl
    have hul := jl.2.2
    unfold vOK at hul
    have hbj := byI_bd T gj.1
    refine lv_aload_n hx hb (eX12_readPlain (116, .aload_n 0, 1) (List.mem_of_getElem? (i := 62) rfl)) rfl (lv_at hl 0 rfl) ?_
    refine ff_bipush hx hb (eX12_readPlain (117, .bipush 8, 2) (List.mem_of_getElem? (i := 63) rfl)) (by decide) (by decide) (fun v101 e101 => ?_)
    refine ff_lconst hx hb (eX12_readPlain (119, .lconst 1, 1) (List.mem_of_getElem? (i := 64) rfl)) rfl (fun v102 e102 => ?_)
    refine tz_rowV (As := [.int v101, .long v102]) (st := []) (b := a) (C := RX12) (Ts := gT) hx hb hml hown h2 (fun _ h => h) (hX12_set l D cA ro sz H0 a v101 v102 8 n fj h ha hn1 (by omega) (by decide)) ⟨rfl, rfl⟩ ⟨by decide, by decide⟩ ⟨by decide, by decide⟩ (tb_8 72 rfl rfl) (tb_1 12 rfl rfl) (tb_8 69 rfl rfl) (tb_8 71 rfl rfl) (tb_0 42 rfl rfl) (show yX12_set.cls ≠ "java/lang/invoke/MethodHandle" ∧ yX12_set.cls ≠ "java/lang/invoke/VarHandle" ∧ (parseMethodDescriptor yX12_set.desc).map (fun d => d.parameters.length) = some 2 by decide +kernel) zs_blind (zs_ob hh0 ha (show RTg[11]? = some (0, 11, 0, fsX12) from rfl) (zCX12 hKn.1)) (fun U hU hW => ⟨rfl, by rw [hU]; exact hh0.l0, zKb s U hW.alike hKn, by rw [hU]; exact jgl⟩) hh0.2.2.1 hl.1 (Nat.le_of_ble_eq_true rfl) (eX12_readPlain (120, .invokevirtual 357, 3) (List.mem_of_getElem? (i := 65) rfl)) (fun r103 s103 t103 lo103 g103 f103 l103 => ?_)
    obtain ⟨q103, z103, c103, jg103⟩ := f103
    cases q103
    rw [g103] at c103
    have hh103 : zh_ok D cA RTg ro sz H0 t103.heap lo103 := ⟨z103.1, z103.2.1, l103, z103.2.2.2⟩
    have kp103 := kpl.trans (c103.mono (ms' := gM) (by decide))
    have jg103 : jG D cA ro t103.heap a n (upF fj 8 (1)) h := by rw [← show v102.toInt = 1 by omega]; exact jg103
    have jv103 := jl.kept ha c103 (by decide)
    refine W.eq (g2 := F0 m 123 ls []) rfl ?_
    refine lv_aload_n hx hb (eX12_readPlain (123, .aload_n 0, 1) (List.mem_of_getElem? (i := 66) rfl)) rfl (lv_at hl 0 rfl) ?_
    refine ff_bipush hx hb (eX12_readPlain (124, .bipush 15, 2) (List.mem_of_getElem? (i := 67) rfl)) (by decide) (by decide) (fun v104 e104 => ?_)
    refine ff_ldc2 (n := 2) hx hb hown h2 (clX12_ok 105 2 (List.mem_of_getElem? (i := 7) rfl)) (eX12_readPlain (126, .ldc2_w 105, 3) (List.mem_of_getElem? (i := 68) rfl)) (fun v105 e105 => ?_)
    refine tz_rowV (As := [.int v104, .long v105]) (st := []) (b := a) (C := RX12) (Ts := gT) hx hb hml hown h2 (fun _ h => h) (hX12_set l D cA ro sz H0 a v104 v105 15 n (upF fj 8 (1)) h ha hn1 (by omega) (by decide)) ⟨rfl, rfl⟩ ⟨by decide, by decide⟩ ⟨by decide, by decide⟩ (tb_8 72 rfl rfl) (tb_1 12 rfl rfl) (tb_8 69 rfl rfl) (tb_8 71 rfl rfl) (tb_0 42 rfl rfl) (show yX12_set.cls ≠ "java/lang/invoke/MethodHandle" ∧ yX12_set.cls ≠ "java/lang/invoke/VarHandle" ∧ (parseMethodDescriptor yX12_set.desc).map (fun d => d.parameters.length) = some 2 by decide +kernel) zs_blind (zs_ob hh103 ha (show RTg[11]? = some (0, 11, 0, fsX12) from rfl) (zCX12 hKn.1)) (fun U hU hW => ⟨rfl, by rw [hU]; exact hh103.l0, zKb s U hW.alike hKn, by rw [hU]; exact jg103⟩) hh103.2.2.1 hl.1 (Nat.le_of_ble_eq_true rfl) (eX12_readPlain (129, .invokevirtual 357, 3) (List.mem_of_getElem? (i := 69) rfl)) (fun r106 s106 t106 lo106 g106 f106 l106 => ?_)
    obtain ⟨q106, z106, c106, jg106⟩ := f106
    cases q106
    rw [g106] at c106
    have hh106 : zh_ok D cA RTg ro sz H0 t106.heap lo106 := ⟨z106.1, z106.2.1, l106, z106.2.2.2⟩
    have kp106 := kp103.trans (c106.mono (ms' := gM) (by decide))
    have jg106 : jG D cA ro t106.heap a n (upF (upF fj 8 (1)) 15 (2)) h := by rw [← show v105.toInt = 2 by omega]; exact jg106
    have jv106 := jv103.kept ha c106 (by decide)
    refine W.eq (g2 := F0 m 132 ls []) rfl ?_
    refine lv_aload_n hx hb (eX12_readPlain (132, .aload_n 0, 1) (List.mem_of_getElem? (i := 70) rfl)) rfl (lv_at hl 0 rfl) ?_
    refine ff_bipush hx hb (eX12_readPlain (133, .bipush 9, 2) (List.mem_of_getElem? (i := 71) rfl)) (by decide) (by decide) (fun v107 e107 => ?_)
    refine tz_rowV (As := [.int v107]) (st := []) (b := a) (C := RX12) (Ts := gT) hx hb hml hown h2 (fun _ h => h) (hX12_timeNumber l D cA ro sz H0 a v107 9 T (gj) n (upF (upF fj 8 (1)) 15 (2)) h ha hn1 hT (by omega) (by decide)) ⟨rfl, rfl⟩ ⟨by decide, by decide⟩ ⟨by decide, by decide⟩ (tb_8 80 rfl rfl) (tb_1 12 rfl rfl) (tb_8 77 rfl rfl) (tb_8 79 rfl rfl) (tb_0 44 rfl rfl) (show yX12_timeNumber.cls ≠ "java/lang/invoke/MethodHandle" ∧ yX12_timeNumber.cls ≠ "java/lang/invoke/VarHandle" ∧ (parseMethodDescriptor yX12_timeNumber.desc).map (fun d => d.parameters.length) = some 1 by decide +kernel) zs_blind (zs_ob hh106 ha (show RTg[11]? = some (0, 11, 0, fsX12) from rfl) (zCX12 hKn.1)) (fun U hU hW => ⟨rfl, by rw [hU]; exact hh106.l0, zKb s U hW.alike hKn, by rw [hU]; exact ⟨jv106, jg106⟩⟩) hh106.2.2.1 hl.1 (Nat.le_of_ble_eq_true rfl) (eX12_readPlain (135, .invokevirtual 377, 3) (List.mem_of_getElem? (i := 72) rfl)) (fun r108 s108 t108 lo108 g108 f108 l108 => ?_)
    obtain ⟨q108, z108, c108, jv108, jg108⟩ := f108
    cases q108
    rw [g108] at c108
    have hh108 : zh_ok D cA RTg ro sz H0 t108.heap lo108 := ⟨z108.1, z108.2.1, l108, z108.2.2.2⟩
    have kp108 := kp106.trans (c108.mono (ms' := gM) (by decide))
    generalize hx108 : nuG T 9 2 ((upF (upF fj 8 (1)) 15 (2)), gj) = x108 at jv108 jg108
    have uu108 := jv108.2.2
    unfold vOK at uu108
    have bb108 := byI_bd T x108.2.1
    refine W.eq (g2 := F0 m 138 ls []) rfl ?_
    refine lv_aload_n hx hb (eX12_readPlain (138, .aload_n 0, 1) (List.mem_of_getElem? (i := 73) rfl)) rfl (lv_at hl 0 rfl) ?_
    refine ff_bipush hx hb (eX12_readPlain (139, .bipush 58, 2) (List.mem_of_getElem? (i := 74) rfl)) (by decide) (by decide) (fun v109 e109 => ?_)
    refine tz_rowV (As := [.int v109]) (st := []) (b := a) (C := RX12) (Ts := gT) hx hb hml hown h2 (fun _ h => h) (hX12_expect l D cA ro sz H0 a v109 58 T (x108.2) ha (by omega) (by decide)) ⟨rfl, rfl⟩ ⟨by decide, by decide⟩ ⟨by decide, by decide⟩ (tb_8 35 rfl rfl) (tb_1 12 rfl rfl) (tb_8 32 rfl rfl) (tb_8 34 rfl rfl) (tb_0 34 rfl rfl) (show yX12_expect.cls ≠ "java/lang/invoke/MethodHandle" ∧ yX12_expect.cls ≠ "java/lang/invoke/VarHandle" ∧ (parseMethodDescriptor yX12_expect.desc).map (fun d => d.parameters.length) = some 1 by decide +kernel) zs_blind (zs_ob hh108 ha (show RTg[11]? = some (0, 11, 0, fsX12) from rfl) (zCX12 hKn.1)) (fun U hU hW => ⟨rfl, by rw [hU]; exact hh108.l0, zKb s U hW.alike hKn, by rw [hU]; exact jv108⟩) hh108.2.2.1 hl.1 (Nat.le_of_ble_eq_true rfl) (eX12_readPlain (141, .invokevirtual 325, 3) (List.mem_of_getElem? (i := 75) rfl)) (fun r110 s110 t110 lo110 g110 f110 l110 => ?_)
    obtain ⟨q110, z110, c110, jv110⟩ := f110
    cases q110
    rw [g110] at c110
    have hh110 : zh_ok D cA RTg ro sz H0 t110.heap lo110 := ⟨z110.1, z110.2.1, l110, z110.2.2.2⟩
    have kp110 := kp108.trans (c110.mono (ms' := gM) (by decide))
    generalize hx110 : exG T 58 x108.2 = x110 at jv110
    have uu110 := jv110.2.2
    unfold vOK at uu110
    have bb110 := byI_bd T x110.1
    have jg110 := jg108.kept ha c110 (by decide)
    refine W.eq (g2 := F0 m 144 ls []) rfl ?_
    refine lv_aload_n hx hb (eX12_readPlain (144, .aload_n 0, 1) (List.mem_of_getElem? (i := 76) rfl)) rfl (lv_at hl 0 rfl) ?_
    refine ff_bipush hx hb (eX12_readPlain (145, .bipush 11, 2) (List.mem_of_getElem? (i := 77) rfl)) (by decide) (by decide) (fun v111 e111 => ?_)
    refine tz_rowV (As := [.int v111]) (st := []) (b := a) (C := RX12) (Ts := gT) hx hb hml hown h2 (fun _ h => h) (hX12_timeNumber l D cA ro sz H0 a v111 11 T (x110) n x108.1 h ha hn1 hT (by omega) (by decide)) ⟨rfl, rfl⟩ ⟨by decide, by decide⟩ ⟨by decide, by decide⟩ (tb_8 80 rfl rfl) (tb_1 12 rfl rfl) (tb_8 77 rfl rfl) (tb_8 79 rfl rfl) (tb_0 44 rfl rfl) (show yX12_timeNumber.cls ≠ "java/lang/invoke/MethodHandle" ∧ yX12_timeNumber.cls ≠ "java/lang/invoke/VarHandle" ∧ (parseMethodDescriptor yX12_timeNumber.desc).map (fun d => d.parameters.length) = some 1 by decide +kernel) zs_blind (zs_ob hh110 ha (show RTg[11]? = some (0, 11, 0, fsX12) from rfl) (zCX12 hKn.1)) (fun U hU hW => ⟨rfl, by rw [hU]; exact hh110.l0, zKb s U hW.alike hKn, by rw [hU]; exact ⟨jv110, jg110⟩⟩) hh110.2.2.1 hl.1 (Nat.le_of_ble_eq_true rfl) (eX12_readPlain (147, .invokevirtual 377, 3) (List.mem_of_getElem? (i := 78) rfl)) (fun r112 s112 t112 lo112 g112 f112 l112 => ?_)
    obtain ⟨q112, z112, c112, jv112, jg112⟩ := f112
    cases q112
    rw [g112] at c112
    have hh112 : zh_ok D cA RTg ro sz H0 t112.heap lo112 := ⟨z112.1, z112.2.1, l112, z112.2.2.2⟩
    have kp112 := kp110.trans (c112.mono (ms' := gM) (by decide))
    generalize hx112 : nuG T 11 2 (x108.1, x110) = x112 at jv112 jg112
    have uu112 := jv112.2.2
    unfold vOK at uu112
    have bb112 := byI_bd T x112.2.1
    refine W.eq (g2 := F0 m 150 ls []) rfl ?_
    refine lv_aload_n hx hb (eX12_readPlain (150, .aload_n 0, 1) (List.mem_of_getElem? (i := 79) rfl)) rfl (lv_at hl 0 rfl) ?_
    refine ff_bipush hx hb (eX12_readPlain (151, .bipush 58, 2) (List.mem_of_getElem? (i := 80) rfl)) (by decide) (by decide) (fun v113 e113 => ?_)
    refine tz_rowV (As := [.int v113]) (st := []) (b := a) (C := RX12) (Ts := gT) hx hb hml hown h2 (fun _ h => h) (hX12_expect l D cA ro sz H0 a v113 58 T (x112.2) ha (by omega) (by decide)) ⟨rfl, rfl⟩ ⟨by decide, by decide⟩ ⟨by decide, by decide⟩ (tb_8 35 rfl rfl) (tb_1 12 rfl rfl) (tb_8 32 rfl rfl) (tb_8 34 rfl rfl) (tb_0 34 rfl rfl) (show yX12_expect.cls ≠ "java/lang/invoke/MethodHandle" ∧ yX12_expect.cls ≠ "java/lang/invoke/VarHandle" ∧ (parseMethodDescriptor yX12_expect.desc).map (fun d => d.parameters.length) = some 1 by decide +kernel) zs_blind (zs_ob hh112 ha (show RTg[11]? = some (0, 11, 0, fsX12) from rfl) (zCX12 hKn.1)) (fun U hU hW => ⟨rfl, by rw [hU]; exact hh112.l0, zKb s U hW.alike hKn, by rw [hU]; exact jv112⟩) hh112.2.2.1 hl.1 (Nat.le_of_ble_eq_true rfl) (eX12_readPlain (153, .invokevirtual 325, 3) (List.mem_of_getElem? (i := 81) rfl)) (fun r114 s114 t114 lo114 g114 f114 l114 => ?_)
    obtain ⟨q114, z114, c114, jv114⟩ := f114
    cases q114
    rw [g114] at c114
    have hh114 : zh_ok D cA RTg ro sz H0 t114.heap lo114 := ⟨z114.1, z114.2.1, l114, z114.2.2.2⟩
    have kp114 := kp112.trans (c114.mono (ms' := gM) (by decide))
    generalize hx114 : exG T 58 x112.2 = x114 at jv114
    have uu114 := jv114.2.2
    unfold vOK at uu114
    have bb114 := byI_bd T x114.1
    have jg114 := jg112.kept ha c114 (by decide)
    refine W.eq (g2 := F0 m 156 ls []) rfl ?_
    refine lv_aload_n hx hb (eX12_readPlain (156, .aload_n 0, 1) (List.mem_of_getElem? (i := 82) rfl)) rfl (lv_at hl 0 rfl) ?_
    refine ff_bipush hx hb (eX12_readPlain (157, .bipush 13, 2) (List.mem_of_getElem? (i := 83) rfl)) (by decide) (by decide) (fun v115 e115 => ?_)
    refine tz_rowV (As := [.int v115]) (st := []) (b := a) (C := RX12) (Ts := gT) hx hb hml hown h2 (fun _ h => h) (hX12_timeNumber l D cA ro sz H0 a v115 13 T (x114) n x112.1 h ha hn1 hT (by omega) (by decide)) ⟨rfl, rfl⟩ ⟨by decide, by decide⟩ ⟨by decide, by decide⟩ (tb_8 80 rfl rfl) (tb_1 12 rfl rfl) (tb_8 77 rfl rfl) (tb_8 79 rfl rfl) (tb_0 44 rfl rfl) (show yX12_timeNumber.cls ≠ "java/lang/invoke/MethodHandle" ∧ yX12_timeNumber.cls ≠ "java/lang/invoke/VarHandle" ∧ (parseMethodDescriptor yX12_timeNumber.desc).map (fun d => d.parameters.length) = some 1 by decide +kernel) zs_blind (zs_ob hh114 ha (show RTg[11]? = some (0, 11, 0, fsX12) from rfl) (zCX12 hKn.1)) (fun U hU hW => ⟨rfl, by rw [hU]; exact hh114.l0, zKb s U hW.alike hKn, by rw [hU]; exact ⟨jv114, jg114⟩⟩) hh114.2.2.1 hl.1 (Nat.le_of_ble_eq_true rfl) (eX12_readPlain (159, .invokevirtual 377, 3) (List.mem_of_getElem? (i := 84) rfl)) (fun r116 s116 t116 lo116 g116 f116 l116 => ?_)
    obtain ⟨q116, z116, c116, jv116, jg116⟩ := f116
    cases q116
    rw [g116] at c116
    have hh116 : zh_ok D cA RTg ro sz H0 t116.heap lo116 := ⟨z116.1, z116.2.1, l116, z116.2.2.2⟩
    have kp116 := kp114.trans (c116.mono (ms' := gM) (by decide))
    generalize hx116 : nuG T 13 2 (x112.1, x114) = x116 at jv116 jg116
    have uu116 := jv116.2.2
    unfold vOK at uu116
    have bb116 := byI_bd T x116.2.1
    refine W.eq (g2 := F0 m 162 ls []) rfl ?_
    refine lv_aload_n hx hb (eX12_readPlain (162, .aload_n 0, 1) (List.mem_of_getElem? (i := 85) rfl)) rfl (lv_at hl 0 rfl) ?_
    refine ff_bipush hx hb (eX12_readPlain (163, .bipush 46, 2) (List.mem_of_getElem? (i := 86) rfl)) (by decide) (by decide) (fun v117 e117 => ?_)
    refine tz_rowV (As := [.int v117]) (st := []) (b := a) (C := RX12) (Ts := gT) hx hb hml hown h2 (fun _ h => h) (hX12_takes l D cA ro sz H0 a v117 46 T (x116.2) ha (by omega) (by decide)) ⟨rfl, rfl⟩ ⟨by decide, by decide⟩ ⟨by decide, by decide⟩ (tb_8 13 rfl rfl) (tb_1 12 rfl rfl) (tb_8 10 rfl rfl) (tb_8 12 rfl rfl) (tb_0 30 rfl rfl) (show yX12_takes.cls ≠ "java/lang/invoke/MethodHandle" ∧ yX12_takes.cls ≠ "java/lang/invoke/VarHandle" ∧ (parseMethodDescriptor yX12_takes.desc).map (fun d => d.parameters.length) = some 1 by decide +kernel) zs_blind (zs_ob hh116 ha (show RTg[11]? = some (0, 11, 0, fsX12) from rfl) (zCX12 hKn.1)) (fun U hU hW => ⟨rfl, by rw [hU]; exact hh116.l0, zKb s U hW.alike hKn, by rw [hU]; exact jv116⟩) hh116.2.2.1 hl.1 (Nat.le_of_ble_eq_true rfl) (eX12_readPlain (165, .invokevirtual 313, 3) (List.mem_of_getElem? (i := 87) rfl)) (fun r118 s118 t118 lo118 g118 f118 l118 => ?_)
    obtain ⟨v118, q118, e118, z118, c118, jv118⟩ := f118
    cases q118
    rw [g118] at c118
    have hh118 : zh_ok D cA RTg ro sz H0 t118.heap lo118 := ⟨z118.1, z118.2.1, l118, z118.2.2.2⟩
    have kp118 := kp116.trans (c118.mono (ms' := gM) (by decide))
    have kf118 := tkG_01 T 46 x116.2
    generalize hx118 : tkG T 46 x116.2 = x118 at jv118 e118 kf118
    have uu118 := jv118.2.2
    unfold vOK at uu118
    have bb118 := byI_bd T x118.2.1
    have jg118 := jg116.kept ha c118 (by decide)
    refine W.eq (g2 := F0 m 168 ls [.int v118]) rfl ?_
    refine ff_if_eq hx hb (eX12_readPlain (168, .ifCond .eq 13, 3) (List.mem_of_getElem? (i := 88) rfl)) (tgt := 181) rfl (fun c119 => ?_) (fun c119 => ?_)
    · skip
      have d118 : ¬ x118.1 = 1 := by omega
      exact jn181 x116.1 x118.2  ls _ _ hh118 kp118 jv118 jg118 (by rw [← htot]; first | (simp only [rp2G, rp3G, exS, tp1G, hx108, hx110, hx112, hx114, hx116, hx118, if_neg d118, up_eq]; done) | (simp only [rp2G, rp3G, exS, tp1G, hx108, hx110, hx112, hx114, hx116, hx118, if_neg d118, up_eq] <;> rfl) | rfl) (lv_sub hl [0] rfl)
    · skip
      have d118 : x118.1 = 1 := by omega
      refine lv_aload_n hx hb (eX12_readPlain (171, .aload_n 0, 1) (List.mem_of_getElem? (i := 89) rfl)) rfl (lv_at hl 0 rfl) ?_
      refine ff_bipush hx hb (eX12_readPlain (172, .bipush 16, 2) (List.mem_of_getElem? (i := 90) rfl)) (by decide) (by decide) (fun v120 e120 => ?_)
      refine lv_aload_n hx hb (eX12_readPlain (174, .aload_n 0, 1) (List.mem_of_getElem? (i := 91) rfl)) rfl (lv_at hl 0 rfl) ?_
      refine tz_rowV (As := []) (st := [.int v120, .ref a]) (b := a) (C := RX12) (Ts := gT) hx hb hml hown h2 (fun _ h => h) (hX12_part l D cA ro sz H0 a T (x118.2) ha hT) ⟨rfl, rfl⟩ ⟨by decide, by decide⟩ ⟨by decide, by decide⟩ (tb_8 84 rfl rfl) (tb_1 12 rfl rfl) (tb_8 81 rfl rfl) (tb_8 83 rfl rfl) (tb_0 45 rfl rfl) (show yX12_part.cls ≠ "java/lang/invoke/MethodHandle" ∧ yX12_part.cls ≠ "java/lang/invoke/VarHandle" ∧ (parseMethodDescriptor yX12_part.desc).map (fun d => d.parameters.length) = some 0 by decide +kernel) zs_blind (zs_ob hh118 ha (show RTg[11]? = some (0, 11, 0, fsX12) from rfl) (zCX12 hKn.1)) (fun U hU hW => ⟨rfl, by rw [hU]; exact hh118.l0, zKb s U hW.alike hKn, by rw [hU]; exact jv118⟩) hh118.2.2.1 hl.1 (Nat.le_of_ble_eq_true rfl) (eX12_readPlain (175, .invokevirtual 380, 3) (List.mem_of_getElem? (i := 92) rfl)) (fun r121 s121 t121 lo121 g121 f121 l121 => ?_)
      obtain ⟨v121, q121, e121, z121, c121, jv121⟩ := f121
      cases q121
      rw [g121] at c121
      have hh121 : zh_ok D cA RTg ro sz H0 t121.heap lo121 := ⟨z121.1, z121.2.1, l121, z121.2.2.2⟩
      have kp121 := kp118.trans (c121.mono (ms' := gM) (by decide))
      generalize hx121 : paG T x118.2 = x121 at jv121 e121
      have uu121 := jv121.2.2
      unfold vOK at uu121
      have bb121 := byI_bd T x121.2.1
      have jg121 := jg118.kept ha c121 (by decide)
      refine W.eq (g2 := F0 m 178 ls [.long v121, .int v120, .ref a]) rfl ?_
      refine tz_rowV (As := [.int v120, .long v121]) (st := []) (b := a) (C := RX12) (Ts := gT) hx hb hml hown h2 (fun _ h => h) (hX12_set l D cA ro sz H0 a v120 v121 16 n x116.1 h ha hn1 (by omega) (by decide)) ⟨rfl, rfl⟩ ⟨by decide, by decide⟩ ⟨by decide, by decide⟩ (tb_8 72 rfl rfl) (tb_1 12 rfl rfl) (tb_8 69 rfl rfl) (tb_8 71 rfl rfl) (tb_0 42 rfl rfl) (show yX12_set.cls ≠ "java/lang/invoke/MethodHandle" ∧ yX12_set.cls ≠ "java/lang/invoke/VarHandle" ∧ (parseMethodDescriptor yX12_set.desc).map (fun d => d.parameters.length) = some 2 by decide +kernel) zs_blind (zs_ob hh121 ha (show RTg[11]? = some (0, 11, 0, fsX12) from rfl) (zCX12 hKn.1)) (fun U hU hW => ⟨rfl, by rw [hU]; exact hh121.l0, zKb s U hW.alike hKn, by rw [hU]; exact jg121⟩) hh121.2.2.1 hl.1 (Nat.le_of_ble_eq_true rfl) (eX12_readPlain (178, .invokevirtual 357, 3) (List.mem_of_getElem? (i := 93) rfl)) (fun r122 s122 t122 lo122 g122 f122 l122 => ?_)
      obtain ⟨q122, z122, c122, jg122⟩ := f122
      cases q122
      rw [g122] at c122
      have hh122 : zh_ok D cA RTg ro sz H0 t122.heap lo122 := ⟨z122.1, z122.2.1, l122, z122.2.2.2⟩
      have kp122 := kp121.trans (c122.mono (ms' := gM) (by decide))
      have jg122 : jG D cA ro t122.heap a n (upF x116.1 16 (x121.1)) h := by rw [← show v121.toInt = x121.1 by omega]; exact jg122
      have jv122 := jv121.kept ha c122 (by decide)
      refine W.eq (g2 := F0 m 181 ls []) rfl ?_
      exact jn181 (upF x116.1 16 (x121.1)) x121.2  ls _ _ hh122 kp122 jv122 jg122 (by rw [← htot]; first | (simp only [rp2G, rp3G, exS, tp1G, hx108, hx110, hx112, hx114, hx116, hx118, hx121, if_pos d118, up_eq]; done) | (simp only [rp2G, rp3G, exS, tp1G, hx108, hx110, hx112, hx114, hx116, hx118, hx121, if_pos d118, up_eq] <;> rfl) | rfl) (lv_sub hl [0] rfl)
  have jn95 : ∀ (fj : fN) (gj : uS)  (ls : Array Slot) (H : Heap) (lo0 : List Loc), zh_ok D cA RTg ro sz H0 H lo0 → zc_kept D RTg ro gM s.heap H → jV D cA ro H a T gj → jG D cA ro H a n fj h → rp4G T (rp3G T (rp2G T (fj, if gj.2.1 < 0 then (gj.1 + 1, gj.2) else gj))) = rpG T sg → (gj.2.1 < 0 → 0 ≤ byI T gj.1) → lv_has ls 1 [(0, .ref a)] → W p l e (headSpec (gW yX12_readPlain cX12_readPlain 1 none) { frames := 3, cells := 0, slots := 0, locals := 65 }).room s m ([.ref a] : List Value).toArray below meth c H lo0 0 0 (MQ below (rg_V D cA ro sz H0 gM a n T h (rpG T sg)) ([.ref a] : List Value).toArray s 0 0 (zy_fr sz)) (F0 m 95 ls []) := by
    intro fj gj  ls H lo0 hh0 kpl jl jgl  htot hgb hl
    have hul := jl.2.2
    unfold vOK at hul
    have hbj := byI_bd T gj.1
    refine lv_aload_n hx hb (eX12_readPlain (95, .aload_n 0, 1) (List.mem_of_getElem? (i := 51) rfl)) rfl (lv_at hl 0 rfl) ?_
    refine lv_dup hx hb (eX12_readPlain (96, .dup, 1) (List.mem_of_getElem? (i := 52) rfl)) rfl ?_
    obtain ⟨jt123, ⟨av123, fv123, bv123, f29123, f30123, f31123, hav123, hfv123, hbv123⟩, hu123⟩ := id jl
    refine tz_get (r := 11) (k := 29) (t := (0, 0, 120)) hx hb hh0 ha rfl rfl (hcl11 293 29 (0, 0, 120) (by decide) rfl).1 f29123 (eX12_readPlain (97, .getfield 293, 3) (List.mem_of_getElem? (i := 53) rfl)) ?_
    refine lv_aload_n hx hb (eX12_readPlain (100, .aload_n 0, 1) (List.mem_of_getElem? (i := 54) rfl)) rfl (lv_at hl 0 rfl) ?_
    refine tz_rowV (As := []) (st := [.int av123, .ref a]) (b := a) (C := RX12) (Ts := gT) hx hb hml hown h2 (fun _ h => h) (hX12_isGood l D cA ro sz H0 a T (gj) ha) ⟨rfl, rfl⟩ ⟨by decide, by decide⟩ ⟨by decide, by decide⟩ (tb_8 17 rfl rfl) (tb_1 12 rfl rfl) (tb_8 14 rfl rfl) (tb_8 16 rfl rfl) (tb_0 31 rfl rfl) (show yX12_isGood.cls ≠ "java/lang/invoke/MethodHandle" ∧ yX12_isGood.cls ≠ "java/lang/invoke/VarHandle" ∧ (parseMethodDescriptor yX12_isGood.desc).map (fun d => d.parameters.length) = some 0 by decide +kernel) zs_blind (zs_ob hh0 ha (show RTg[11]? = some (0, 11, 0, fsX12) from rfl) (zCX12 hKn.1)) (fun U hU hW => ⟨rfl, by rw [hU]; exact hh0.l0, zKb s U hW.alike hKn, by rw [hU]; exact jl⟩) hh0.2.2.1 hl.1 (Nat.le_of_ble_eq_true rfl) (eX12_readPlain (101, .invokevirtual 305, 3) (List.mem_of_getElem? (i := 55) rfl)) (fun r124 s124 t124 lo124 g124 f124 l124 => ?_)
    obtain ⟨z124, v124, q124, e124⟩ := f124
    cases q124
    rw [z124, g124]
    have hh124 : zh_ok D cA RTg ro sz H0 H lo124 := ⟨hh0.1, hh0.2.1, l124, hh0.2.2.2⟩
    refine W.eq (g2 := F0 m 104 ls [.int v124, .int av123, .ref a]) rfl ?_
    refine ff_if_eq hx hb (eX12_readPlain (104, .ifCond .eq 7, 3) (List.mem_of_getElem? (i := 56) rfl)) (tgt := 111) rfl (fun c125 => ?_) (fun c125 => ?_)
    · skip
      have d126 : ¬ gj.2.1 < 0 := by omega
      refine ff_iconst hx hb (eX12_readPlain (111, .iconst 0, 1) (List.mem_of_getElem? (i := 59) rfl)) (by decide) (by decide) (fun v127 e127 => ?_)
      have ha9128 : av123.toInt + v127.toInt ≤ 121 ∧ 0 ≤ av123.toInt := by omega
      refine ff_iadd hx hb (eX12_readPlain (112, .iadd, 1) (List.mem_of_getElem? (i := 60) rfl)) (by omega) (by omega) (fun v128 e128 => ?_)
      refine tz_put (r := 11) (k := 29) (t := (0, 0, 120)) hx hb hD hh124 ha rfl rfl ((hcl11 293 29 (0, 0, 120) (by decide) rfl).2 (by decide)) (tz_i (by omega) (by omega)) (eX12_readPlain (113, .putfield 293, 3) (List.mem_of_getElem? (i := 61) rfl)) (fun H129 lo129 hh129 hf129 hk129 _ hq129 => ?_)
      have mf129_a_30 := (hk129.1 a 11 30 11 0 fsX12 ha rfl (by decide) (by decide)).trans f30123
      have mf129_a_31 := (hk129.1 a 11 31 11 0 fsX12 ha rfl (by decide) (by decide)).trans f31123
      have kp129 := kpl.trans (hk129.mono (ms' := gM) (fun x hx => by cases List.mem_singleton.mp hx; decide))
      have jv129 : jV D cA ro H129 a T gj := ⟨jl.1.kept ha hk129 (by decide) (by decide) (by decide), ⟨_, _, _, hf129, mf129_a_30, mf129_a_31, by show _ = gj.1; omega, hfv123, hbv123⟩, jl.2.2⟩
      have jg129 := jgl.kept ha hk129 (by decide)
      have uv129 := jv129.2.2
      unfold vOK at uv129
      have bb129 := byI_bd T gj.1
      exact jn116 fj gj  ls _ _ hh129 kp129 jv129 jg129 (by rw [← htot]; first | (simp only [rpG, rpS, rp1G, spG, sp1G, exS, if_neg d126, up_eq]; done) | (simp only [rpG, rpS, rp1G, spG, sp1G, exS, if_neg d126, up_eq] <;> rfl) | rfl) (lv_sub hl [0] rfl)
    · skip
      have d130 : gj.2.1 < 0 := by omega
      refine ff_iconst hx hb (eX12_readPlain (107, .iconst 1, 1) (List.mem_of_getElem? (i := 57) rfl)) (by decide) (by decide) (fun v131 e131 => ?_)
      refine lv_goto hx hb (eX12_readPlain (108, .goto 4, 3) (List.mem_of_getElem? (i := 58) rfl)) (tgt := 112) rfl ?_
      have ha9132 : av123.toInt + v131.toInt ≤ 121 ∧ 0 ≤ av123.toInt := by omega
      refine ff_iadd hx hb (eX12_readPlain (112, .iadd, 1) (List.mem_of_getElem? (i := 60) rfl)) (by omega) (by omega) (fun v132 e132 => ?_)
      have hlt := byI_lt (T := T) (a := gj.1) (by omega) (by omega)
      refine tz_put (r := 11) (k := 29) (t := (0, 0, 120)) hx hb hD hh124 ha rfl rfl ((hcl11 293 29 (0, 0, 120) (by decide) rfl).2 (by decide)) (tz_i (by omega) (by omega)) (eX12_readPlain (113, .putfield 293, 3) (List.mem_of_getElem? (i := 61) rfl)) (fun H133 lo133 hh133 hf133 hk133 _ hq133 => ?_)
      have mf133_a_30 := (hk133.1 a 11 30 11 0 fsX12 ha rfl (by decide) (by decide)).trans f30123
      have mf133_a_31 := (hk133.1 a 11 31 11 0 fsX12 ha rfl (by decide) (by decide)).trans f31123
      have kp133 := kpl.trans (hk133.mono (ms' := gM) (fun x hx => by cases List.mem_singleton.mp hx; decide))
      have jv133 : jV D cA ro H133 a T (gj.1 + 1, gj.2) := ⟨jl.1.kept ha hk133 (by decide) (by decide) (by decide), ⟨_, _, _, hf133, mf133_a_30, mf133_a_31, by show _ = gj.1 + 1; omega, hfv123, hbv123⟩, adG_ok jl.2.2 (by omega)⟩
      have jg133 := jgl.kept ha hk133 (by decide)
      have uv133 := jv133.2.2
      unfold vOK at uv133
      have bb133 := byI_bd T (gj.1 + 1, gj.2).1
      exact jn116 fj (gj.1 + 1, gj.2)  ls _ _ hh133 kp133 jv133 jg133 (by rw [← htot]; first | (simp only [rpG, rpS, rp1G, spG, sp1G, exS, if_pos d130, up_eq]; done) | (simp only [rpG, rpS, rp1G, spG, sp1G, exS, if_pos d130, up_eq] <;> rfl) | rfl) (lv_sub hl [0] rfl)
  refine lv_aload_n hx hb (eX12_readPlain (0, .aload_n 0, 1) (List.mem_of_getElem? (i := 0) rfl)) rfl (lv_at hl 0 rfl) ?_
  refine ff_iconst hx hb (eX12_readPlain (1, .iconst 0, 1) (List.mem_of_getElem? (i := 1) rfl)) (by decide) (by decide) (fun v134 e134 => ?_)
  refine tz_rowV (As := [.int v134]) (st := []) (b := a) (C := RX12) (Ts := gT) hx hb hml hown h2 (fun _ h => h) (hX12_clearPart l D cA ro sz H0 a v134 0 T (sg) n g h ha hn1 hT (by omega)) ⟨rfl, rfl⟩ ⟨by decide, by decide⟩ ⟨by decide, by decide⟩ (tb_8 68 rfl rfl) (tb_1 12 rfl rfl) (tb_8 65 rfl rfl) (tb_8 67 rfl rfl) (tb_0 41 rfl rfl) (show yX12_clearPart.cls ≠ "java/lang/invoke/MethodHandle" ∧ yX12_clearPart.cls ≠ "java/lang/invoke/VarHandle" ∧ (parseMethodDescriptor yX12_clearPart.desc).map (fun d => d.parameters.length) = some 1 by decide +kernel) zs_blind (zs_ob hh ha (show RTg[11]? = some (0, 11, 0, fsX12) from rfl) (zCX12 hKn.1)) (fun U hU hW => ⟨rfl, by rw [hU]; exact hh.l0, zKb s U hW.alike hKn, by rw [hU]; exact ⟨jv0, jg0⟩⟩) hh.2.2.1 hl.1 (Nat.le_of_ble_eq_true rfl) (eX12_readPlain (2, .invokevirtual 384, 3) (List.mem_of_getElem? (i := 2) rfl)) (fun r135 s135 t135 lo135 g135 f135 l135 => ?_)
  obtain ⟨q135, z135, c135, jv135, jg135⟩ := f135
  cases q135
  rw [g135] at c135
  have hh135 : zh_ok D cA RTg ro sz H0 t135.heap lo135 := ⟨z135.1, z135.2.1, l135, z135.2.2.2⟩
  have kp135 := kp0.trans (c135.mono (ms' := gM) (by decide))
  generalize hx135 : ((clG 0, sg) : gsS) = x135 at jv135 jg135
  have uu135 := jv135.2.2
  unfold vOK at uu135
  have bb135 := byI_bd T x135.2.1
  refine W.eq (g2 := F0 m 5 ls []) rfl ?_
  refine lv_aload_n hx hb (eX12_readPlain (5, .aload_n 0, 1) (List.mem_of_getElem? (i := 3) rfl)) rfl (lv_at hl 0 rfl) ?_
  refine ff_iconst hx hb (eX12_readPlain (6, .iconst 3, 1) (List.mem_of_getElem? (i := 4) rfl)) (by decide) (by decide) (fun v136 e136 => ?_)
  refine lv_aload_n hx hb (eX12_readPlain (7, .aload_n 0, 1) (List.mem_of_getElem? (i := 5) rfl)) rfl (lv_at hl 0 rfl) ?_
  obtain ⟨jt137, ⟨av137, fv137, bv137, f29137, f30137, f31137, hav137, hfv137, hbv137⟩, hu137⟩ := id jv135
  refine tz_get (r := 11) (k := 29) (t := (0, 0, 120)) hx hb hh135 ha rfl rfl (hcl11 293 29 (0, 0, 120) (by decide) rfl).1 f29137 (eX12_readPlain (8, .getfield 293, 3) (List.mem_of_getElem? (i := 6) rfl)) ?_
  refine ff_i2l hx hb (eX12_readPlain (11, .i2l, 1) (List.mem_of_getElem? (i := 7) rfl)) (fun v138 e138 => ?_)
  refine tz_rowV (As := [.int v136, .long v138]) (st := []) (b := a) (C := RX12) (Ts := gT) hx hb hml hown h2 (fun _ h => h) (hX12_set l D cA ro sz H0 a v136 v138 3 n x135.1 h ha hn1 (by omega) (by decide)) ⟨rfl, rfl⟩ ⟨by decide, by decide⟩ ⟨by decide, by decide⟩ (tb_8 72 rfl rfl) (tb_1 12 rfl rfl) (tb_8 69 rfl rfl) (tb_8 71 rfl rfl) (tb_0 42 rfl rfl) (show yX12_set.cls ≠ "java/lang/invoke/MethodHandle" ∧ yX12_set.cls ≠ "java/lang/invoke/VarHandle" ∧ (parseMethodDescriptor yX12_set.desc).map (fun d => d.parameters.length) = some 2 by decide +kernel) zs_blind (zs_ob hh135 ha (show RTg[11]? = some (0, 11, 0, fsX12) from rfl) (zCX12 hKn.1)) (fun U hU hW => ⟨rfl, by rw [hU]; exact hh135.l0, zKb s U hW.alike hKn, by rw [hU]; exact jg135⟩) hh135.2.2.1 hl.1 (Nat.le_of_ble_eq_true rfl) (eX12_readPlain (12, .invokevirtual 357, 3) (List.mem_of_getElem? (i := 8) rfl)) (fun r139 s139 t139 lo139 g139 f139 l139 => ?_)
  obtain ⟨q139, z139, c139, jg139⟩ := f139
  cases q139
  rw [g139] at c139
  have hh139 : zh_ok D cA RTg ro sz H0 t139.heap lo139 := ⟨z139.1, z139.2.1, l139, z139.2.2.2⟩
  have kp139 := kp135.trans (c139.mono (ms' := gM) (by decide))
  have jg139 : jG D cA ro t139.heap a n (upF x135.1 3 (x135.2.1)) h := by rw [← show v138.toInt = x135.2.1 by omega]; exact jg139
  have jv139 := jv135.kept ha c139 (by decide)
  refine W.eq (g2 := F0 m 15 ls []) rfl ?_
  refine lv_aload_n hx hb (eX12_readPlain (15, .aload_n 0, 1) (List.mem_of_getElem? (i := 9) rfl)) rfl (lv_at hl 0 rfl) ?_
  refine ff_iconst hx hb (eX12_readPlain (16, .iconst 2, 1) (List.mem_of_getElem? (i := 10) rfl)) (by decide) (by decide) (fun v140 e140 => ?_)
  refine lv_aload_n hx hb (eX12_readPlain (17, .aload_n 0, 1) (List.mem_of_getElem? (i := 11) rfl)) rfl (lv_at hl 0 rfl) ?_
  refine ff_iconst hx hb (eX12_readPlain (18, .iconst 4, 1) (List.mem_of_getElem? (i := 12) rfl)) (by decide) (by decide) (fun v141 e141 => ?_)
  refine tz_rowV (As := [.int v141]) (st := [.int v140, .ref a]) (b := a) (C := RX12) (Ts := gT) hx hb hml hown h2 (fun _ h => h) (hX12_digitsW l D cA ro sz H0 a v141 4 T (x135.2) ha (by omega) (by decide)) ⟨rfl, rfl⟩ ⟨by decide, by decide⟩ ⟨by decide, by decide⟩ (tb_8 43 rfl rfl) (tb_1 12 rfl rfl) (tb_8 40 rfl rfl) (tb_8 42 rfl rfl) (tb_0 36 rfl rfl) (show yX12_digits.cls ≠ "java/lang/invoke/MethodHandle" ∧ yX12_digits.cls ≠ "java/lang/invoke/VarHandle" ∧ (parseMethodDescriptor yX12_digits.desc).map (fun d => d.parameters.length) = some 1 by decide +kernel) zs_blind (zs_ob hh139 ha (show RTg[11]? = some (0, 11, 0, fsX12) from rfl) (zCX12 hKn.1)) (fun U hU hW => ⟨rfl, by rw [hU]; exact hh139.l0, zKb s U hW.alike hKn, by rw [hU]; exact jv139⟩) hh139.2.2.1 hl.1 (Nat.le_of_ble_eq_true rfl) (eX12_readPlain (19, .invokevirtual 331, 3) (List.mem_of_getElem? (i := 13) rfl)) (fun r142 s142 t142 lo142 g142 f142 l142 => ?_)
  obtain ⟨v142, q142, e142, z142, c142, jv142⟩ := f142
  cases q142
  rw [g142] at c142
  have hh142 : zh_ok D cA RTg ro sz H0 t142.heap lo142 := ⟨z142.1, z142.2.1, l142, z142.2.2.2⟩
  have kp142 := kp139.trans (c142.mono (ms' := gM) (by decide))
  have kf142 := dgG_w (T := T) (n := 4) (r := x135.2) (M := 9999) (by decide)
  generalize hx142 : dgG T 4 0 x135.2 = x142 at jv142 e142 kf142
  have uu142 := jv142.2.2
  unfold vOK at uu142
  have bb142 := byI_bd T x142.2.1
  have jg142 := jg139.kept ha c142 (by decide)
  refine W.eq (g2 := F0 m 22 ls [.int v142, .int v140, .ref a]) rfl ?_
  refine ff_i2l hx hb (eX12_readPlain (22, .i2l, 1) (List.mem_of_getElem? (i := 14) rfl)) (fun v143 e143 => ?_)
  refine tz_rowV (As := [.int v140, .long v143]) (st := []) (b := a) (C := RX12) (Ts := gT) hx hb hml hown h2 (fun _ h => h) (hX12_set l D cA ro sz H0 a v140 v143 2 n (upF x135.1 3 (x135.2.1)) h ha hn1 (by omega) (by decide)) ⟨rfl, rfl⟩ ⟨by decide, by decide⟩ ⟨by decide, by decide⟩ (tb_8 72 rfl rfl) (tb_1 12 rfl rfl) (tb_8 69 rfl rfl) (tb_8 71 rfl rfl) (tb_0 42 rfl rfl) (show yX12_set.cls ≠ "java/lang/invoke/MethodHandle" ∧ yX12_set.cls ≠ "java/lang/invoke/VarHandle" ∧ (parseMethodDescriptor yX12_set.desc).map (fun d => d.parameters.length) = some 2 by decide +kernel) zs_blind (zs_ob hh142 ha (show RTg[11]? = some (0, 11, 0, fsX12) from rfl) (zCX12 hKn.1)) (fun U hU hW => ⟨rfl, by rw [hU]; exact hh142.l0, zKb s U hW.alike hKn, by rw [hU]; exact jg142⟩) hh142.2.2.1 hl.1 (Nat.le_of_ble_eq_true rfl) (eX12_readPlain (23, .invokevirtual 357, 3) (List.mem_of_getElem? (i := 15) rfl)) (fun r144 s144 t144 lo144 g144 f144 l144 => ?_)
  obtain ⟨q144, z144, c144, jg144⟩ := f144
  cases q144
  rw [g144] at c144
  have hh144 : zh_ok D cA RTg ro sz H0 t144.heap lo144 := ⟨z144.1, z144.2.1, l144, z144.2.2.2⟩
  have kp144 := kp142.trans (c144.mono (ms' := gM) (by decide))
  have jg144 : jG D cA ro t144.heap a n (upF (upF x135.1 3 (x135.2.1)) 2 (x142.1)) h := by rw [← show v143.toInt = x142.1 by omega]; exact jg144
  have jv144 := jv142.kept ha c144 (by decide)
  refine W.eq (g2 := F0 m 26 ls []) rfl ?_
  refine lv_aload_n hx hb (eX12_readPlain (26, .aload_n 0, 1) (List.mem_of_getElem? (i := 16) rfl)) rfl (lv_at hl 0 rfl) ?_
  refine ff_iconst hx hb (eX12_readPlain (27, .iconst 1, 1) (List.mem_of_getElem? (i := 17) rfl)) (by decide) (by decide) (fun v145 e145 => ?_)
  refine ff_lconst hx hb (eX12_readPlain (28, .lconst 0, 1) (List.mem_of_getElem? (i := 18) rfl)) rfl (fun v146 e146 => ?_)
  refine tz_rowV (As := [.int v145, .long v146]) (st := []) (b := a) (C := RX12) (Ts := gT) hx hb hml hown h2 (fun _ h => h) (hX12_set l D cA ro sz H0 a v145 v146 1 n (upF (upF x135.1 3 (x135.2.1)) 2 (x142.1)) h ha hn1 (by omega) (by decide)) ⟨rfl, rfl⟩ ⟨by decide, by decide⟩ ⟨by decide, by decide⟩ (tb_8 72 rfl rfl) (tb_1 12 rfl rfl) (tb_8 69 rfl rfl) (tb_8 71 rfl rfl) (tb_0 42 rfl rfl) (show yX12_set.cls ≠ "java/lang/invoke/MethodHandle" ∧ yX12_set.cls ≠ "java/lang/invoke/VarHandle" ∧ (parseMethodDescriptor yX12_set.desc).map (fun d => d.parameters.length) = some 2 by decide +kernel) zs_blind (zs_ob hh144 ha (show RTg[11]? = some (0, 11, 0, fsX12) from rfl) (zCX12 hKn.1)) (fun U hU hW => ⟨rfl, by rw [hU]; exact hh144.l0, zKb s U hW.alike hKn, by rw [hU]; exact jg144⟩) hh144.2.2.1 hl.1 (Nat.le_of_ble_eq_true rfl) (eX12_readPlain (29, .invokevirtual 357, 3) (List.mem_of_getElem? (i := 19) rfl)) (fun r147 s147 t147 lo147 g147 f147 l147 => ?_)
  obtain ⟨q147, z147, c147, jg147⟩ := f147
  cases q147
  rw [g147] at c147
  have hh147 : zh_ok D cA RTg ro sz H0 t147.heap lo147 := ⟨z147.1, z147.2.1, l147, z147.2.2.2⟩
  have kp147 := kp144.trans (c147.mono (ms' := gM) (by decide))
  have jg147 : jG D cA ro t147.heap a n (upF (upF (upF x135.1 3 (x135.2.1)) 2 (x142.1)) 1 (0)) h := by rw [← show v146.toInt = 0 by omega]; exact jg147
  have jv147 := jv144.kept ha c147 (by decide)
  refine W.eq (g2 := F0 m 32 ls []) rfl ?_
  refine lv_aload_n hx hb (eX12_readPlain (32, .aload_n 0, 1) (List.mem_of_getElem? (i := 20) rfl)) rfl (lv_at hl 0 rfl) ?_
  refine ff_bipush hx hb (eX12_readPlain (33, .bipush 45, 2) (List.mem_of_getElem? (i := 21) rfl)) (by decide) (by decide) (fun v148 e148 => ?_)
  refine tz_rowV (As := [.int v148]) (st := []) (b := a) (C := RX12) (Ts := gT) hx hb hml hown h2 (fun _ h => h) (hX12_expect l D cA ro sz H0 a v148 45 T (x142.2) ha (by omega) (by decide)) ⟨rfl, rfl⟩ ⟨by decide, by decide⟩ ⟨by decide, by decide⟩ (tb_8 35 rfl rfl) (tb_1 12 rfl rfl) (tb_8 32 rfl rfl) (tb_8 34 rfl rfl) (tb_0 34 rfl rfl) (show yX12_expect.cls ≠ "java/lang/invoke/MethodHandle" ∧ yX12_expect.cls ≠ "java/lang/invoke/VarHandle" ∧ (parseMethodDescriptor yX12_expect.desc).map (fun d => d.parameters.length) = some 1 by decide +kernel) zs_blind (zs_ob hh147 ha (show RTg[11]? = some (0, 11, 0, fsX12) from rfl) (zCX12 hKn.1)) (fun U hU hW => ⟨rfl, by rw [hU]; exact hh147.l0, zKb s U hW.alike hKn, by rw [hU]; exact jv147⟩) hh147.2.2.1 hl.1 (Nat.le_of_ble_eq_true rfl) (eX12_readPlain (35, .invokevirtual 325, 3) (List.mem_of_getElem? (i := 22) rfl)) (fun r149 s149 t149 lo149 g149 f149 l149 => ?_)
  obtain ⟨q149, z149, c149, jv149⟩ := f149
  cases q149
  rw [g149] at c149
  have hh149 : zh_ok D cA RTg ro sz H0 t149.heap lo149 := ⟨z149.1, z149.2.1, l149, z149.2.2.2⟩
  have kp149 := kp147.trans (c149.mono (ms' := gM) (by decide))
  generalize hx149 : exG T 45 x142.2 = x149 at jv149
  have uu149 := jv149.2.2
  unfold vOK at uu149
  have bb149 := byI_bd T x149.1
  have jg149 := jg147.kept ha c149 (by decide)
  refine W.eq (g2 := F0 m 38 ls []) rfl ?_
  refine lv_aload_n hx hb (eX12_readPlain (38, .aload_n 0, 1) (List.mem_of_getElem? (i := 23) rfl)) rfl (lv_at hl 0 rfl) ?_
  refine ff_iconst hx hb (eX12_readPlain (39, .iconst 4, 1) (List.mem_of_getElem? (i := 24) rfl)) (by decide) (by decide) (fun v150 e150 => ?_)
  refine ff_iconst hx hb (eX12_readPlain (40, .iconst 2, 1) (List.mem_of_getElem? (i := 25) rfl)) (by decide) (by decide) (fun v151 e151 => ?_)
  refine tz_rowV (As := [.int v150, .int v151]) (st := []) (b := a) (C := RX12) (Ts := gT) hx hb hml hown h2 (fun _ h => h) (hX12_dateNumber l D cA ro sz H0 a v150 v151 4 2 T (x149) n (upF (upF (upF x135.1 3 (x135.2.1)) 2 (x142.1)) 1 (0)) h ha hn1 hT (by omega) (by omega) (by decide) (by decide)) ⟨rfl, rfl⟩ ⟨by decide, by decide⟩ ⟨by decide, by decide⟩ (tb_8 76 rfl rfl) (tb_1 12 rfl rfl) (tb_8 73 rfl rfl) (tb_8 75 rfl rfl) (tb_0 43 rfl rfl) (show yX12_dateNumber.cls ≠ "java/lang/invoke/MethodHandle" ∧ yX12_dateNumber.cls ≠ "java/lang/invoke/VarHandle" ∧ (parseMethodDescriptor yX12_dateNumber.desc).map (fun d => d.parameters.length) = some 2 by decide +kernel) zs_blind (zs_ob hh149 ha (show RTg[11]? = some (0, 11, 0, fsX12) from rfl) (zCX12 hKn.1)) (fun U hU hW => ⟨rfl, by rw [hU]; exact hh149.l0, zKb s U hW.alike hKn, by rw [hU]; exact ⟨jv149, jg149⟩⟩) hh149.2.2.1 hl.1 (Nat.le_of_ble_eq_true rfl) (eX12_readPlain (41, .invokevirtual 369, 3) (List.mem_of_getElem? (i := 26) rfl)) (fun r152 s152 t152 lo152 g152 f152 l152 => ?_)
  obtain ⟨q152, z152, c152, jv152, jg152⟩ := f152
  cases q152
  rw [g152] at c152
  have hh152 : zh_ok D cA RTg ro sz H0 t152.heap lo152 := ⟨z152.1, z152.2.1, l152, z152.2.2.2⟩
  have kp152 := kp149.trans (c152.mono (ms' := gM) (by decide))
  generalize hx152 : nuG T 4 2 ((upF (upF (upF x135.1 3 (x135.2.1)) 2 (x142.1)) 1 (0)), x149) = x152 at jv152 jg152
  have uu152 := jv152.2.2
  unfold vOK at uu152
  have bb152 := byI_bd T x152.2.1
  refine W.eq (g2 := F0 m 44 ls []) rfl ?_
  refine lv_aload_n hx hb (eX12_readPlain (44, .aload_n 0, 1) (List.mem_of_getElem? (i := 27) rfl)) rfl (lv_at hl 0 rfl) ?_
  refine ff_bipush hx hb (eX12_readPlain (45, .bipush 45, 2) (List.mem_of_getElem? (i := 28) rfl)) (by decide) (by decide) (fun v153 e153 => ?_)
  refine tz_rowV (As := [.int v153]) (st := []) (b := a) (C := RX12) (Ts := gT) hx hb hml hown h2 (fun _ h => h) (hX12_expect l D cA ro sz H0 a v153 45 T (x152.2) ha (by omega) (by decide)) ⟨rfl, rfl⟩ ⟨by decide, by decide⟩ ⟨by decide, by decide⟩ (tb_8 35 rfl rfl) (tb_1 12 rfl rfl) (tb_8 32 rfl rfl) (tb_8 34 rfl rfl) (tb_0 34 rfl rfl) (show yX12_expect.cls ≠ "java/lang/invoke/MethodHandle" ∧ yX12_expect.cls ≠ "java/lang/invoke/VarHandle" ∧ (parseMethodDescriptor yX12_expect.desc).map (fun d => d.parameters.length) = some 1 by decide +kernel) zs_blind (zs_ob hh152 ha (show RTg[11]? = some (0, 11, 0, fsX12) from rfl) (zCX12 hKn.1)) (fun U hU hW => ⟨rfl, by rw [hU]; exact hh152.l0, zKb s U hW.alike hKn, by rw [hU]; exact jv152⟩) hh152.2.2.1 hl.1 (Nat.le_of_ble_eq_true rfl) (eX12_readPlain (47, .invokevirtual 325, 3) (List.mem_of_getElem? (i := 29) rfl)) (fun r154 s154 t154 lo154 g154 f154 l154 => ?_)
  obtain ⟨q154, z154, c154, jv154⟩ := f154
  cases q154
  rw [g154] at c154
  have hh154 : zh_ok D cA RTg ro sz H0 t154.heap lo154 := ⟨z154.1, z154.2.1, l154, z154.2.2.2⟩
  have kp154 := kp152.trans (c154.mono (ms' := gM) (by decide))
  generalize hx154 : exG T 45 x152.2 = x154 at jv154
  have uu154 := jv154.2.2
  unfold vOK at uu154
  have bb154 := byI_bd T x154.1
  have jg154 := jg152.kept ha c154 (by decide)
  refine W.eq (g2 := F0 m 50 ls []) rfl ?_
  refine lv_aload_n hx hb (eX12_readPlain (50, .aload_n 0, 1) (List.mem_of_getElem? (i := 30) rfl)) rfl (lv_at hl 0 rfl) ?_
  refine ff_bipush hx hb (eX12_readPlain (51, .bipush 6, 2) (List.mem_of_getElem? (i := 31) rfl)) (by decide) (by decide) (fun v155 e155 => ?_)
  refine ff_iconst hx hb (eX12_readPlain (53, .iconst 2, 1) (List.mem_of_getElem? (i := 32) rfl)) (by decide) (by decide) (fun v156 e156 => ?_)
  refine tz_rowV (As := [.int v155, .int v156]) (st := []) (b := a) (C := RX12) (Ts := gT) hx hb hml hown h2 (fun _ h => h) (hX12_dateNumber l D cA ro sz H0 a v155 v156 6 2 T (x154) n x152.1 h ha hn1 hT (by omega) (by omega) (by decide) (by decide)) ⟨rfl, rfl⟩ ⟨by decide, by decide⟩ ⟨by decide, by decide⟩ (tb_8 76 rfl rfl) (tb_1 12 rfl rfl) (tb_8 73 rfl rfl) (tb_8 75 rfl rfl) (tb_0 43 rfl rfl) (show yX12_dateNumber.cls ≠ "java/lang/invoke/MethodHandle" ∧ yX12_dateNumber.cls ≠ "java/lang/invoke/VarHandle" ∧ (parseMethodDescriptor yX12_dateNumber.desc).map (fun d => d.parameters.length) = some 2 by decide +kernel) zs_blind (zs_ob hh154 ha (show RTg[11]? = some (0, 11, 0, fsX12) from rfl) (zCX12 hKn.1)) (fun U hU hW => ⟨rfl, by rw [hU]; exact hh154.l0, zKb s U hW.alike hKn, by rw [hU]; exact ⟨jv154, jg154⟩⟩) hh154.2.2.1 hl.1 (Nat.le_of_ble_eq_true rfl) (eX12_readPlain (54, .invokevirtual 369, 3) (List.mem_of_getElem? (i := 33) rfl)) (fun r157 s157 t157 lo157 g157 f157 l157 => ?_)
  obtain ⟨q157, z157, c157, jv157, jg157⟩ := f157
  cases q157
  rw [g157] at c157
  have hh157 : zh_ok D cA RTg ro sz H0 t157.heap lo157 := ⟨z157.1, z157.2.1, l157, z157.2.2.2⟩
  have kp157 := kp154.trans (c157.mono (ms' := gM) (by decide))
  generalize hx157 : nuG T 6 2 (x152.1, x154) = x157 at jv157 jg157
  have hE : rp1G T (clG 0, sg) = x157 := by
    rw [← hx157, ← hx154, ← hx152, ← hx149, ← hx142, ← hx135]
    unfold rp1G exS
    all_goals rfl
  have uu157 := jv157.2.2
  unfold vOK at uu157
  have bb157 := byI_bd T x157.2.1
  refine W.eq (g2 := F0 m 57 ls []) rfl ?_
  refine lv_aload_n hx hb (eX12_readPlain (57, .aload_n 0, 1) (List.mem_of_getElem? (i := 34) rfl)) rfl (lv_at hl 0 rfl) ?_
  refine tz_rowV (As := []) (st := []) (b := a) (C := RX12) (Ts := gT) hx hb hml hown h2 (fun _ h => h) (hX12_isGood l D cA ro sz H0 a T (x157.2) ha) ⟨rfl, rfl⟩ ⟨by decide, by decide⟩ ⟨by decide, by decide⟩ (tb_8 17 rfl rfl) (tb_1 12 rfl rfl) (tb_8 14 rfl rfl) (tb_8 16 rfl rfl) (tb_0 31 rfl rfl) (show yX12_isGood.cls ≠ "java/lang/invoke/MethodHandle" ∧ yX12_isGood.cls ≠ "java/lang/invoke/VarHandle" ∧ (parseMethodDescriptor yX12_isGood.desc).map (fun d => d.parameters.length) = some 0 by decide +kernel) zs_blind (zs_ob hh157 ha (show RTg[11]? = some (0, 11, 0, fsX12) from rfl) (zCX12 hKn.1)) (fun U hU hW => ⟨rfl, by rw [hU]; exact hh157.l0, zKb s U hW.alike hKn, by rw [hU]; exact jv157⟩) hh157.2.2.1 hl.1 (Nat.le_of_ble_eq_true rfl) (eX12_readPlain (58, .invokevirtual 305, 3) (List.mem_of_getElem? (i := 35) rfl)) (fun r158 s158 t158 lo158 g158 f158 l158 => ?_)
  obtain ⟨z158, v158, q158, e158⟩ := f158
  cases q158
  rw [z158, g158]
  have hh158 : zh_ok D cA RTg ro sz H0 t157.heap lo158 := ⟨hh157.1, hh157.2.1, l158, hh157.2.2.2⟩
  refine W.eq (g2 := F0 m 61 ls [.int v158]) rfl ?_
  refine ff_if_eq hx hb (eX12_readPlain (61, .ifCond .eq 34, 3) (List.mem_of_getElem? (i := 36) rfl)) (tgt := 95) rfl (fun c159 => ?_) (fun c159 => ?_)
  · skip
    have d160 : ¬ (x157.2.2.1 < 0 ∧ ¬ byI T x157.2.1 = 84 ∧ ¬ byI T x157.2.1 = 116 ∧ ¬ byI T x157.2.1 = 32) := by omega
    exact jn95 x157.1 x157.2  ls _ _ hh158 kp157 jv157 jg157 (by first | (simp only [rpG, rpS, spG, sp1G, hE, if_neg d160]; done) | (simp only [rpG, rpS, spG, sp1G, hE, if_neg d160] <;> rfl)) (fun q => by omega) (lv_sub hl [0] rfl)
  · skip
    refine lv_aload_n hx hb (eX12_readPlain (64, .aload_n 0, 1) (List.mem_of_getElem? (i := 37) rfl)) rfl (lv_at hl 0 rfl) ?_
    refine tz_rowV (As := []) (st := []) (b := a) (C := RX12) (Ts := gT) hx hb hml hown h2 (fun _ h => h) (hX12_sign l D cA ro sz H0 a T (x157.2) ha) ⟨rfl, rfl⟩ ⟨by decide, by decide⟩ ⟨by decide, by decide⟩ (tb_8 21 rfl rfl) (tb_1 12 rfl rfl) (tb_8 18 rfl rfl) (tb_8 20 rfl rfl) (tb_0 32 rfl rfl) (show yX12_sign.cls ≠ "java/lang/invoke/MethodHandle" ∧ yX12_sign.cls ≠ "java/lang/invoke/VarHandle" ∧ (parseMethodDescriptor yX12_sign.desc).map (fun d => d.parameters.length) = some 0 by decide +kernel) zs_blind (zs_ob hh158 ha (show RTg[11]? = some (0, 11, 0, fsX12) from rfl) (zCX12 hKn.1)) (fun U hU hW => ⟨rfl, by rw [hU]; exact hh158.l0, zKb s U hW.alike hKn, by rw [hU]; exact jv157⟩) hh158.2.2.1 hl.1 (Nat.le_of_ble_eq_true rfl) (eX12_readPlain (65, .invokevirtual 309, 3) (List.mem_of_getElem? (i := 38) rfl)) (fun r161 s161 t161 lo161 g161 f161 l161 => ?_)
    obtain ⟨z161, v161, q161, e161⟩ := f161
    cases q161
    rw [z161, g161]
    have hh161 : zh_ok D cA RTg ro sz H0 t157.heap lo161 := ⟨hh158.1, hh158.2.1, l161, hh158.2.2.2⟩
    refine W.eq (g2 := F0 m 68 ls [.int v161]) rfl ?_
    refine ff_bipush hx hb (eX12_readPlain (68, .bipush 84, 2) (List.mem_of_getElem? (i := 39) rfl)) (by decide) (by decide) (fun v162 e162 => ?_)
    refine ff_icmp_eq hx hb (eX12_readPlain (70, .if_icmp .eq 25, 3) (List.mem_of_getElem? (i := 40) rfl)) (tgt := 95) rfl (fun c163 => ?_) (fun c163 => ?_)
    · skip
      have d164 : ¬ (x157.2.2.1 < 0 ∧ ¬ byI T x157.2.1 = 84 ∧ ¬ byI T x157.2.1 = 116 ∧ ¬ byI T x157.2.1 = 32) := by omega
      exact jn95 x157.1 x157.2  ls _ _ hh161 kp157 jv157 jg157 (by first | (simp only [rpG, rpS, spG, sp1G, hE, if_neg d164]; done) | (simp only [rpG, rpS, spG, sp1G, hE, if_neg d164] <;> rfl)) (fun q => by omega) (lv_sub hl [0] rfl)
    · skip
      refine lv_aload_n hx hb (eX12_readPlain (73, .aload_n 0, 1) (List.mem_of_getElem? (i := 41) rfl)) rfl (lv_at hl 0 rfl) ?_
      refine tz_rowV (As := []) (st := []) (b := a) (C := RX12) (Ts := gT) hx hb hml hown h2 (fun _ h => h) (hX12_sign l D cA ro sz H0 a T (x157.2) ha) ⟨rfl, rfl⟩ ⟨by decide, by decide⟩ ⟨by decide, by decide⟩ (tb_8 21 rfl rfl) (tb_1 12 rfl rfl) (tb_8 18 rfl rfl) (tb_8 20 rfl rfl) (tb_0 32 rfl rfl) (show yX12_sign.cls ≠ "java/lang/invoke/MethodHandle" ∧ yX12_sign.cls ≠ "java/lang/invoke/VarHandle" ∧ (parseMethodDescriptor yX12_sign.desc).map (fun d => d.parameters.length) = some 0 by decide +kernel) zs_blind (zs_ob hh161 ha (show RTg[11]? = some (0, 11, 0, fsX12) from rfl) (zCX12 hKn.1)) (fun U hU hW => ⟨rfl, by rw [hU]; exact hh161.l0, zKb s U hW.alike hKn, by rw [hU]; exact jv157⟩) hh161.2.2.1 hl.1 (Nat.le_of_ble_eq_true rfl) (eX12_readPlain (74, .invokevirtual 309, 3) (List.mem_of_getElem? (i := 42) rfl)) (fun r165 s165 t165 lo165 g165 f165 l165 => ?_)
      obtain ⟨z165, v165, q165, e165⟩ := f165
      cases q165
      rw [z165, g165]
      have hh165 : zh_ok D cA RTg ro sz H0 t157.heap lo165 := ⟨hh161.1, hh161.2.1, l165, hh161.2.2.2⟩
      refine W.eq (g2 := F0 m 77 ls [.int v165]) rfl ?_
      refine ff_bipush hx hb (eX12_readPlain (77, .bipush 116, 2) (List.mem_of_getElem? (i := 43) rfl)) (by decide) (by decide) (fun v166 e166 => ?_)
      refine ff_icmp_eq hx hb (eX12_readPlain (79, .if_icmp .eq 16, 3) (List.mem_of_getElem? (i := 44) rfl)) (tgt := 95) rfl (fun c167 => ?_) (fun c167 => ?_)
      · skip
        have d168 : ¬ (x157.2.2.1 < 0 ∧ ¬ byI T x157.2.1 = 84 ∧ ¬ byI T x157.2.1 = 116 ∧ ¬ byI T x157.2.1 = 32) := by omega
        exact jn95 x157.1 x157.2  ls _ _ hh165 kp157 jv157 jg157 (by first | (simp only [rpG, rpS, spG, sp1G, hE, if_neg d168]; done) | (simp only [rpG, rpS, spG, sp1G, hE, if_neg d168] <;> rfl)) (fun q => by omega) (lv_sub hl [0] rfl)
      · skip
        refine lv_aload_n hx hb (eX12_readPlain (82, .aload_n 0, 1) (List.mem_of_getElem? (i := 45) rfl)) rfl (lv_at hl 0 rfl) ?_
        refine tz_rowV (As := []) (st := []) (b := a) (C := RX12) (Ts := gT) hx hb hml hown h2 (fun _ h => h) (hX12_sign l D cA ro sz H0 a T (x157.2) ha) ⟨rfl, rfl⟩ ⟨by decide, by decide⟩ ⟨by decide, by decide⟩ (tb_8 21 rfl rfl) (tb_1 12 rfl rfl) (tb_8 18 rfl rfl) (tb_8 20 rfl rfl) (tb_0 32 rfl rfl) (show yX12_sign.cls ≠ "java/lang/invoke/MethodHandle" ∧ yX12_sign.cls ≠ "java/lang/invoke/VarHandle" ∧ (parseMethodDescriptor yX12_sign.desc).map (fun d => d.parameters.length) = some 0 by decide +kernel) zs_blind (zs_ob hh165 ha (show RTg[11]? = some (0, 11, 0, fsX12) from rfl) (zCX12 hKn.1)) (fun U hU hW => ⟨rfl, by rw [hU]; exact hh165.l0, zKb s U hW.alike hKn, by rw [hU]; exact jv157⟩) hh165.2.2.1 hl.1 (Nat.le_of_ble_eq_true rfl) (eX12_readPlain (83, .invokevirtual 309, 3) (List.mem_of_getElem? (i := 46) rfl)) (fun r169 s169 t169 lo169 g169 f169 l169 => ?_)
        obtain ⟨z169, v169, q169, e169⟩ := f169
        cases q169
        rw [z169, g169]
        have hh169 : zh_ok D cA RTg ro sz H0 t157.heap lo169 := ⟨hh165.1, hh165.2.1, l169, hh165.2.2.2⟩
        refine W.eq (g2 := F0 m 86 ls [.int v169]) rfl ?_
        refine ff_bipush hx hb (eX12_readPlain (86, .bipush 32, 2) (List.mem_of_getElem? (i := 47) rfl)) (by decide) (by decide) (fun v170 e170 => ?_)
        refine ff_icmp_eq hx hb (eX12_readPlain (88, .if_icmp .eq 7, 3) (List.mem_of_getElem? (i := 48) rfl)) (tgt := 95) rfl (fun c171 => ?_) (fun c171 => ?_)
        · skip
          have d172 : ¬ (x157.2.2.1 < 0 ∧ ¬ byI T x157.2.1 = 84 ∧ ¬ byI T x157.2.1 = 116 ∧ ¬ byI T x157.2.1 = 32) := by omega
          exact jn95 x157.1 x157.2  ls _ _ hh169 kp157 jv157 jg157 (by first | (simp only [rpG, rpS, spG, sp1G, hE, if_neg d172]; done) | (simp only [rpG, rpS, spG, sp1G, hE, if_neg d172] <;> rfl)) (fun q => by omega) (lv_sub hl [0] rfl)
        · skip
          have d173 : x157.2.2.1 < 0 ∧ ¬ byI T x157.2.1 = 84 ∧ ¬ byI T x157.2.1 = 116 ∧ ¬ byI T x157.2.1 = 32 := by omega
          refine lv_aload_n hx hb (eX12_readPlain (91, .aload_n 0, 1) (List.mem_of_getElem? (i := 49) rfl)) rfl (lv_at hl 0 rfl) ?_
          refine tz_rowV (As := []) (st := []) (b := a) (C := RX12) (Ts := gT) hx hb hml hown h2 (fun _ h => h) (hX12_fail l D cA ro sz H0 a T (x157.2) ha) ⟨rfl, rfl⟩ ⟨by decide, by decide⟩ ⟨by decide, by decide⟩ (tb_8 31 rfl rfl) (tb_1 12 rfl rfl) (tb_8 28 rfl rfl) (tb_8 30 rfl rfl) (tb_0 33 rfl rfl) (show yX12_fail.cls ≠ "java/lang/invoke/MethodHandle" ∧ yX12_fail.cls ≠ "java/lang/invoke/VarHandle" ∧ (parseMethodDescriptor yX12_fail.desc).map (fun d => d.parameters.length) = some 0 by decide +kernel) zs_blind (zs_ob hh169 ha (show RTg[11]? = some (0, 11, 0, fsX12) from rfl) (zCX12 hKn.1)) (fun U hU hW => ⟨rfl, by rw [hU]; exact hh169.l0, zKb s U hW.alike hKn, by rw [hU]; exact jv157⟩) hh169.2.2.1 hl.1 (Nat.le_of_ble_eq_true rfl) (eX12_readPlain (92, .invokevirtual 316, 3) (List.mem_of_getElem? (i := 50) rfl)) (fun r174 s174 t174 lo174 g174 f174 l174 => ?_)
          obtain ⟨q174, z174, c174, jv174⟩ := f174
          cases q174
          rw [g174] at c174
          have hh174 : zh_ok D cA RTg ro sz H0 t174.heap lo174 := ⟨z174.1, z174.2.1, l174, z174.2.2.2⟩
          have kp174 := kp157.trans (c174.mono (ms' := gM) (by decide))
          have kf174 := flG_nn (T := T) (r := x157.2) jv157.2.2
          generalize hx174 : flG x157.2 = x174 at jv174 kf174
          have uu174 := jv174.2.2
          unfold vOK at uu174
          have bb174 := byI_bd T x174.1
          have jg174 := jg157.kept ha c174 (by decide)
          refine W.eq (g2 := F0 m 95 ls []) rfl ?_
          exact jn95 x157.1 x174  ls _ _ hh174 kp174 jv174 jg174 (by first | (simp only [rpG, rpS, spG, sp1G, hE, hx174, if_pos d173]; done) | (simp only [rpG, rpS, spG, sp1G, hE, hx174, if_pos d173] <;> rfl)) (fun q => by omega) (lv_sub hl [0] rfl)
theorem hdG_01 (T : List Int) (x : gsS) : hdG T x = 0 ∨ hdG T x = 1 := by
  unfold hdG
  rcases tkG_01 T 45 (yrG T x).2 with h | h
  · exact Or.inr h.1
  · exact Or.inl h.1
set_option maxRecDepth 100000 in
set_option maxHeartbeats 4000000 in
theorem hX12_readBoth (l : Launch) (D : va_G) (cA : Nat → ClassId) (ro : Nat → Option Nat) (sz : Nat) (H0 : Heap) (a : Nat)  (T : List Int) (sg : uS) (n : Nat) (g h : fN) (ha : ro a = some 11) (hn1 : n ≤ 1) (hT : (T.length : Int) ≤ 120) : Met l yX12_readBoth (gW yX12_readBoth cX12_readBoth 2 none) { frames := 4, cells := 0, slots := 0, locals := 92 } (zs_P D cA ro sz H0 (fun H => jV D cA ro H a T sg ∧ jG D cA ro H a n g h) [.ref a]) (rg_V D cA ro sz H0 gM a n T h (rbG T sg)) 0 0 (zy_fr sz) := by
  refine zy_ofW (cc := cX12_readBoth) (maxL := 2) (ret := none) (by decide +kernel) rfl ?_
  intro p e s m args below meth c s1 B hml hv
  obtain ⟨rfl, hh, hKn, hJ⟩ := hv
  have hx := B.exec
  have hb := B.bytes
  have hr := B.returns
  have hlk := B.notSynchronized
  have hts0 := atoms_spec (ws := gW yX12_readBoth cX12_readBoth 2 none) B.pre
  have h2 : ∀ w ∈ gT, w.before ([.ref a] : List Value).toArray s = true := fun w hw => hts0 w (List.mem_cons_of_mem _ hw)
  have hown : s.vm.findClass RX12 = some m.cls := findClass_of_methodNamed B.named
  have hl := lv_entry [.ref a] (n := 2) (Nat.le_of_ble_eq_true rfl)
  rw [lg_entry_eq]
  generalize (lg_sl [.ref a] ++ List.replicate (2 - (lg_sl [.ref a]).length) Slot.unset).toArray = ls at hl ⊢
  have hD := zD_all h2 hKn.1
  have hcl11 := fun (idx k : Nat) (t : zt_T) (h : (idx, 11, k) ∈ gfX12) (hk : fsX12[k]? = some t) => zf_clause (ro := ro) (ms := gM) h2 hown hKn.1 gfX12_ok (by decide +kernel) idx 11 k 11 0 fsX12 t h rfl hk
  have kp0 : zc_kept D RTg ro gM s.heap s.heap := zc_kept.refl
  obtain ⟨jv0, jg0⟩ := hJ
  have hu := jv0.2.2
  unfold vOK at hu
  have hbb := byI_bd T sg.1
  refine lv_aload_n hx hb (eX12_readBoth (0, .aload_n 0, 1) (List.mem_of_getElem? (i := 0) rfl)) rfl (lv_at hl 0 rfl) ?_
  refine ff_iconst hx hb (eX12_readBoth (1, .iconst 3, 1) (List.mem_of_getElem? (i := 1) rfl)) (by decide) (by decide) (fun v1 e1 => ?_)
  refine tz_rowV (As := [.int v1]) (st := []) (b := a) (C := RX12) (Ts := gT) hx hb hml hown h2 (fun _ h => h) (hX12_clearPart l D cA ro sz H0 a v1 3 T (sg) n g h ha hn1 hT (by omega)) ⟨rfl, rfl⟩ ⟨by decide, by decide⟩ ⟨by decide, by decide⟩ (tb_8 68 rfl rfl) (tb_1 12 rfl rfl) (tb_8 65 rfl rfl) (tb_8 67 rfl rfl) (tb_0 41 rfl rfl) (show yX12_clearPart.cls ≠ "java/lang/invoke/MethodHandle" ∧ yX12_clearPart.cls ≠ "java/lang/invoke/VarHandle" ∧ (parseMethodDescriptor yX12_clearPart.desc).map (fun d => d.parameters.length) = some 1 by decide +kernel) zs_blind (zs_ob hh ha (show RTg[11]? = some (0, 11, 0, fsX12) from rfl) (zCX12 hKn.1)) (fun U hU hW => ⟨rfl, by rw [hU]; exact hh.l0, zKb s U hW.alike hKn, by rw [hU]; exact ⟨jv0, jg0⟩⟩) hh.2.2.1 hl.1 (Nat.le_of_ble_eq_true rfl) (eX12_readBoth (2, .invokevirtual 384, 3) (List.mem_of_getElem? (i := 2) rfl)) (fun r2 s2 t2 lo2 g2 f2 l2 => ?_)
  obtain ⟨q2, z2, c2, jv2, jg2⟩ := f2
  cases q2
  rw [g2] at c2
  have hh2 : zh_ok D cA RTg ro sz H0 t2.heap lo2 := ⟨z2.1, z2.2.1, l2, z2.2.2.2⟩
  have kp2 := kp0.trans (c2.mono (ms' := gM) (by decide))
  generalize hx2 : ((clG 3, sg) : gsS) = x2 at jv2 jg2
  have hq2 : hdG T (x2.1, x2.2) = hdG T (clG 3, sg) := by rw [← hx2] <;> rfl
  have uu2 := jv2.2.2
  unfold vOK at uu2
  have bb2 := byI_bd T x2.2.1
  refine W.eq (g2 := F0 m 5 ls []) rfl ?_
  refine lv_aload_n hx hb (eX12_readBoth (5, .aload_n 0, 1) (List.mem_of_getElem? (i := 3) rfl)) rfl (lv_at hl 0 rfl) ?_
  refine ff_iconst hx hb (eX12_readBoth (6, .iconst 1, 1) (List.mem_of_getElem? (i := 4) rfl)) (by decide) (by decide) (fun v3 e3 => ?_)
  refine tz_rowV (As := [.int v3]) (st := []) (b := a) (C := RX12) (Ts := gT) hx hb hml hown h2 (fun _ h => h) (hX12_readDate l D cA ro sz H0 a v3 1 T (x2.2) n x2.1 h ha hn1 hT (by omega) (by decide)) ⟨rfl, rfl⟩ ⟨by decide, by decide⟩ ⟨by decide, by decide⟩ (tb_8 90 rfl rfl) (tb_1 12 rfl rfl) (tb_8 87 rfl rfl) (tb_8 89 rfl rfl) (tb_0 46 rfl rfl) (show yX12_readDate.cls ≠ "java/lang/invoke/MethodHandle" ∧ yX12_readDate.cls ≠ "java/lang/invoke/VarHandle" ∧ (parseMethodDescriptor yX12_readDate.desc).map (fun d => d.parameters.length) = some 1 by decide +kernel) zs_blind (zs_ob hh2 ha (show RTg[11]? = some (0, 11, 0, fsX12) from rfl) (zCX12 hKn.1)) (fun U hU hW => ⟨rfl, by rw [hU]; exact hh2.l0, zKb s U hW.alike hKn, by rw [hU]; exact ⟨jv2, jg2⟩⟩) hh2.2.2.1 hl.1 (Nat.le_of_ble_eq_true rfl) (eX12_readBoth (7, .invokevirtual 387, 3) (List.mem_of_getElem? (i := 5) rfl)) (fun r4 s4 t4 lo4 g4 f4 l4 => ?_)
  obtain ⟨q4, z4, c4, jv4, jg4, ⟨hv4, fh4, eh4⟩⟩ := f4
  cases q4
  rw [g4] at c4
  have hh4 : zh_ok D cA RTg ro sz H0 t4.heap lo4 := ⟨z4.1, z4.2.1, l4, z4.2.2.2⟩
  have kp4 := kp2.trans (c4.mono (ms' := gM) (by decide))
  generalize hx4 : drG T 1 (x2.1, x2.2) = x4 at jv4 jg4
  have uu4 := jv4.2.2
  unfold vOK at uu4
  have bb4 := byI_bd T x4.2.1
  refine W.eq (g2 := F0 m 10 ls []) rfl ?_
  refine lv_aload_n hx hb (eX12_readBoth (10, .aload_n 0, 1) (List.mem_of_getElem? (i := 6) rfl)) rfl (lv_at hl 0 rfl) ?_
  refine tz_get (r := 11) (k := 37) (t := (0, 0, 1)) hx hb hh4 ha rfl rfl (hcl11 365 37 (0, 0, 1) (by decide) rfl).1 fh4 (eX12_readBoth (11, .getfield 365, 3) (List.mem_of_getElem? (i := 7) rfl)) ?_
  refine lv_istore_n hx hb (eX12_readBoth (14, .istore_n 1, 1) (List.mem_of_getElem? (i := 8) rfl)) rfl hl (by decide) rfl (fun ls5 hl5 => ?_)
  refine lv_aload_n hx hb (eX12_readBoth (15, .aload_n 0, 1) (List.mem_of_getElem? (i := 9) rfl)) rfl (lv_at hl5 1 rfl) ?_
  refine ff_bipush hx hb (eX12_readBoth (16, .bipush 84, 2) (List.mem_of_getElem? (i := 10) rfl)) (by decide) (by decide) (fun v6 e6 => ?_)
  refine tz_rowV (As := [.int v6]) (st := []) (b := a) (C := RX12) (Ts := gT) hx hb hml hown h2 (fun _ h => h) (hX12_expect l D cA ro sz H0 a v6 84 T (x4.2) ha (by omega) (by decide)) ⟨rfl, rfl⟩ ⟨by decide, by decide⟩ ⟨by decide, by decide⟩ (tb_8 35 rfl rfl) (tb_1 12 rfl rfl) (tb_8 32 rfl rfl) (tb_8 34 rfl rfl) (tb_0 34 rfl rfl) (show yX12_expect.cls ≠ "java/lang/invoke/MethodHandle" ∧ yX12_expect.cls ≠ "java/lang/invoke/VarHandle" ∧ (parseMethodDescriptor yX12_expect.desc).map (fun d => d.parameters.length) = some 1 by decide +kernel) zs_blind (zs_ob hh4 ha (show RTg[11]? = some (0, 11, 0, fsX12) from rfl) (zCX12 hKn.1)) (fun U hU hW => ⟨rfl, by rw [hU]; exact hh4.l0, zKb s U hW.alike hKn, by rw [hU]; exact jv4⟩) hh4.2.2.1 hl5.1 (Nat.le_of_ble_eq_true rfl) (eX12_readBoth (18, .invokevirtual 325, 3) (List.mem_of_getElem? (i := 11) rfl)) (fun r7 s7 t7 lo7 g7 f7 l7 => ?_)
  obtain ⟨q7, z7, c7, jv7⟩ := f7
  cases q7
  rw [g7] at c7
  have hh7 : zh_ok D cA RTg ro sz H0 t7.heap lo7 := ⟨z7.1, z7.2.1, l7, z7.2.2.2⟩
  have kp7 := kp4.trans (c7.mono (ms' := gM) (by decide))
  generalize hx7 : exG T 84 x4.2 = x7 at jv7
  have uu7 := jv7.2.2
  unfold vOK at uu7
  have bb7 := byI_bd T x7.1
  have jg7 := jg4.kept ha c7 (by decide)
  have mf7_37 := (c7.1 a 11 37 11 0 fsX12 ha rfl (by decide) (by decide)).trans fh4
  refine W.eq (g2 := F0 m 21 ls5 []) rfl ?_
  refine lv_aload_n hx hb (eX12_readBoth (21, .aload_n 0, 1) (List.mem_of_getElem? (i := 12) rfl)) rfl (lv_at hl5 1 rfl) ?_
  refine lv_iload_n hx hb (eX12_readBoth (22, .iload_n 1, 1) (List.mem_of_getElem? (i := 13) rfl)) rfl (lv_at hl5 0 rfl) ?_
  refine ff_if_eq hx hb (eX12_readBoth (23, .ifCond .eq 7, 3) (List.mem_of_getElem? (i := 14) rfl)) (tgt := 30) rfl (fun c8 => ?_) (fun c8 => ?_)
  · have dh : ¬ hdG T (clG 3, sg) = 1 := by omega
    refine ff_iconst hx hb (eX12_readBoth (30, .iconst 2, 1) (List.mem_of_getElem? (i := 17) rfl)) (by decide) (by decide) (fun v9 e9 => ?_)
    refine tz_rowV (As := [.int v9]) (st := []) (b := a) (C := RX12) (Ts := gT) hx hb hml hown h2 (fun _ h => h) (hX12_readTime l D cA ro sz H0 a v9 2 T (x7) n x4.1 h ha hn1 hT (by omega)) ⟨rfl, rfl⟩ ⟨by decide, by decide⟩ ⟨by decide, by decide⟩ (tb_8 98 rfl rfl) (tb_1 12 rfl rfl) (tb_8 95 rfl rfl) (tb_8 97 rfl rfl) (tb_0 48 rfl rfl) (show yX12_readTime.cls ≠ "java/lang/invoke/MethodHandle" ∧ yX12_readTime.cls ≠ "java/lang/invoke/VarHandle" ∧ (parseMethodDescriptor yX12_readTime.desc).map (fun d => d.parameters.length) = some 1 by decide +kernel) zs_blind (zs_ob hh7 ha (show RTg[11]? = some (0, 11, 0, fsX12) from rfl) (zCX12 hKn.1)) (fun U hU hW => ⟨rfl, by rw [hU]; exact hh7.l0, zKb s U hW.alike hKn, by rw [hU]; exact ⟨jv7, jg7⟩⟩) hh7.2.2.1 hl5.1 (Nat.le_of_ble_eq_true rfl) (eX12_readBoth (31, .invokevirtual 391, 3) (List.mem_of_getElem? (i := 18) rfl)) (fun r10 s10 t10 lo10 g10 f10 l10 => ?_)
    obtain ⟨q10, z10, c10, jv10, jg10⟩ := f10
    cases q10
    rw [g10] at c10
    have hh10 : zh_ok D cA RTg ro sz H0 t10.heap lo10 := ⟨z10.1, z10.2.1, l10, z10.2.2.2⟩
    have kp10 := kp7.trans (c10.mono (ms' := gM) (by decide))
    generalize hx10 : trG T 2 (x4.1, x7) = x10 at jv10 jg10
    have uu10 := jv10.2.2
    unfold vOK at uu10
    have bb10 := byI_bd T x10.2.1
    refine W.eq (g2 := F0 m 34 ls5 []) rfl ?_
    have hfin : rbG T sg = (x10.1, x10.2) := by
      rw [← hx10, ← hx7, ← hx4, ← hx2]
      unfold rbG
      rw [if_neg dh]
      all_goals rfl
    exact W.vret hx hb hr (fun t ht hW => ⟨rfl, by rw [ht]; exact hh10.l0, by rw [ht]; exact kp10, by rw [ht, hfin]; exact jv10, by rw [ht, hfin]; exact jg10⟩) hh10.2.2.1 (eX12_readBoth (34, .return_, 1) (List.mem_of_getElem? (i := 19) rfl))
  · have dh : hdG T (clG 3, sg) = 1 := by have h9 := hdG_01 T (clG 3, sg); omega
    refine ff_iconst hx hb (eX12_readBoth (26, .iconst 1, 1) (List.mem_of_getElem? (i := 15) rfl)) (by decide) (by decide) (fun v11 e11 => ?_)
    refine lv_goto hx hb (eX12_readBoth (27, .goto 4, 3) (List.mem_of_getElem? (i := 16) rfl)) (tgt := 31) rfl ?_
    refine tz_rowV (As := [.int v11]) (st := []) (b := a) (C := RX12) (Ts := gT) hx hb hml hown h2 (fun _ h => h) (hX12_readTime l D cA ro sz H0 a v11 1 T (x7) n x4.1 h ha hn1 hT (by omega)) ⟨rfl, rfl⟩ ⟨by decide, by decide⟩ ⟨by decide, by decide⟩ (tb_8 98 rfl rfl) (tb_1 12 rfl rfl) (tb_8 95 rfl rfl) (tb_8 97 rfl rfl) (tb_0 48 rfl rfl) (show yX12_readTime.cls ≠ "java/lang/invoke/MethodHandle" ∧ yX12_readTime.cls ≠ "java/lang/invoke/VarHandle" ∧ (parseMethodDescriptor yX12_readTime.desc).map (fun d => d.parameters.length) = some 1 by decide +kernel) zs_blind (zs_ob hh7 ha (show RTg[11]? = some (0, 11, 0, fsX12) from rfl) (zCX12 hKn.1)) (fun U hU hW => ⟨rfl, by rw [hU]; exact hh7.l0, zKb s U hW.alike hKn, by rw [hU]; exact ⟨jv7, jg7⟩⟩) hh7.2.2.1 hl5.1 (Nat.le_of_ble_eq_true rfl) (eX12_readBoth (31, .invokevirtual 391, 3) (List.mem_of_getElem? (i := 18) rfl)) (fun r12 s12 t12 lo12 g12 f12 l12 => ?_)
    obtain ⟨q12, z12, c12, jv12, jg12⟩ := f12
    cases q12
    rw [g12] at c12
    have hh12 : zh_ok D cA RTg ro sz H0 t12.heap lo12 := ⟨z12.1, z12.2.1, l12, z12.2.2.2⟩
    have kp12 := kp7.trans (c12.mono (ms' := gM) (by decide))
    generalize hx12 : trG T 1 (x4.1, x7) = x12 at jv12 jg12
    have uu12 := jv12.2.2
    unfold vOK at uu12
    have bb12 := byI_bd T x12.2.1
    refine W.eq (g2 := F0 m 34 ls5 []) rfl ?_
    have hfin : rbG T sg = (x12.1, x12.2) := by
      rw [← hx12, ← hx7, ← hx4, ← hx2]
      unfold rbG
      rw [if_pos dh]
      all_goals rfl
    exact W.vret hx hb hr (fun t ht hW => ⟨rfl, by rw [ht]; exact hh12.l0, by rw [ht]; exact kp12, by rw [ht, hfin]; exact jv12, by rw [ht, hfin]; exact jg12⟩) hh12.2.2.1 (eX12_readBoth (34, .return_, 1) (List.mem_of_getElem? (i := 19) rfl))
