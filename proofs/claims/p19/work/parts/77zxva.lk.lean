set_option maxRecDepth 100000 in
set_option maxHeartbeats 4000000 in
theorem hX12_offsetOfPart (l : Launch) (D : va_G) (cA : Nat → ClassId) (ro : Nat → Option Nat) (sz : Nat) (H0 : Heap) (a : Nat)  (n : Nat) (g h : fN) (ha : ro a = some 11) (hn1 : n ≤ 1) (hgB : gBq g) : Met l yX12_offsetOfPart (gW yX12_offsetOfPart cX12_offsetOfPart 3 (some .long)) { frames := 1, cells := 0, slots := 0, locals := 21 } (zs_P D cA ro sz H0 (fun H => jG D cA ro H a n g h) [.ref a]) (fun _ st oc t => t.heap = st.heap ∧ ∃ r : Int64, oc = .returned (some (.long r)) ∧ r.toInt = oqF g) 0 0 (zy_fr sz) := by
  refine zy_ofW (cc := cX12_offsetOfPart) (maxL := 3) (ret := (some .long)) (by decide +kernel) rfl ?_
  intro p e s m args below meth c s1 B hml hv
  obtain ⟨rfl, hh, hKn, hJ⟩ := hv
  have hx := B.exec
  have hb := B.bytes
  have hr := B.returns
  have hlk := B.notSynchronized
  have hts0 := atoms_spec (ws := gW yX12_offsetOfPart cX12_offsetOfPart 3 (some .long)) B.pre
  have h2 : ∀ w ∈ gT, w.before ([.ref a] : List Value).toArray s = true := fun w hw => hts0 w (List.mem_cons_of_mem _ hw)
  have hown : s.vm.findClass RX12 = some m.cls := findClass_of_methodNamed B.named
  have hl := lv_entry [.ref a] (n := 3) (Nat.le_of_ble_eq_true rfl)
  rw [lg_entry_eq]
  generalize (lg_sl [.ref a] ++ List.replicate (3 - (lg_sl [.ref a]).length) Slot.unset).toArray = ls at hl ⊢
  have hD := zD_all h2 hKn.1
  have hcl11 := fun (idx k : Nat) (t : zt_T) (h : (idx, 11, k) ∈ gfX12) (hk : fsX12[k]? = some t) => zf_clause (ro := ro) (ms := []) h2 hown hKn.1 gfX12_ok (by decide +kernel) idx 11 k 11 0 fsX12 t h rfl hk
  have kp0 : zc_kept D RTg ro [] s.heap s.heap := zc_kept.refl
  have hw18 := hgB.1 18 (by decide)
  have hw20 := hgB.1 20 (by decide)
  refine ff_ldc2 (n := 60) hx hb hown h2 (clX12_ok 178 60 (List.mem_of_getElem? (i := 20) rfl)) (eX12_offsetOfPart (0, .ldc2_w 178, 3) (List.mem_of_getElem? (i := 0) rfl)) (fun v1 e1 => ?_)
  refine lv_aload_n hx hb (eX12_offsetOfPart (3, .aload_n 0, 1) (List.mem_of_getElem? (i := 1) rfl)) rfl (lv_at hl 0 rfl) ?_
  refine ff_bipush hx hb (eX12_offsetOfPart (4, .bipush 18, 2) (List.mem_of_getElem? (i := 2) rfl)) (by decide) (by decide) (fun v2 e2 => ?_)
  refine tz_rowV (As := [.int v2]) (st := [.long v1]) (b := a) (C := RX12) (Ts := gT) hx hb hml hown h2 (fun _ h => h) (hX12_get l D cA ro sz H0 a v2 18 n g h ha hn1 (by omega) (by decide)) ⟨rfl, rfl⟩ ⟨by decide, by decide⟩ ⟨by decide, by decide⟩ (tb_8 94 rfl rfl) (tb_1 12 rfl rfl) (tb_8 91 rfl rfl) (tb_8 93 rfl rfl) (tb_0 47 rfl rfl) (show yX12_get.cls ≠ "java/lang/invoke/MethodHandle" ∧ yX12_get.cls ≠ "java/lang/invoke/VarHandle" ∧ (parseMethodDescriptor yX12_get.desc).map (fun d => d.parameters.length) = some 1 by decide +kernel) zs_blind (zs_ob hh ha (show RTg[11]? = some (0, 11, 0, fsX12) from rfl) (zCX12 hKn.1)) (fun U hU hW => ⟨rfl, by rw [hU]; exact hh.l0, zKb s U hW.alike hKn, by rw [hU]; exact hJ⟩) hh.2.2.1 hl.1 (Nat.le_of_ble_eq_true rfl) (eX12_offsetOfPart (6, .invokevirtual 361, 3) (List.mem_of_getElem? (i := 3) rfl)) (fun r3 s3 t3 lo3 g3 f3 l3 => ?_)
  obtain ⟨z3, v3, q3, e3⟩ := f3
  cases q3
  rw [z3, g3]
  have hh3 : zh_ok D cA RTg ro sz H0 s.heap lo3 := ⟨hh.1, hh.2.1, l3, hh.2.2.2⟩
  refine W.eq (g2 := F0 m 9 ls [.long v3, .long v1]) rfl ?_
  refine ff_lmulL hx hb (eX12_offsetOfPart (9, .lmul, 1) (List.mem_of_getElem? (i := 4) rfl)) (e1) (by omega) (by omega) (fun v4 e4 => ?_)
  refine lv_aload_n hx hb (eX12_offsetOfPart (10, .aload_n 0, 1) (List.mem_of_getElem? (i := 5) rfl)) rfl (lv_at hl 0 rfl) ?_
  refine ff_bipush hx hb (eX12_offsetOfPart (11, .bipush 20, 2) (List.mem_of_getElem? (i := 6) rfl)) (by decide) (by decide) (fun v5 e5 => ?_)
  refine tz_rowV (As := [.int v5]) (st := [.long v4]) (b := a) (C := RX12) (Ts := gT) hx hb hml hown h2 (fun _ h => h) (hX12_get l D cA ro sz H0 a v5 20 n g h ha hn1 (by omega) (by decide)) ⟨rfl, rfl⟩ ⟨by decide, by decide⟩ ⟨by decide, by decide⟩ (tb_8 94 rfl rfl) (tb_1 12 rfl rfl) (tb_8 91 rfl rfl) (tb_8 93 rfl rfl) (tb_0 47 rfl rfl) (show yX12_get.cls ≠ "java/lang/invoke/MethodHandle" ∧ yX12_get.cls ≠ "java/lang/invoke/VarHandle" ∧ (parseMethodDescriptor yX12_get.desc).map (fun d => d.parameters.length) = some 1 by decide +kernel) zs_blind (zs_ob hh3 ha (show RTg[11]? = some (0, 11, 0, fsX12) from rfl) (zCX12 hKn.1)) (fun U hU hW => ⟨rfl, by rw [hU]; exact hh3.l0, zKb s U hW.alike hKn, by rw [hU]; exact hJ⟩) hh3.2.2.1 hl.1 (Nat.le_of_ble_eq_true rfl) (eX12_offsetOfPart (13, .invokevirtual 361, 3) (List.mem_of_getElem? (i := 7) rfl)) (fun r6 s6 t6 lo6 g6 f6 l6 => ?_)
  obtain ⟨z6, v6, q6, e6⟩ := f6
  cases q6
  rw [z6, g6]
  have hh6 : zh_ok D cA RTg ro sz H0 s.heap lo6 := ⟨hh3.1, hh3.2.1, l6, hh3.2.2.2⟩
  refine W.eq (g2 := F0 m 16 ls [.long v6, .long v4]) rfl ?_
  refine ff_ladd hx hb (eX12_offsetOfPart (16, .ladd, 1) (List.mem_of_getElem? (i := 8) rfl)) (by omega) (by omega) (fun v7 e7 => ?_)
  refine lv_lstore_n hx hb (eX12_offsetOfPart (17, .lstore_n 1, 1) (List.mem_of_getElem? (i := 9) rfl)) rfl hl (by decide) rfl (fun ls8 hl8 => ?_)
  refine lv_aload_n hx hb (eX12_offsetOfPart (18, .aload_n 0, 1) (List.mem_of_getElem? (i := 10) rfl)) rfl (lv_at hl8 1 rfl) ?_
  refine ff_bipush hx hb (eX12_offsetOfPart (19, .bipush 17, 2) (List.mem_of_getElem? (i := 11) rfl)) (by decide) (by decide) (fun v9 e9 => ?_)
  refine tz_rowV (As := [.int v9]) (st := []) (b := a) (C := RX12) (Ts := gT) hx hb hml hown h2 (fun _ h => h) (hX12_get l D cA ro sz H0 a v9 17 n g h ha hn1 (by omega) (by decide)) ⟨rfl, rfl⟩ ⟨by decide, by decide⟩ ⟨by decide, by decide⟩ (tb_8 94 rfl rfl) (tb_1 12 rfl rfl) (tb_8 91 rfl rfl) (tb_8 93 rfl rfl) (tb_0 47 rfl rfl) (show yX12_get.cls ≠ "java/lang/invoke/MethodHandle" ∧ yX12_get.cls ≠ "java/lang/invoke/VarHandle" ∧ (parseMethodDescriptor yX12_get.desc).map (fun d => d.parameters.length) = some 1 by decide +kernel) zs_blind (zs_ob hh6 ha (show RTg[11]? = some (0, 11, 0, fsX12) from rfl) (zCX12 hKn.1)) (fun U hU hW => ⟨rfl, by rw [hU]; exact hh6.l0, zKb s U hW.alike hKn, by rw [hU]; exact hJ⟩) hh6.2.2.1 hl8.1 (Nat.le_of_ble_eq_true rfl) (eX12_offsetOfPart (21, .invokevirtual 361, 3) (List.mem_of_getElem? (i := 12) rfl)) (fun r10 s10 t10 lo10 g10 f10 l10 => ?_)
  obtain ⟨z10, v10, q10, e10⟩ := f10
  cases q10
  rw [z10, g10]
  have hh10 : zh_ok D cA RTg ro sz H0 s.heap lo10 := ⟨hh6.1, hh6.2.1, l10, hh6.2.2.2⟩
  refine W.eq (g2 := F0 m 24 ls8 [.long v10]) rfl ?_
  refine ff_ldc2 (n := 2) hx hb hown h2 (clX12_ok 105 2 (List.mem_of_getElem? (i := 7) rfl)) (eX12_offsetOfPart (24, .ldc2_w 105, 3) (List.mem_of_getElem? (i := 13) rfl)) (fun v11 e11 => ?_)
  refine ff_lcmp hx hb (eX12_offsetOfPart (27, .lcmp, 1) (List.mem_of_getElem? (i := 14) rfl)) (fun v12 e12 => ?_)
  refine ff_if_ne hx hb (eX12_offsetOfPart (28, .ifCond .ne 23, 3) (List.mem_of_getElem? (i := 15) rfl)) (tgt := 51) rfl (fun c13 => ?_) (fun c13 => ?_)
  · skip
    refine ff_lconst hx hb (eX12_offsetOfPart (51, .lconst 0, 1) (List.mem_of_getElem? (i := 27) rfl)) rfl (fun v14 e14 => ?_)
    exact W.lret hx hb hr (fun t ht hW => ⟨ht, _, rfl, by unfold oqF; first | (rw [if_pos (show g 17 = 2 by omega), if_pos (show g 22 = 1 by omega)]; omega) | (rw [if_pos (show g 17 = 2 by omega), if_neg (show ¬ g 22 = 1 by omega)]; omega) | (rw [if_neg (show ¬ g 17 = 2 by omega)]; omega)⟩) hh10.2.2.1 (eX12_offsetOfPart (52, .lreturn, 1) (List.mem_of_getElem? (i := 28) rfl))
  · skip
    refine lv_aload_n hx hb (eX12_offsetOfPart (31, .aload_n 0, 1) (List.mem_of_getElem? (i := 16) rfl)) rfl (lv_at hl8 1 rfl) ?_
    refine ff_bipush hx hb (eX12_offsetOfPart (32, .bipush 22, 2) (List.mem_of_getElem? (i := 17) rfl)) (by decide) (by decide) (fun v15 e15 => ?_)
    refine tz_rowV (As := [.int v15]) (st := []) (b := a) (C := RX12) (Ts := gT) hx hb hml hown h2 (fun _ h => h) (hX12_get l D cA ro sz H0 a v15 22 n g h ha hn1 (by omega) (by decide)) ⟨rfl, rfl⟩ ⟨by decide, by decide⟩ ⟨by decide, by decide⟩ (tb_8 94 rfl rfl) (tb_1 12 rfl rfl) (tb_8 91 rfl rfl) (tb_8 93 rfl rfl) (tb_0 47 rfl rfl) (show yX12_get.cls ≠ "java/lang/invoke/MethodHandle" ∧ yX12_get.cls ≠ "java/lang/invoke/VarHandle" ∧ (parseMethodDescriptor yX12_get.desc).map (fun d => d.parameters.length) = some 1 by decide +kernel) zs_blind (zs_ob hh10 ha (show RTg[11]? = some (0, 11, 0, fsX12) from rfl) (zCX12 hKn.1)) (fun U hU hW => ⟨rfl, by rw [hU]; exact hh10.l0, zKb s U hW.alike hKn, by rw [hU]; exact hJ⟩) hh10.2.2.1 hl8.1 (Nat.le_of_ble_eq_true rfl) (eX12_offsetOfPart (34, .invokevirtual 361, 3) (List.mem_of_getElem? (i := 18) rfl)) (fun r16 s16 t16 lo16 g16 f16 l16 => ?_)
    obtain ⟨z16, v16, q16, e16⟩ := f16
    cases q16
    rw [z16, g16]
    have hh16 : zh_ok D cA RTg ro sz H0 s.heap lo16 := ⟨hh10.1, hh10.2.1, l16, hh10.2.2.2⟩
    refine W.eq (g2 := F0 m 37 ls8 [.long v16]) rfl ?_
    refine ff_lconst hx hb (eX12_offsetOfPart (37, .lconst 1, 1) (List.mem_of_getElem? (i := 19) rfl)) rfl (fun v17 e17 => ?_)
    refine ff_lcmp hx hb (eX12_offsetOfPart (38, .lcmp, 1) (List.mem_of_getElem? (i := 20) rfl)) (fun v18 e18 => ?_)
    refine ff_if_ne hx hb (eX12_offsetOfPart (39, .ifCond .ne 8, 3) (List.mem_of_getElem? (i := 21) rfl)) (tgt := 47) rfl (fun c19 => ?_) (fun c19 => ?_)
    · skip
      refine lv_lload_n hx hb (eX12_offsetOfPart (47, .lload_n 1, 1) (List.mem_of_getElem? (i := 25) rfl)) rfl (lv_at hl8 0 rfl) ?_
      refine lv_goto hx hb (eX12_offsetOfPart (48, .goto 4, 3) (List.mem_of_getElem? (i := 26) rfl)) (tgt := 52) rfl ?_
      exact W.lret hx hb hr (fun t ht hW => ⟨ht, _, rfl, by unfold oqF; first | (rw [if_pos (show g 17 = 2 by omega), if_pos (show g 22 = 1 by omega)]; omega) | (rw [if_pos (show g 17 = 2 by omega), if_neg (show ¬ g 22 = 1 by omega)]; omega) | (rw [if_neg (show ¬ g 17 = 2 by omega)]; omega)⟩) hh16.2.2.1 (eX12_offsetOfPart (52, .lreturn, 1) (List.mem_of_getElem? (i := 28) rfl))
    · skip
      refine lv_lload_n hx hb (eX12_offsetOfPart (42, .lload_n 1, 1) (List.mem_of_getElem? (i := 22) rfl)) rfl (lv_at hl8 0 rfl) ?_
      refine ff_lneg hx hb (eX12_offsetOfPart (43, .lneg, 1) (List.mem_of_getElem? (i := 23) rfl)) (by omega) (by omega) (fun v20 e20 => ?_)
      refine lv_goto hx hb (eX12_offsetOfPart (44, .goto 8, 3) (List.mem_of_getElem? (i := 24) rfl)) (tgt := 52) rfl ?_
      exact W.lret hx hb hr (fun t ht hW => ⟨ht, _, rfl, by unfold oqF; first | (rw [if_pos (show g 17 = 2 by omega), if_pos (show g 22 = 1 by omega)]; omega) | (rw [if_pos (show g 17 = 2 by omega), if_neg (show ¬ g 22 = 1 by omega)]; omega) | (rw [if_neg (show ¬ g 17 = 2 by omega)]; omega)⟩) hh16.2.2.1 (eX12_offsetOfPart (52, .lreturn, 1) (List.mem_of_getElem? (i := 28) rfl))
theorem oq_bd {g : fN} (h : gBq g) : -61000000000 ≤ oqF g ∧ oqF g ≤ 61000000000 := by
  have a := h.1 18 (by decide)
  have b := h.1 20 (by decide)
  unfold oqF
  (repeat' split) <;> omega
set_option maxRecDepth 100000 in
set_option maxHeartbeats 4000000 in
theorem hX12_lookAtTime (l : Launch) (D : va_G) (cA : Nat → ClassId) (ro : Nat → Option Nat) (sz : Nat) (H0 : Heap) (a : Nat)  (L : List Int) (hd dy : Int) (hvv : Int32) (dv : Int64) (T : List Int) (sg : uS) (n : Nat) (g h : fN) (ha : ro a = some 11) (hn1 : n ≤ 1) (hT : (T.length : Int) ≤ 120) (hgB : gBq g) (hhv : hvv.toInt = hd) (hdv : dv.toInt = dy) (hhd : hd = 0 ∨ hd = 1) (hdyh : hd = 1 → -365961662 ≤ dy ∧ dy ≤ 364522971) : Met l yX12_lookAtTime (gW yX12_lookAtTime cX12_lookAtTime 13 none) { frames := 2, cells := 0, slots := 0, locals := 49 } (zs_P D cA ro sz H0 (fun H => jV D cA ro H a T sg ∧ jG D cA ro H a n g h ∧ jR D cA ro H a L ∧ zh_f D H a 11 38 = .long dv ∧ zh_f D H a 11 39 = .int hvv) [.ref a]) (fun _ st oc t => oc = .returned none ∧ zh_ok D cA RTg ro sz H0 t.heap [] ∧ zc_kept D RTg ro vM st.heap t.heap ∧ jV D cA ro t.heap a T (sg.1, sg.2.1, ltB L g hd dy sg.2.2) ∧ jG D cA ro t.heap a n g h ∧ jR D cA ro t.heap a L) 0 0 (zy_fr sz) := by
  refine zy_ofW (cc := cX12_lookAtTime) (maxL := 13) (ret := none) (by decide +kernel) rfl ?_
  intro p e s m args below meth c s1 B hml hv
  obtain ⟨rfl, hh, hKn, hJ⟩ := hv
  have hx := B.exec
  have hb := B.bytes
  have hr := B.returns
  have hlk := B.notSynchronized
  have hts0 := atoms_spec (ws := gW yX12_lookAtTime cX12_lookAtTime 13 none) B.pre
  have h2 : ∀ w ∈ gT, w.before ([.ref a] : List Value).toArray s = true := fun w hw => hts0 w (List.mem_cons_of_mem _ hw)
  have hown : s.vm.findClass RX12 = some m.cls := findClass_of_methodNamed B.named
  have hl := lv_entry [.ref a] (n := 13) (Nat.le_of_ble_eq_true rfl)
  rw [lg_entry_eq]
  generalize (lg_sl [.ref a] ++ List.replicate (13 - (lg_sl [.ref a]).length) Slot.unset).toArray = ls at hl ⊢
  have hD := zD_all h2 hKn.1
  have hcl11 := fun (idx k : Nat) (t : zt_T) (h : (idx, 11, k) ∈ gfX12) (hk : fsX12[k]? = some t) => zf_clause (ro := ro) (ms := vM) h2 hown hKn.1 gfX12_ok (by decide +kernel) idx 11 k 11 0 fsX12 t h rfl hk
  have kp0 : zc_kept D RTg ro vM s.heap s.heap := zc_kept.refl
  obtain ⟨jv0, jg0, jr0, f38, f39⟩ := hJ
  have hu := jv0.2.2
  unfold vOK at hu
  have hbb := byI_bd T sg.1
  have hw1 := hgB.1 1 (by decide)
  have hw8 := hgB.1 8 (by decide)
  have hw9 := hgB.1 9 (by decide)
  have hw10 := hgB.1 10 (by decide)
  have hw11 := hgB.1 11 (by decide)
  have hw12 := hgB.1 12 (by decide)
  have hw13 := hgB.1 13 (by decide)
  have hw14 := hgB.1 14 (by decide)
  have hw16 := hgB.1 16 (by decide)
  have hw17 := hgB.1 17 (by decide)
  have hw18 := hgB.1 18 (by decide)
  have hw19 := hgB.1 19 (by decide)
  have hw20 := hgB.1 20 (by decide)
  have hw21 := hgB.1 21 (by decide)
  have hw22 := hgB.1 22 (by decide)
  have hoq := oq_bd hgB
  have jn290 : ∀ (gj : uS) (hq mq sq : Int64) (gz : Int32) (ls : Array Slot) (H : Heap) (lo0 : List Loc), zh_ok D cA RTg ro sz H0 H lo0 → zc_kept D RTg ro vM s.heap H → jV D cA ro H a T gj → jG D cA ro H a n g h → jR D cA ro H a L → zh_f D H a 11 38 = .long dv → zh_f D H a 11 39 = .int hvv → hq.toInt = g 9 → mq.toInt = g 11 → sq.toInt = g 13 → gj.1 = sg.1 → gj.2.1 = sg.2.1 → ((gz.toInt = 1 ∧ (g 17 ≠ 2 ∨ (g 18 < 24 ∧ g 20 < 60))) ∨ (gz.toInt = 0 ∧ ¬ (g 17 ≠ 2 ∨ (g 18 < 24 ∧ g 20 < 60)))) → lt5 L g hd dy gj.2.2 = ltB L g hd dy sg.2.2 → lv_has ls 13 [(9, .int gz), (1, .long hq), (3, .long mq), (5, .long sq), (0, .ref a)] → W p l e (headSpec (gW yX12_lookAtTime cX12_lookAtTime 13 none) { frames := 2, cells := 0, slots := 0, locals := 49 }).room s m ([.ref a] : List Value).toArray below meth c H lo0 0 0 (MQ below (fun _ st oc t => oc = .returned none ∧ zh_ok D cA RTg ro sz H0 t.heap [] ∧ zc_kept D RTg ro vM st.heap t.heap ∧ jV D cA ro t.heap a T (sg.1, sg.2.1, ltB L g hd dy sg.2.2) ∧ jG D cA ro t.heap a n g h ∧ jR D cA ro t.heap a L) ([.ref a] : List Value).toArray s 0 0 (zy_fr sz)) (F0 m 290 ls []) := by
    intro gj hq mq sq gz ls H lo0 hh0 kpl jl jgl jrl f38 f39 hhq hmq hsq ha1 ha2 hgz htot hl
    have hul := jl.2.2
    unfold vOK at hul
    have hbj := byI_bd T gj.1
    refine lv_lload hx hb (eX12_lookAtTime (290, .lload 5, 2) (List.mem_of_getElem? (i := 149) rfl)) (lv_at hl 3 rfl) ?_
    refine ff_ldc2 (n := 60) hx hb hown h2 (clX12_ok 178 60 (List.mem_of_getElem? (i := 20) rfl)) (eX12_lookAtTime (292, .ldc2_w 178, 3) (List.mem_of_getElem? (i := 150) rfl)) (fun v1 e1 => ?_)
    refine ff_lcmp hx hb (eX12_lookAtTime (295, .lcmp, 1) (List.mem_of_getElem? (i := 151) rfl)) (fun v2 e2 => ?_)
    refine ff_if_le hx hb (eX12_lookAtTime (296, .ifCond .le 17, 3) (List.mem_of_getElem? (i := 152) rfl)) (tgt := 313) rfl (fun c3 => ?_) (fun c3 => ?_)
    · skip
      refine lv_lload hx hb (eX12_lookAtTime (313, .lload 5, 2) (List.mem_of_getElem? (i := 160) rfl)) (lv_at hl 3 rfl) ?_
      refine ff_ldc2 (n := 60) hx hb hown h2 (clX12_ok 178 60 (List.mem_of_getElem? (i := 20) rfl)) (eX12_lookAtTime (315, .ldc2_w 178, 3) (List.mem_of_getElem? (i := 161) rfl)) (fun v4 e4 => ?_)
      refine ff_lcmp hx hb (eX12_lookAtTime (318, .lcmp, 1) (List.mem_of_getElem? (i := 162) rfl)) (fun v5 e5 => ?_)
      refine ff_if_ne hx hb (eX12_lookAtTime (319, .ifCond .ne 109, 3) (List.mem_of_getElem? (i := 163) rfl)) (tgt := 428) rfl (fun c6 => ?_) (fun c6 => ?_)
      · skip
        have d7 : ¬ (60 < g 13 ∨ (g 13 = 60 ∧ ¬ ltSix L g hd dy)) := by (intro q9; rcases q9 with q9 | q9; omega; exact absurd q9.1 (by omega))
        have hfin : ((sg.1, sg.2.1, ltB L g hd dy sg.2.2) : uS) = gj := by rw [← htot, ← ha1, ← ha2]; simp only [lt5, if_neg d7] <;> rfl
        exact W.vret hx hb hr (fun t ht hW => ⟨rfl, by rw [ht]; exact hh0.l0, by rw [ht]; exact kpl, by rw [ht, hfin]; exact jl, by rw [ht]; exact jgl, by rw [ht]; exact jrl⟩) hh0.2.2.1 (eX12_lookAtTime (428, .return_, 1) (List.mem_of_getElem? (i := 218) rfl))
      · skip
        refine lv_aload_n hx hb (eX12_lookAtTime (322, .aload_n 0, 1) (List.mem_of_getElem? (i := 164) rfl)) rfl (lv_at hl 4 rfl) ?_
        refine tz_get (r := 11) (k := 39) (t := (0, 0, 1)) hx hb hh0 ha rfl rfl (hcl11 404 39 (0, 0, 1) (by decide) rfl).1 f39 (eX12_lookAtTime (323, .getfield 404, 3) (List.mem_of_getElem? (i := 165) rfl)) ?_
        refine ff_if_eq hx hb (eX12_lookAtTime (326, .ifCond .eq 28, 3) (List.mem_of_getElem? (i := 166) rfl)) (tgt := 354) rfl (fun c8 => ?_) (fun c8 => ?_)
        · skip
          refine ff_iconst hx hb (eX12_lookAtTime (354, .iconst 0, 1) (List.mem_of_getElem? (i := 179) rfl)) (by decide) (by decide) (fun v9 e9 => ?_)
          refine lv_istore hx hb (eX12_lookAtTime (355, .istore 10, 2) (List.mem_of_getElem? (i := 180) rfl)) hl (by decide) rfl (fun ls10 hl10 => ?_)
          refine lv_iload hx hb (eX12_lookAtTime (357, .iload 10, 2) (List.mem_of_getElem? (i := 181) rfl)) (lv_at hl10 0 rfl) ?_
          refine ff_if_eq hx hb (eX12_lookAtTime (359, .ifCond .eq 53, 3) (List.mem_of_getElem? (i := 182) rfl)) (tgt := 412) rfl (fun c11 => ?_) (fun c11 => (by exfalso; omega))
          refine lv_iload hx hb (eX12_lookAtTime (412, .iload 10, 2) (List.mem_of_getElem? (i := 210) rfl)) (lv_at hl10 0 rfl) ?_
          refine ff_if_ne hx hb (eX12_lookAtTime (414, .ifCond .ne 14, 3) (List.mem_of_getElem? (i := 211) rfl)) (tgt := 428) rfl (fun c12 => (by exfalso; omega)) (fun c12 => ?_)
          have d13 : 60 < g 13 ∨ (g 13 = 60 ∧ ¬ ltSix L g hd dy) := Or.inr ⟨by omega, fun q9 => by have q8 := q9.1; have q7 := q9.2.1; have q6 := q9.2.2; omega⟩
          refine lv_aload_n hx hb (eX12_lookAtTime (417, .aload_n 0, 1) (List.mem_of_getElem? (i := 212) rfl)) rfl (lv_at hl10 5 rfl) ?_
          refine lv_aload_n hx hb (eX12_lookAtTime (418, .aload_n 0, 1) (List.mem_of_getElem? (i := 213) rfl)) rfl (lv_at hl10 5 rfl) ?_
          refine ff_bipush hx hb (eX12_lookAtTime (419, .bipush 14, 2) (List.mem_of_getElem? (i := 214) rfl)) (by decide) (by decide) (fun v14 e14 => ?_)
          refine tz_rowV (As := [.int v14]) (st := [.ref a]) (b := a) (C := RX12) (Ts := gT) hx hb hml hown h2 (fun _ h => h) (hX12_get l D cA ro sz H0 a v14 14 n g h ha hn1 (by omega) (by decide)) ⟨rfl, rfl⟩ ⟨by decide, by decide⟩ ⟨by decide, by decide⟩ (tb_8 94 rfl rfl) (tb_1 12 rfl rfl) (tb_8 91 rfl rfl) (tb_8 93 rfl rfl) (tb_0 47 rfl rfl) (show yX12_get.cls ≠ "java/lang/invoke/MethodHandle" ∧ yX12_get.cls ≠ "java/lang/invoke/VarHandle" ∧ (parseMethodDescriptor yX12_get.desc).map (fun d => d.parameters.length) = some 1 by decide +kernel) zs_blind (zs_ob hh0 ha (show RTg[11]? = some (0, 11, 0, fsX12) from rfl) (zCX12 hKn.1)) (fun U hU hW => ⟨rfl, by rw [hU]; exact hh0.l0, zKb s U hW.alike hKn, by rw [hU]; exact jgl⟩) hh0.2.2.1 hl10.1 (Nat.le_of_ble_eq_true rfl) (eX12_lookAtTime (421, .invokevirtual 361, 3) (List.mem_of_getElem? (i := 215) rfl)) (fun r15 s15 t15 lo15 g15 f15 l15 => ?_)
          obtain ⟨z15, v15, q15, e15⟩ := f15
          cases q15
          rw [z15, g15]
          have hh15 : zh_ok D cA RTg ro sz H0 H lo15 := ⟨hh0.1, hh0.2.1, l15, hh0.2.2.2⟩
          refine W.eq (g2 := F0 m 424 ls10 [.long v15, .ref a]) rfl ?_
          refine ff_l2i hx hb (eX12_lookAtTime (424, .l2i, 1) (List.mem_of_getElem? (i := 216) rfl)) (by omega) (by omega) (fun v16 e16 => ?_)
          refine tz_rowV (As := [.int v16]) (st := []) (b := a) (C := RX12) (Ts := gT) hx hb hml hown h2 (fun _ h => h) (hX12_bad l D cA ro sz H0 a v16 (g 14) T (gj) ha (by omega)) ⟨rfl, rfl⟩ ⟨by decide, by decide⟩ ⟨by decide, by decide⟩ (tb_8 47 rfl rfl) (tb_1 12 rfl rfl) (tb_8 44 rfl rfl) (tb_8 46 rfl rfl) (tb_0 37 rfl rfl) (show yX12_bad.cls ≠ "java/lang/invoke/MethodHandle" ∧ yX12_bad.cls ≠ "java/lang/invoke/VarHandle" ∧ (parseMethodDescriptor yX12_bad.desc).map (fun d => d.parameters.length) = some 1 by decide +kernel) zs_blind (zs_ob hh15 ha (show RTg[11]? = some (0, 11, 0, fsX12) from rfl) (zCX12 hKn.1)) (fun U hU hW => ⟨rfl, by rw [hU]; exact hh15.l0, zKb s U hW.alike hKn, by rw [hU]; exact jl⟩) hh15.2.2.1 hl10.1 (Nat.le_of_ble_eq_true rfl) (eX12_lookAtTime (425, .invokevirtual 335, 3) (List.mem_of_getElem? (i := 217) rfl)) (fun r17 s17 t17 lo17 g17 f17 l17 => ?_)
          obtain ⟨q17, z17, c17, jv17⟩ := f17
          cases q17
          rw [g17] at c17
          have hh17 : zh_ok D cA RTg ro sz H0 t17.heap lo17 := ⟨z17.1, z17.2.1, l17, z17.2.2.2⟩
          have kp17 := kpl.trans (c17.mono (ms' := vM) (by decide))
          generalize hx17 : bdG (g 14) gj = x17 at jv17
          have uu17 := jv17.2.2
          unfold vOK at uu17
          have bb17 := byI_bd T x17.1
          have jg17 := jgl.kept ha c17 (by decide)
          have mf17_38 := (c17.1 a 11 38 11 0 fsX12 ha rfl (by decide) (by decide)).trans f38
          have mf17_39 := (c17.1 a 11 39 11 0 fsX12 ha rfl (by decide) (by decide)).trans f39
          have jr17 := jrl.kept ha c17 (by decide)
          refine W.eq (g2 := F0 m 428 ls10 []) rfl ?_
          have hfin : ((sg.1, sg.2.1, ltB L g hd dy sg.2.2) : uS) = x17 := by rw [← htot, ← ha1, ← ha2]; rw [← hx17]; simp only [lt5, if_pos d13] <;> rfl
          exact W.vret hx hb hr (fun t ht hW => ⟨rfl, by rw [ht]; exact hh17.l0, by rw [ht]; exact kp17, by rw [ht, hfin]; exact jv17, by rw [ht]; exact jg17, by rw [ht]; exact jr17⟩) hh17.2.2.1 (eX12_lookAtTime (428, .return_, 1) (List.mem_of_getElem? (i := 218) rfl))
        · skip
          refine lv_iload hx hb (eX12_lookAtTime (329, .iload 9, 2) (List.mem_of_getElem? (i := 167) rfl)) (lv_at hl 0 rfl) ?_
          refine ff_if_eq hx hb (eX12_lookAtTime (331, .ifCond .eq 23, 3) (List.mem_of_getElem? (i := 168) rfl)) (tgt := 354) rfl (fun c18 => ?_) (fun c18 => ?_)
          · skip
            refine ff_iconst hx hb (eX12_lookAtTime (354, .iconst 0, 1) (List.mem_of_getElem? (i := 179) rfl)) (by decide) (by decide) (fun v19 e19 => ?_)
            refine lv_istore hx hb (eX12_lookAtTime (355, .istore 10, 2) (List.mem_of_getElem? (i := 180) rfl)) hl (by decide) rfl (fun ls20 hl20 => ?_)
            refine lv_iload hx hb (eX12_lookAtTime (357, .iload 10, 2) (List.mem_of_getElem? (i := 181) rfl)) (lv_at hl20 0 rfl) ?_
            refine ff_if_eq hx hb (eX12_lookAtTime (359, .ifCond .eq 53, 3) (List.mem_of_getElem? (i := 182) rfl)) (tgt := 412) rfl (fun c21 => ?_) (fun c21 => (by exfalso; omega))
            refine lv_iload hx hb (eX12_lookAtTime (412, .iload 10, 2) (List.mem_of_getElem? (i := 210) rfl)) (lv_at hl20 0 rfl) ?_
            refine ff_if_ne hx hb (eX12_lookAtTime (414, .ifCond .ne 14, 3) (List.mem_of_getElem? (i := 211) rfl)) (tgt := 428) rfl (fun c22 => (by exfalso; omega)) (fun c22 => ?_)
            have d23 : 60 < g 13 ∨ (g 13 = 60 ∧ ¬ ltSix L g hd dy) := Or.inr ⟨by omega, fun q9 => by have q8 := q9.1; have q7 := q9.2.1; have q6 := q9.2.2; omega⟩
            refine lv_aload_n hx hb (eX12_lookAtTime (417, .aload_n 0, 1) (List.mem_of_getElem? (i := 212) rfl)) rfl (lv_at hl20 5 rfl) ?_
            refine lv_aload_n hx hb (eX12_lookAtTime (418, .aload_n 0, 1) (List.mem_of_getElem? (i := 213) rfl)) rfl (lv_at hl20 5 rfl) ?_
            refine ff_bipush hx hb (eX12_lookAtTime (419, .bipush 14, 2) (List.mem_of_getElem? (i := 214) rfl)) (by decide) (by decide) (fun v24 e24 => ?_)
            refine tz_rowV (As := [.int v24]) (st := [.ref a]) (b := a) (C := RX12) (Ts := gT) hx hb hml hown h2 (fun _ h => h) (hX12_get l D cA ro sz H0 a v24 14 n g h ha hn1 (by omega) (by decide)) ⟨rfl, rfl⟩ ⟨by decide, by decide⟩ ⟨by decide, by decide⟩ (tb_8 94 rfl rfl) (tb_1 12 rfl rfl) (tb_8 91 rfl rfl) (tb_8 93 rfl rfl) (tb_0 47 rfl rfl) (show yX12_get.cls ≠ "java/lang/invoke/MethodHandle" ∧ yX12_get.cls ≠ "java/lang/invoke/VarHandle" ∧ (parseMethodDescriptor yX12_get.desc).map (fun d => d.parameters.length) = some 1 by decide +kernel) zs_blind (zs_ob hh0 ha (show RTg[11]? = some (0, 11, 0, fsX12) from rfl) (zCX12 hKn.1)) (fun U hU hW => ⟨rfl, by rw [hU]; exact hh0.l0, zKb s U hW.alike hKn, by rw [hU]; exact jgl⟩) hh0.2.2.1 hl20.1 (Nat.le_of_ble_eq_true rfl) (eX12_lookAtTime (421, .invokevirtual 361, 3) (List.mem_of_getElem? (i := 215) rfl)) (fun r25 s25 t25 lo25 g25 f25 l25 => ?_)
            obtain ⟨z25, v25, q25, e25⟩ := f25
            cases q25
            rw [z25, g25]
            have hh25 : zh_ok D cA RTg ro sz H0 H lo25 := ⟨hh0.1, hh0.2.1, l25, hh0.2.2.2⟩
            refine W.eq (g2 := F0 m 424 ls20 [.long v25, .ref a]) rfl ?_
            refine ff_l2i hx hb (eX12_lookAtTime (424, .l2i, 1) (List.mem_of_getElem? (i := 216) rfl)) (by omega) (by omega) (fun v26 e26 => ?_)
            refine tz_rowV (As := [.int v26]) (st := []) (b := a) (C := RX12) (Ts := gT) hx hb hml hown h2 (fun _ h => h) (hX12_bad l D cA ro sz H0 a v26 (g 14) T (gj) ha (by omega)) ⟨rfl, rfl⟩ ⟨by decide, by decide⟩ ⟨by decide, by decide⟩ (tb_8 47 rfl rfl) (tb_1 12 rfl rfl) (tb_8 44 rfl rfl) (tb_8 46 rfl rfl) (tb_0 37 rfl rfl) (show yX12_bad.cls ≠ "java/lang/invoke/MethodHandle" ∧ yX12_bad.cls ≠ "java/lang/invoke/VarHandle" ∧ (parseMethodDescriptor yX12_bad.desc).map (fun d => d.parameters.length) = some 1 by decide +kernel) zs_blind (zs_ob hh25 ha (show RTg[11]? = some (0, 11, 0, fsX12) from rfl) (zCX12 hKn.1)) (fun U hU hW => ⟨rfl, by rw [hU]; exact hh25.l0, zKb s U hW.alike hKn, by rw [hU]; exact jl⟩) hh25.2.2.1 hl20.1 (Nat.le_of_ble_eq_true rfl) (eX12_lookAtTime (425, .invokevirtual 335, 3) (List.mem_of_getElem? (i := 217) rfl)) (fun r27 s27 t27 lo27 g27 f27 l27 => ?_)
            obtain ⟨q27, z27, c27, jv27⟩ := f27
            cases q27
            rw [g27] at c27
            have hh27 : zh_ok D cA RTg ro sz H0 t27.heap lo27 := ⟨z27.1, z27.2.1, l27, z27.2.2.2⟩
            have kp27 := kpl.trans (c27.mono (ms' := vM) (by decide))
            generalize hx27 : bdG (g 14) gj = x27 at jv27
            have uu27 := jv27.2.2
            unfold vOK at uu27
            have bb27 := byI_bd T x27.1
            have jg27 := jgl.kept ha c27 (by decide)
            have mf27_38 := (c27.1 a 11 38 11 0 fsX12 ha rfl (by decide) (by decide)).trans f38
            have mf27_39 := (c27.1 a 11 39 11 0 fsX12 ha rfl (by decide) (by decide)).trans f39
            have jr27 := jrl.kept ha c27 (by decide)
            refine W.eq (g2 := F0 m 428 ls20 []) rfl ?_
            have hfin : ((sg.1, sg.2.1, ltB L g hd dy sg.2.2) : uS) = x27 := by rw [← htot, ← ha1, ← ha2]; rw [← hx27]; simp only [lt5, if_pos d23] <;> rfl
            exact W.vret hx hb hr (fun t ht hW => ⟨rfl, by rw [ht]; exact hh27.l0, by rw [ht]; exact kp27, by rw [ht, hfin]; exact jv27, by rw [ht]; exact jg27, by rw [ht]; exact jr27⟩) hh27.2.2.1 (eX12_lookAtTime (428, .return_, 1) (List.mem_of_getElem? (i := 218) rfl))
          · skip
            refine lv_lload_n hx hb (eX12_lookAtTime (334, .lload_n 1, 1) (List.mem_of_getElem? (i := 169) rfl)) rfl (lv_at hl 1 rfl) ?_
            refine ff_ldc2 (n := 24) hx hb hown h2 (clX12_ok 412 24 (List.mem_of_getElem? (i := 35) rfl)) (eX12_lookAtTime (335, .ldc2_w 412, 3) (List.mem_of_getElem? (i := 170) rfl)) (fun v28 e28 => ?_)
            refine ff_lcmp hx hb (eX12_lookAtTime (338, .lcmp, 1) (List.mem_of_getElem? (i := 171) rfl)) (fun v29 e29 => ?_)
            refine ff_if_ge hx hb (eX12_lookAtTime (339, .ifCond .ge 15, 3) (List.mem_of_getElem? (i := 172) rfl)) (tgt := 354) rfl (fun c30 => ?_) (fun c30 => ?_)
            · skip
              refine ff_iconst hx hb (eX12_lookAtTime (354, .iconst 0, 1) (List.mem_of_getElem? (i := 179) rfl)) (by decide) (by decide) (fun v31 e31 => ?_)
              refine lv_istore hx hb (eX12_lookAtTime (355, .istore 10, 2) (List.mem_of_getElem? (i := 180) rfl)) hl (by decide) rfl (fun ls32 hl32 => ?_)
              refine lv_iload hx hb (eX12_lookAtTime (357, .iload 10, 2) (List.mem_of_getElem? (i := 181) rfl)) (lv_at hl32 0 rfl) ?_
              refine ff_if_eq hx hb (eX12_lookAtTime (359, .ifCond .eq 53, 3) (List.mem_of_getElem? (i := 182) rfl)) (tgt := 412) rfl (fun c33 => ?_) (fun c33 => (by exfalso; omega))
              refine lv_iload hx hb (eX12_lookAtTime (412, .iload 10, 2) (List.mem_of_getElem? (i := 210) rfl)) (lv_at hl32 0 rfl) ?_
              refine ff_if_ne hx hb (eX12_lookAtTime (414, .ifCond .ne 14, 3) (List.mem_of_getElem? (i := 211) rfl)) (tgt := 428) rfl (fun c34 => (by exfalso; omega)) (fun c34 => ?_)
              have d35 : 60 < g 13 ∨ (g 13 = 60 ∧ ¬ ltSix L g hd dy) := Or.inr ⟨by omega, fun q9 => by have q8 := q9.1; have q7 := q9.2.1; have q6 := q9.2.2; omega⟩
              refine lv_aload_n hx hb (eX12_lookAtTime (417, .aload_n 0, 1) (List.mem_of_getElem? (i := 212) rfl)) rfl (lv_at hl32 5 rfl) ?_
              refine lv_aload_n hx hb (eX12_lookAtTime (418, .aload_n 0, 1) (List.mem_of_getElem? (i := 213) rfl)) rfl (lv_at hl32 5 rfl) ?_
              refine ff_bipush hx hb (eX12_lookAtTime (419, .bipush 14, 2) (List.mem_of_getElem? (i := 214) rfl)) (by decide) (by decide) (fun v36 e36 => ?_)
              refine tz_rowV (As := [.int v36]) (st := [.ref a]) (b := a) (C := RX12) (Ts := gT) hx hb hml hown h2 (fun _ h => h) (hX12_get l D cA ro sz H0 a v36 14 n g h ha hn1 (by omega) (by decide)) ⟨rfl, rfl⟩ ⟨by decide, by decide⟩ ⟨by decide, by decide⟩ (tb_8 94 rfl rfl) (tb_1 12 rfl rfl) (tb_8 91 rfl rfl) (tb_8 93 rfl rfl) (tb_0 47 rfl rfl) (show yX12_get.cls ≠ "java/lang/invoke/MethodHandle" ∧ yX12_get.cls ≠ "java/lang/invoke/VarHandle" ∧ (parseMethodDescriptor yX12_get.desc).map (fun d => d.parameters.length) = some 1 by decide +kernel) zs_blind (zs_ob hh0 ha (show RTg[11]? = some (0, 11, 0, fsX12) from rfl) (zCX12 hKn.1)) (fun U hU hW => ⟨rfl, by rw [hU]; exact hh0.l0, zKb s U hW.alike hKn, by rw [hU]; exact jgl⟩) hh0.2.2.1 hl32.1 (Nat.le_of_ble_eq_true rfl) (eX12_lookAtTime (421, .invokevirtual 361, 3) (List.mem_of_getElem? (i := 215) rfl)) (fun r37 s37 t37 lo37 g37 f37 l37 => ?_)
              obtain ⟨z37, v37, q37, e37⟩ := f37
              cases q37
              rw [z37, g37]
              have hh37 : zh_ok D cA RTg ro sz H0 H lo37 := ⟨hh0.1, hh0.2.1, l37, hh0.2.2.2⟩
              refine W.eq (g2 := F0 m 424 ls32 [.long v37, .ref a]) rfl ?_
              refine ff_l2i hx hb (eX12_lookAtTime (424, .l2i, 1) (List.mem_of_getElem? (i := 216) rfl)) (by omega) (by omega) (fun v38 e38 => ?_)
              refine tz_rowV (As := [.int v38]) (st := []) (b := a) (C := RX12) (Ts := gT) hx hb hml hown h2 (fun _ h => h) (hX12_bad l D cA ro sz H0 a v38 (g 14) T (gj) ha (by omega)) ⟨rfl, rfl⟩ ⟨by decide, by decide⟩ ⟨by decide, by decide⟩ (tb_8 47 rfl rfl) (tb_1 12 rfl rfl) (tb_8 44 rfl rfl) (tb_8 46 rfl rfl) (tb_0 37 rfl rfl) (show yX12_bad.cls ≠ "java/lang/invoke/MethodHandle" ∧ yX12_bad.cls ≠ "java/lang/invoke/VarHandle" ∧ (parseMethodDescriptor yX12_bad.desc).map (fun d => d.parameters.length) = some 1 by decide +kernel) zs_blind (zs_ob hh37 ha (show RTg[11]? = some (0, 11, 0, fsX12) from rfl) (zCX12 hKn.1)) (fun U hU hW => ⟨rfl, by rw [hU]; exact hh37.l0, zKb s U hW.alike hKn, by rw [hU]; exact jl⟩) hh37.2.2.1 hl32.1 (Nat.le_of_ble_eq_true rfl) (eX12_lookAtTime (425, .invokevirtual 335, 3) (List.mem_of_getElem? (i := 217) rfl)) (fun r39 s39 t39 lo39 g39 f39 l39 => ?_)
              obtain ⟨q39, z39, c39, jv39⟩ := f39
              cases q39
              rw [g39] at c39
              have hh39 : zh_ok D cA RTg ro sz H0 t39.heap lo39 := ⟨z39.1, z39.2.1, l39, z39.2.2.2⟩
              have kp39 := kpl.trans (c39.mono (ms' := vM) (by decide))
              generalize hx39 : bdG (g 14) gj = x39 at jv39
              have uu39 := jv39.2.2
              unfold vOK at uu39
              have bb39 := byI_bd T x39.1
              have jg39 := jgl.kept ha c39 (by decide)
              have mf39_38 := (c39.1 a 11 38 11 0 fsX12 ha rfl (by decide) (by decide)).trans f38
              have mf39_39 := (c39.1 a 11 39 11 0 fsX12 ha rfl (by decide) (by decide)).trans f39
              have jr39 := jrl.kept ha c39 (by decide)
              refine W.eq (g2 := F0 m 428 ls32 []) rfl ?_
              have hfin : ((sg.1, sg.2.1, ltB L g hd dy sg.2.2) : uS) = x39 := by rw [← htot, ← ha1, ← ha2]; rw [← hx39]; simp only [lt5, if_pos d35] <;> rfl
              exact W.vret hx hb hr (fun t ht hW => ⟨rfl, by rw [ht]; exact hh39.l0, by rw [ht]; exact kp39, by rw [ht, hfin]; exact jv39, by rw [ht]; exact jg39, by rw [ht]; exact jr39⟩) hh39.2.2.1 (eX12_lookAtTime (428, .return_, 1) (List.mem_of_getElem? (i := 218) rfl))
            · skip
              refine lv_lload_n hx hb (eX12_lookAtTime (342, .lload_n 3, 1) (List.mem_of_getElem? (i := 173) rfl)) rfl (lv_at hl 2 rfl) ?_
              refine ff_ldc2 (n := 60) hx hb hown h2 (clX12_ok 178 60 (List.mem_of_getElem? (i := 20) rfl)) (eX12_lookAtTime (343, .ldc2_w 178, 3) (List.mem_of_getElem? (i := 174) rfl)) (fun v40 e40 => ?_)
              refine ff_lcmp hx hb (eX12_lookAtTime (346, .lcmp, 1) (List.mem_of_getElem? (i := 175) rfl)) (fun v41 e41 => ?_)
              refine ff_if_ge hx hb (eX12_lookAtTime (347, .ifCond .ge 7, 3) (List.mem_of_getElem? (i := 176) rfl)) (tgt := 354) rfl (fun c42 => ?_) (fun c42 => ?_)
              · skip
                refine ff_iconst hx hb (eX12_lookAtTime (354, .iconst 0, 1) (List.mem_of_getElem? (i := 179) rfl)) (by decide) (by decide) (fun v43 e43 => ?_)
                refine lv_istore hx hb (eX12_lookAtTime (355, .istore 10, 2) (List.mem_of_getElem? (i := 180) rfl)) hl (by decide) rfl (fun ls44 hl44 => ?_)
                refine lv_iload hx hb (eX12_lookAtTime (357, .iload 10, 2) (List.mem_of_getElem? (i := 181) rfl)) (lv_at hl44 0 rfl) ?_
                refine ff_if_eq hx hb (eX12_lookAtTime (359, .ifCond .eq 53, 3) (List.mem_of_getElem? (i := 182) rfl)) (tgt := 412) rfl (fun c45 => ?_) (fun c45 => (by exfalso; omega))
                refine lv_iload hx hb (eX12_lookAtTime (412, .iload 10, 2) (List.mem_of_getElem? (i := 210) rfl)) (lv_at hl44 0 rfl) ?_
                refine ff_if_ne hx hb (eX12_lookAtTime (414, .ifCond .ne 14, 3) (List.mem_of_getElem? (i := 211) rfl)) (tgt := 428) rfl (fun c46 => (by exfalso; omega)) (fun c46 => ?_)
                have d47 : 60 < g 13 ∨ (g 13 = 60 ∧ ¬ ltSix L g hd dy) := Or.inr ⟨by omega, fun q9 => by have q8 := q9.1; have q7 := q9.2.1; have q6 := q9.2.2; omega⟩
                refine lv_aload_n hx hb (eX12_lookAtTime (417, .aload_n 0, 1) (List.mem_of_getElem? (i := 212) rfl)) rfl (lv_at hl44 5 rfl) ?_
                refine lv_aload_n hx hb (eX12_lookAtTime (418, .aload_n 0, 1) (List.mem_of_getElem? (i := 213) rfl)) rfl (lv_at hl44 5 rfl) ?_
                refine ff_bipush hx hb (eX12_lookAtTime (419, .bipush 14, 2) (List.mem_of_getElem? (i := 214) rfl)) (by decide) (by decide) (fun v48 e48 => ?_)
                refine tz_rowV (As := [.int v48]) (st := [.ref a]) (b := a) (C := RX12) (Ts := gT) hx hb hml hown h2 (fun _ h => h) (hX12_get l D cA ro sz H0 a v48 14 n g h ha hn1 (by omega) (by decide)) ⟨rfl, rfl⟩ ⟨by decide, by decide⟩ ⟨by decide, by decide⟩ (tb_8 94 rfl rfl) (tb_1 12 rfl rfl) (tb_8 91 rfl rfl) (tb_8 93 rfl rfl) (tb_0 47 rfl rfl) (show yX12_get.cls ≠ "java/lang/invoke/MethodHandle" ∧ yX12_get.cls ≠ "java/lang/invoke/VarHandle" ∧ (parseMethodDescriptor yX12_get.desc).map (fun d => d.parameters.length) = some 1 by decide +kernel) zs_blind (zs_ob hh0 ha (show RTg[11]? = some (0, 11, 0, fsX12) from rfl) (zCX12 hKn.1)) (fun U hU hW => ⟨rfl, by rw [hU]; exact hh0.l0, zKb s U hW.alike hKn, by rw [hU]; exact jgl⟩) hh0.2.2.1 hl44.1 (Nat.le_of_ble_eq_true rfl) (eX12_lookAtTime (421, .invokevirtual 361, 3) (List.mem_of_getElem? (i := 215) rfl)) (fun r49 s49 t49 lo49 g49 f49 l49 => ?_)
                obtain ⟨z49, v49, q49, e49⟩ := f49
                cases q49
                rw [z49, g49]
                have hh49 : zh_ok D cA RTg ro sz H0 H lo49 := ⟨hh0.1, hh0.2.1, l49, hh0.2.2.2⟩
                refine W.eq (g2 := F0 m 424 ls44 [.long v49, .ref a]) rfl ?_
                refine ff_l2i hx hb (eX12_lookAtTime (424, .l2i, 1) (List.mem_of_getElem? (i := 216) rfl)) (by omega) (by omega) (fun v50 e50 => ?_)
                refine tz_rowV (As := [.int v50]) (st := []) (b := a) (C := RX12) (Ts := gT) hx hb hml hown h2 (fun _ h => h) (hX12_bad l D cA ro sz H0 a v50 (g 14) T (gj) ha (by omega)) ⟨rfl, rfl⟩ ⟨by decide, by decide⟩ ⟨by decide, by decide⟩ (tb_8 47 rfl rfl) (tb_1 12 rfl rfl) (tb_8 44 rfl rfl) (tb_8 46 rfl rfl) (tb_0 37 rfl rfl) (show yX12_bad.cls ≠ "java/lang/invoke/MethodHandle" ∧ yX12_bad.cls ≠ "java/lang/invoke/VarHandle" ∧ (parseMethodDescriptor yX12_bad.desc).map (fun d => d.parameters.length) = some 1 by decide +kernel) zs_blind (zs_ob hh49 ha (show RTg[11]? = some (0, 11, 0, fsX12) from rfl) (zCX12 hKn.1)) (fun U hU hW => ⟨rfl, by rw [hU]; exact hh49.l0, zKb s U hW.alike hKn, by rw [hU]; exact jl⟩) hh49.2.2.1 hl44.1 (Nat.le_of_ble_eq_true rfl) (eX12_lookAtTime (425, .invokevirtual 335, 3) (List.mem_of_getElem? (i := 217) rfl)) (fun r51 s51 t51 lo51 g51 f51 l51 => ?_)
                obtain ⟨q51, z51, c51, jv51⟩ := f51
                cases q51
                rw [g51] at c51
                have hh51 : zh_ok D cA RTg ro sz H0 t51.heap lo51 := ⟨z51.1, z51.2.1, l51, z51.2.2.2⟩
                have kp51 := kpl.trans (c51.mono (ms' := vM) (by decide))
                generalize hx51 : bdG (g 14) gj = x51 at jv51
                have uu51 := jv51.2.2
                unfold vOK at uu51
                have bb51 := byI_bd T x51.1
                have jg51 := jgl.kept ha c51 (by decide)
                have mf51_38 := (c51.1 a 11 38 11 0 fsX12 ha rfl (by decide) (by decide)).trans f38
                have mf51_39 := (c51.1 a 11 39 11 0 fsX12 ha rfl (by decide) (by decide)).trans f39
                have jr51 := jrl.kept ha c51 (by decide)
                refine W.eq (g2 := F0 m 428 ls44 []) rfl ?_
                have hfin : ((sg.1, sg.2.1, ltB L g hd dy sg.2.2) : uS) = x51 := by rw [← htot, ← ha1, ← ha2]; rw [← hx51]; simp only [lt5, if_pos d47] <;> rfl
                exact W.vret hx hb hr (fun t ht hW => ⟨rfl, by rw [ht]; exact hh51.l0, by rw [ht]; exact kp51, by rw [ht, hfin]; exact jv51, by rw [ht]; exact jg51, by rw [ht]; exact jr51⟩) hh51.2.2.1 (eX12_lookAtTime (428, .return_, 1) (List.mem_of_getElem? (i := 218) rfl))
              · skip
                refine ff_iconst hx hb (eX12_lookAtTime (350, .iconst 1, 1) (List.mem_of_getElem? (i := 177) rfl)) (by decide) (by decide) (fun v52 e52 => ?_)
                refine lv_goto hx hb (eX12_lookAtTime (351, .goto 4, 3) (List.mem_of_getElem? (i := 178) rfl)) (tgt := 355) rfl ?_
                refine lv_istore hx hb (eX12_lookAtTime (355, .istore 10, 2) (List.mem_of_getElem? (i := 180) rfl)) hl (by decide) rfl (fun ls53 hl53 => ?_)
                refine lv_iload hx hb (eX12_lookAtTime (357, .iload 10, 2) (List.mem_of_getElem? (i := 181) rfl)) (lv_at hl53 0 rfl) ?_
                refine ff_if_eq hx hb (eX12_lookAtTime (359, .ifCond .eq 53, 3) (List.mem_of_getElem? (i := 182) rfl)) (tgt := 412) rfl (fun c54 => (by exfalso; omega)) (fun c54 => ?_)
                refine lv_aload_n hx hb (eX12_lookAtTime (362, .aload_n 0, 1) (List.mem_of_getElem? (i := 183) rfl)) rfl (lv_at hl53 5 rfl) ?_
                refine tz_get (r := 11) (k := 38) (t := (1, (-9223372036854775808), 9223372036854775807)) hx hb hh0 ha rfl rfl (hcl11 407 38 (1, (-9223372036854775808), 9223372036854775807) (by decide) rfl).1 f38 (eX12_lookAtTime (363, .getfield 407, 3) (List.mem_of_getElem? (i := 184) rfl)) ?_
                refine ff_ldc2 (n := 1440) hx hb hown h2 (clX12_ok 180 1440 (List.mem_of_getElem? (i := 21) rfl)) (eX12_lookAtTime (366, .ldc2_w 180, 3) (List.mem_of_getElem? (i := 185) rfl)) (fun v55 e55 => ?_)
                have hdyb := hdyh (by omega)
                refine ff_lmulR hx hb (eX12_lookAtTime (369, .lmul, 1) (List.mem_of_getElem? (i := 186) rfl)) (e55) (by omega) (by omega) (fun v56 e56 => ?_)
                refine ff_ldc2 (n := 60) hx hb hown h2 (clX12_ok 178 60 (List.mem_of_getElem? (i := 20) rfl)) (eX12_lookAtTime (370, .ldc2_w 178, 3) (List.mem_of_getElem? (i := 187) rfl)) (fun v57 e57 => ?_)
                refine lv_lload_n hx hb (eX12_lookAtTime (373, .lload_n 1, 1) (List.mem_of_getElem? (i := 188) rfl)) rfl (lv_at hl53 2 rfl) ?_
                refine ff_lmulL hx hb (eX12_lookAtTime (374, .lmul, 1) (List.mem_of_getElem? (i := 189) rfl)) (e57) (by omega) (by omega) (fun v58 e58 => ?_)
                refine ff_ladd hx hb (eX12_lookAtTime (375, .ladd, 1) (List.mem_of_getElem? (i := 190) rfl)) (by omega) (by omega) (fun v59 e59 => ?_)
                refine lv_lload_n hx hb (eX12_lookAtTime (376, .lload_n 3, 1) (List.mem_of_getElem? (i := 191) rfl)) rfl (lv_at hl53 3 rfl) ?_
                refine ff_ladd hx hb (eX12_lookAtTime (377, .ladd, 1) (List.mem_of_getElem? (i := 192) rfl)) (by omega) (by omega) (fun v60 e60 => ?_)
                refine lv_aload_n hx hb (eX12_lookAtTime (378, .aload_n 0, 1) (List.mem_of_getElem? (i := 193) rfl)) rfl (lv_at hl53 5 rfl) ?_
                refine tz_rowV (As := []) (st := [.long v60]) (b := a) (C := RX12) (Ts := gT) hx hb hml hown h2 (fun _ h => h) (hX12_offsetOfPart l D cA ro sz H0 a n g h ha hn1 hgB) ⟨rfl, rfl⟩ ⟨by decide, by decide⟩ ⟨by decide, by decide⟩ (tb_8 129 rfl rfl) (tb_1 12 rfl rfl) (tb_8 126 rfl rfl) (tb_8 128 rfl rfl) (tb_0 54 rfl rfl) (show yX12_offsetOfPart.cls ≠ "java/lang/invoke/MethodHandle" ∧ yX12_offsetOfPart.cls ≠ "java/lang/invoke/VarHandle" ∧ (parseMethodDescriptor yX12_offsetOfPart.desc).map (fun d => d.parameters.length) = some 0 by decide +kernel) zs_blind (zs_ob hh0 ha (show RTg[11]? = some (0, 11, 0, fsX12) from rfl) (zCX12 hKn.1)) (fun U hU hW => ⟨rfl, by rw [hU]; exact hh0.l0, zKb s U hW.alike hKn, by rw [hU]; exact jgl⟩) hh0.2.2.1 hl53.1 (Nat.le_of_ble_eq_true rfl) (eX12_lookAtTime (379, .invokevirtual 418, 3) (List.mem_of_getElem? (i := 194) rfl)) (fun r61 s61 t61 lo61 g61 f61 l61 => ?_)
                obtain ⟨z61, v61, q61, e61⟩ := f61
                cases q61
                rw [z61, g61]
                have hh61 : zh_ok D cA RTg ro sz H0 H lo61 := ⟨hh0.1, hh0.2.1, l61, hh0.2.2.2⟩
                refine W.eq (g2 := F0 m 382 ls53 [.long v61, .long v60]) rfl ?_
                refine ff_lsub hx hb (eX12_lookAtTime (382, .lsub, 1) (List.mem_of_getElem? (i := 195) rfl)) (by omega) (by omega) (fun v62 e62 => ?_)
                have hoq := oq_bd hgB
                refine lv_lstore hx hb (eX12_lookAtTime (383, .lstore 11, 2) (List.mem_of_getElem? (i := 196) rfl)) hl53 (by decide) rfl (fun ls63 hl63 => ?_)
                have hmn : v62.toInt = dy * 1440 + 60 * g 9 + g 11 - oqF g := by omega
                refine lv_aload_n hx hb (eX12_lookAtTime (385, .aload_n 0, 1) (List.mem_of_getElem? (i := 197) rfl)) rfl (lv_at hl63 6 rfl) ?_
                refine lv_lload hx hb (eX12_lookAtTime (386, .lload 11, 2) (List.mem_of_getElem? (i := 198) rfl)) (lv_at hl63 0 rfl) ?_
                refine tz_rowV (As := [.long v62]) (st := []) (b := a) (C := RX12) (Ts := gT) hx hb hml hown h2 (fun _ h => h) (hX12_isMinute l D cA ro sz H0 a v62 L ha) ⟨rfl, rfl⟩ ⟨by decide, by decide⟩ ⟨by decide, by decide⟩ (tb_7 117 rfl rfl) (tb_1 12 rfl rfl) (tb_7 114 rfl rfl) (tb_7 116 rfl rfl) (tb_0 9 rfl rfl) (show yX12_isMinute.cls ≠ "java/lang/invoke/MethodHandle" ∧ yX12_isMinute.cls ≠ "java/lang/invoke/VarHandle" ∧ (parseMethodDescriptor yX12_isMinute.desc).map (fun d => d.parameters.length) = some 1 by decide +kernel) zs_blind (zs_ob hh61 ha (show RTg[11]? = some (0, 11, 0, fsX12) from rfl) (zCX12 hKn.1)) (fun U hU hW => ⟨rfl, by rw [hU]; exact hh61.l0, zKb s U hW.alike hKn, by rw [hU]; exact jrl⟩) hh61.2.2.1 hl63.1 (Nat.le_of_ble_eq_true rfl) (eX12_lookAtTime (388, .invokevirtual 201, 3) (List.mem_of_getElem? (i := 199) rfl)) (fun r64 s64 t64 lo64 g64 f64 l64 => ?_)
                obtain ⟨z64, v64, q64, e64⟩ := f64
                cases q64
                rw [z64, g64]
                have hh64 : zh_ok D cA RTg ro sz H0 H lo64 := ⟨hh61.1, hh61.2.1, l64, hh61.2.2.2⟩
                unfold mOK at e64
                refine W.eq (g2 := F0 m 391 ls63 [.int v64]) rfl ?_
                refine ff_if_eq hx hb (eX12_lookAtTime (391, .ifCond .eq 18, 3) (List.mem_of_getElem? (i := 200) rfl)) (tgt := 409) rfl (fun c65 => ?_) (fun c65 => ?_)
                · skip
                  refine ff_iconst hx hb (eX12_lookAtTime (409, .iconst 0, 1) (List.mem_of_getElem? (i := 208) rfl)) (by decide) (by decide) (fun v66 e66 => ?_)
                  refine lv_istore hx hb (eX12_lookAtTime (410, .istore 10, 2) (List.mem_of_getElem? (i := 209) rfl)) hl63 (by decide) rfl (fun ls67 hl67 => ?_)
                  refine lv_iload hx hb (eX12_lookAtTime (412, .iload 10, 2) (List.mem_of_getElem? (i := 210) rfl)) (lv_at hl67 0 rfl) ?_
                  refine ff_if_ne hx hb (eX12_lookAtTime (414, .ifCond .ne 14, 3) (List.mem_of_getElem? (i := 211) rfl)) (tgt := 428) rfl (fun c68 => (by exfalso; omega)) (fun c68 => ?_)
                  have d69 : 60 < g 13 ∨ (g 13 = 60 ∧ ¬ ltSix L g hd dy) := Or.inr ⟨by omega, fun q9 => by have q8 := q9.1; have q7 := q9.2.1; have q6 := q9.2.2; rw [← hmn] at q6; omega⟩
                  refine lv_aload_n hx hb (eX12_lookAtTime (417, .aload_n 0, 1) (List.mem_of_getElem? (i := 212) rfl)) rfl (lv_at hl67 6 rfl) ?_
                  refine lv_aload_n hx hb (eX12_lookAtTime (418, .aload_n 0, 1) (List.mem_of_getElem? (i := 213) rfl)) rfl (lv_at hl67 6 rfl) ?_
                  refine ff_bipush hx hb (eX12_lookAtTime (419, .bipush 14, 2) (List.mem_of_getElem? (i := 214) rfl)) (by decide) (by decide) (fun v70 e70 => ?_)
                  refine tz_rowV (As := [.int v70]) (st := [.ref a]) (b := a) (C := RX12) (Ts := gT) hx hb hml hown h2 (fun _ h => h) (hX12_get l D cA ro sz H0 a v70 14 n g h ha hn1 (by omega) (by decide)) ⟨rfl, rfl⟩ ⟨by decide, by decide⟩ ⟨by decide, by decide⟩ (tb_8 94 rfl rfl) (tb_1 12 rfl rfl) (tb_8 91 rfl rfl) (tb_8 93 rfl rfl) (tb_0 47 rfl rfl) (show yX12_get.cls ≠ "java/lang/invoke/MethodHandle" ∧ yX12_get.cls ≠ "java/lang/invoke/VarHandle" ∧ (parseMethodDescriptor yX12_get.desc).map (fun d => d.parameters.length) = some 1 by decide +kernel) zs_blind (zs_ob hh64 ha (show RTg[11]? = some (0, 11, 0, fsX12) from rfl) (zCX12 hKn.1)) (fun U hU hW => ⟨rfl, by rw [hU]; exact hh64.l0, zKb s U hW.alike hKn, by rw [hU]; exact jgl⟩) hh64.2.2.1 hl67.1 (Nat.le_of_ble_eq_true rfl) (eX12_lookAtTime (421, .invokevirtual 361, 3) (List.mem_of_getElem? (i := 215) rfl)) (fun r71 s71 t71 lo71 g71 f71 l71 => ?_)
                  obtain ⟨z71, v71, q71, e71⟩ := f71
                  cases q71
                  rw [z71, g71]
                  have hh71 : zh_ok D cA RTg ro sz H0 H lo71 := ⟨hh64.1, hh64.2.1, l71, hh64.2.2.2⟩
                  refine W.eq (g2 := F0 m 424 ls67 [.long v71, .ref a]) rfl ?_
                  refine ff_l2i hx hb (eX12_lookAtTime (424, .l2i, 1) (List.mem_of_getElem? (i := 216) rfl)) (by omega) (by omega) (fun v72 e72 => ?_)
                  refine tz_rowV (As := [.int v72]) (st := []) (b := a) (C := RX12) (Ts := gT) hx hb hml hown h2 (fun _ h => h) (hX12_bad l D cA ro sz H0 a v72 (g 14) T (gj) ha (by omega)) ⟨rfl, rfl⟩ ⟨by decide, by decide⟩ ⟨by decide, by decide⟩ (tb_8 47 rfl rfl) (tb_1 12 rfl rfl) (tb_8 44 rfl rfl) (tb_8 46 rfl rfl) (tb_0 37 rfl rfl) (show yX12_bad.cls ≠ "java/lang/invoke/MethodHandle" ∧ yX12_bad.cls ≠ "java/lang/invoke/VarHandle" ∧ (parseMethodDescriptor yX12_bad.desc).map (fun d => d.parameters.length) = some 1 by decide +kernel) zs_blind (zs_ob hh71 ha (show RTg[11]? = some (0, 11, 0, fsX12) from rfl) (zCX12 hKn.1)) (fun U hU hW => ⟨rfl, by rw [hU]; exact hh71.l0, zKb s U hW.alike hKn, by rw [hU]; exact jl⟩) hh71.2.2.1 hl67.1 (Nat.le_of_ble_eq_true rfl) (eX12_lookAtTime (425, .invokevirtual 335, 3) (List.mem_of_getElem? (i := 217) rfl)) (fun r73 s73 t73 lo73 g73 f73 l73 => ?_)
                  obtain ⟨q73, z73, c73, jv73⟩ := f73
                  cases q73
                  rw [g73] at c73
                  have hh73 : zh_ok D cA RTg ro sz H0 t73.heap lo73 := ⟨z73.1, z73.2.1, l73, z73.2.2.2⟩
                  have kp73 := kpl.trans (c73.mono (ms' := vM) (by decide))
                  generalize hx73 : bdG (g 14) gj = x73 at jv73
                  have uu73 := jv73.2.2
                  unfold vOK at uu73
                  have bb73 := byI_bd T x73.1
                  have jg73 := jgl.kept ha c73 (by decide)
                  have mf73_38 := (c73.1 a 11 38 11 0 fsX12 ha rfl (by decide) (by decide)).trans f38
                  have mf73_39 := (c73.1 a 11 39 11 0 fsX12 ha rfl (by decide) (by decide)).trans f39
                  have jr73 := jrl.kept ha c73 (by decide)
                  refine W.eq (g2 := F0 m 428 ls67 []) rfl ?_
                  have hfin : ((sg.1, sg.2.1, ltB L g hd dy sg.2.2) : uS) = x73 := by rw [← htot, ← ha1, ← ha2]; rw [← hx73]; simp only [lt5, if_pos d69] <;> rfl
                  exact W.vret hx hb hr (fun t ht hW => ⟨rfl, by rw [ht]; exact hh73.l0, by rw [ht]; exact kp73, by rw [ht, hfin]; exact jv73, by rw [ht]; exact jg73, by rw [ht]; exact jr73⟩) hh73.2.2.1 (eX12_lookAtTime (428, .return_, 1) (List.mem_of_getElem? (i := 218) rfl))
                · skip
                  refine lv_aload_n hx hb (eX12_lookAtTime (394, .aload_n 0, 1) (List.mem_of_getElem? (i := 201) rfl)) rfl (lv_at hl63 6 rfl) ?_
                  refine lv_lload hx hb (eX12_lookAtTime (395, .lload 11, 2) (List.mem_of_getElem? (i := 202) rfl)) (lv_at hl63 0 rfl) ?_
                  refine tz_rowV (As := [.long v62]) (st := []) (b := a) (C := RX12) (Ts := gT) hx hb hml hown h2 (fun _ h => h) (hX12_secondsOf l D cA ro sz H0 a v62 L ha (by omega) (by omega)) ⟨rfl, rfl⟩ ⟨by decide, by decide⟩ ⟨by decide, by decide⟩ (tb_7 123 rfl rfl) (tb_1 12 rfl rfl) (tb_7 120 rfl rfl) (tb_7 122 rfl rfl) (tb_0 10 rfl rfl) (show yX12_secondsOf.cls ≠ "java/lang/invoke/MethodHandle" ∧ yX12_secondsOf.cls ≠ "java/lang/invoke/VarHandle" ∧ (parseMethodDescriptor yX12_secondsOf.desc).map (fun d => d.parameters.length) = some 1 by decide +kernel) zs_blind (zs_ob hh64 ha (show RTg[11]? = some (0, 11, 0, fsX12) from rfl) (zCX12 hKn.1)) (fun U hU hW => ⟨rfl, by rw [hU]; exact hh64.l0, zKb s U hW.alike hKn, by rw [hU]; exact jrl⟩) hh64.2.2.1 hl63.1 (Nat.le_of_ble_eq_true rfl) (eX12_lookAtTime (397, .invokevirtual 204, 3) (List.mem_of_getElem? (i := 203) rfl)) (fun r74 s74 t74 lo74 g74 f74 l74 => ?_)
                  obtain ⟨z74, v74, q74, e74⟩ := f74
                  cases q74
                  rw [z74, g74]
                  have hh74 : zh_ok D cA RTg ro sz H0 H lo74 := ⟨hh64.1, hh64.2.1, l74, hh64.2.2.2⟩
                  have hls74 : (v74.toInt = 61 ∧ lsR L v62.toInt = 60) ∨ (v74.toInt = 60 ∧ lsR L v62.toInt = 59) := by rcases e74 with h9 | h9; (left; exact ⟨h9.1, if_pos h9.2⟩); (right; exact ⟨h9.1, if_neg h9.2⟩)
                  refine W.eq (g2 := F0 m 400 ls63 [.int v74]) rfl ?_
                  refine ff_bipush hx hb (eX12_lookAtTime (400, .bipush 61, 2) (List.mem_of_getElem? (i := 204) rfl)) (by decide) (by decide) (fun v75 e75 => ?_)
                  refine ff_icmp_ne hx hb (eX12_lookAtTime (402, .if_icmp .ne 7, 3) (List.mem_of_getElem? (i := 205) rfl)) (tgt := 409) rfl (fun c76 => ?_) (fun c76 => ?_)
                  · skip
                    refine ff_iconst hx hb (eX12_lookAtTime (409, .iconst 0, 1) (List.mem_of_getElem? (i := 208) rfl)) (by decide) (by decide) (fun v77 e77 => ?_)
                    refine lv_istore hx hb (eX12_lookAtTime (410, .istore 10, 2) (List.mem_of_getElem? (i := 209) rfl)) hl63 (by decide) rfl (fun ls78 hl78 => ?_)
                    refine lv_iload hx hb (eX12_lookAtTime (412, .iload 10, 2) (List.mem_of_getElem? (i := 210) rfl)) (lv_at hl78 0 rfl) ?_
                    refine ff_if_ne hx hb (eX12_lookAtTime (414, .ifCond .ne 14, 3) (List.mem_of_getElem? (i := 211) rfl)) (tgt := 428) rfl (fun c79 => (by exfalso; omega)) (fun c79 => ?_)
                    have d80 : 60 < g 13 ∨ (g 13 = 60 ∧ ¬ ltSix L g hd dy) := Or.inr ⟨by omega, fun q9 => by have q8 := q9.1; have q7 := q9.2.1; have q6 := q9.2.2; rw [← hmn] at q6; omega⟩
                    refine lv_aload_n hx hb (eX12_lookAtTime (417, .aload_n 0, 1) (List.mem_of_getElem? (i := 212) rfl)) rfl (lv_at hl78 6 rfl) ?_
                    refine lv_aload_n hx hb (eX12_lookAtTime (418, .aload_n 0, 1) (List.mem_of_getElem? (i := 213) rfl)) rfl (lv_at hl78 6 rfl) ?_
                    refine ff_bipush hx hb (eX12_lookAtTime (419, .bipush 14, 2) (List.mem_of_getElem? (i := 214) rfl)) (by decide) (by decide) (fun v81 e81 => ?_)
                    refine tz_rowV (As := [.int v81]) (st := [.ref a]) (b := a) (C := RX12) (Ts := gT) hx hb hml hown h2 (fun _ h => h) (hX12_get l D cA ro sz H0 a v81 14 n g h ha hn1 (by omega) (by decide)) ⟨rfl, rfl⟩ ⟨by decide, by decide⟩ ⟨by decide, by decide⟩ (tb_8 94 rfl rfl) (tb_1 12 rfl rfl) (tb_8 91 rfl rfl) (tb_8 93 rfl rfl) (tb_0 47 rfl rfl) (show yX12_get.cls ≠ "java/lang/invoke/MethodHandle" ∧ yX12_get.cls ≠ "java/lang/invoke/VarHandle" ∧ (parseMethodDescriptor yX12_get.desc).map (fun d => d.parameters.length) = some 1 by decide +kernel) zs_blind (zs_ob hh74 ha (show RTg[11]? = some (0, 11, 0, fsX12) from rfl) (zCX12 hKn.1)) (fun U hU hW => ⟨rfl, by rw [hU]; exact hh74.l0, zKb s U hW.alike hKn, by rw [hU]; exact jgl⟩) hh74.2.2.1 hl78.1 (Nat.le_of_ble_eq_true rfl) (eX12_lookAtTime (421, .invokevirtual 361, 3) (List.mem_of_getElem? (i := 215) rfl)) (fun r82 s82 t82 lo82 g82 f82 l82 => ?_)
                    obtain ⟨z82, v82, q82, e82⟩ := f82
                    cases q82
                    rw [z82, g82]
                    have hh82 : zh_ok D cA RTg ro sz H0 H lo82 := ⟨hh74.1, hh74.2.1, l82, hh74.2.2.2⟩
                    refine W.eq (g2 := F0 m 424 ls78 [.long v82, .ref a]) rfl ?_
                    refine ff_l2i hx hb (eX12_lookAtTime (424, .l2i, 1) (List.mem_of_getElem? (i := 216) rfl)) (by omega) (by omega) (fun v83 e83 => ?_)
                    refine tz_rowV (As := [.int v83]) (st := []) (b := a) (C := RX12) (Ts := gT) hx hb hml hown h2 (fun _ h => h) (hX12_bad l D cA ro sz H0 a v83 (g 14) T (gj) ha (by omega)) ⟨rfl, rfl⟩ ⟨by decide, by decide⟩ ⟨by decide, by decide⟩ (tb_8 47 rfl rfl) (tb_1 12 rfl rfl) (tb_8 44 rfl rfl) (tb_8 46 rfl rfl) (tb_0 37 rfl rfl) (show yX12_bad.cls ≠ "java/lang/invoke/MethodHandle" ∧ yX12_bad.cls ≠ "java/lang/invoke/VarHandle" ∧ (parseMethodDescriptor yX12_bad.desc).map (fun d => d.parameters.length) = some 1 by decide +kernel) zs_blind (zs_ob hh82 ha (show RTg[11]? = some (0, 11, 0, fsX12) from rfl) (zCX12 hKn.1)) (fun U hU hW => ⟨rfl, by rw [hU]; exact hh82.l0, zKb s U hW.alike hKn, by rw [hU]; exact jl⟩) hh82.2.2.1 hl78.1 (Nat.le_of_ble_eq_true rfl) (eX12_lookAtTime (425, .invokevirtual 335, 3) (List.mem_of_getElem? (i := 217) rfl)) (fun r84 s84 t84 lo84 g84 f84 l84 => ?_)
                    obtain ⟨q84, z84, c84, jv84⟩ := f84
                    cases q84
                    rw [g84] at c84
                    have hh84 : zh_ok D cA RTg ro sz H0 t84.heap lo84 := ⟨z84.1, z84.2.1, l84, z84.2.2.2⟩
                    have kp84 := kpl.trans (c84.mono (ms' := vM) (by decide))
                    generalize hx84 : bdG (g 14) gj = x84 at jv84
                    have uu84 := jv84.2.2
                    unfold vOK at uu84
                    have bb84 := byI_bd T x84.1
                    have jg84 := jgl.kept ha c84 (by decide)
                    have mf84_38 := (c84.1 a 11 38 11 0 fsX12 ha rfl (by decide) (by decide)).trans f38
                    have mf84_39 := (c84.1 a 11 39 11 0 fsX12 ha rfl (by decide) (by decide)).trans f39
                    have jr84 := jrl.kept ha c84 (by decide)
                    refine W.eq (g2 := F0 m 428 ls78 []) rfl ?_
                    have hfin : ((sg.1, sg.2.1, ltB L g hd dy sg.2.2) : uS) = x84 := by rw [← htot, ← ha1, ← ha2]; rw [← hx84]; simp only [lt5, if_pos d80] <;> rfl
                    exact W.vret hx hb hr (fun t ht hW => ⟨rfl, by rw [ht]; exact hh84.l0, by rw [ht]; exact kp84, by rw [ht, hfin]; exact jv84, by rw [ht]; exact jg84, by rw [ht]; exact jr84⟩) hh84.2.2.1 (eX12_lookAtTime (428, .return_, 1) (List.mem_of_getElem? (i := 218) rfl))
                  · skip
                    refine ff_iconst hx hb (eX12_lookAtTime (405, .iconst 1, 1) (List.mem_of_getElem? (i := 206) rfl)) (by decide) (by decide) (fun v85 e85 => ?_)
                    refine lv_goto hx hb (eX12_lookAtTime (406, .goto 4, 3) (List.mem_of_getElem? (i := 207) rfl)) (tgt := 410) rfl ?_
                    refine lv_istore hx hb (eX12_lookAtTime (410, .istore 10, 2) (List.mem_of_getElem? (i := 209) rfl)) hl63 (by decide) rfl (fun ls86 hl86 => ?_)
                    refine lv_iload hx hb (eX12_lookAtTime (412, .iload 10, 2) (List.mem_of_getElem? (i := 210) rfl)) (lv_at hl86 0 rfl) ?_
                    refine ff_if_ne hx hb (eX12_lookAtTime (414, .ifCond .ne 14, 3) (List.mem_of_getElem? (i := 211) rfl)) (tgt := 428) rfl (fun c87 => ?_) (fun c87 => (by exfalso; omega))
                    have d88 : ¬ (60 < g 13 ∨ (g 13 = 60 ∧ ¬ ltSix L g hd dy)) := by intro q9; rcases q9 with q9 | q9; (omega); (exact q9.2 ⟨⟨by omega, by omega, by omega, by omega⟩, ⟨by omega, by omega⟩, by rw [← hmn]; omega⟩)
                    have hfin : ((sg.1, sg.2.1, ltB L g hd dy sg.2.2) : uS) = gj := by rw [← htot, ← ha1, ← ha2]; simp only [lt5, if_neg d88] <;> rfl
                    exact W.vret hx hb hr (fun t ht hW => ⟨rfl, by rw [ht]; exact hh74.l0, by rw [ht]; exact kpl, by rw [ht, hfin]; exact jl, by rw [ht]; exact jgl, by rw [ht]; exact jrl⟩) hh74.2.2.1 (eX12_lookAtTime (428, .return_, 1) (List.mem_of_getElem? (i := 218) rfl))
    · skip
      have d89 : 60 < g 13 ∨ (g 13 = 60 ∧ ¬ ltSix L g hd dy) := by omega
      refine lv_aload_n hx hb (eX12_lookAtTime (299, .aload_n 0, 1) (List.mem_of_getElem? (i := 153) rfl)) rfl (lv_at hl 4 rfl) ?_
      refine lv_aload_n hx hb (eX12_lookAtTime (300, .aload_n 0, 1) (List.mem_of_getElem? (i := 154) rfl)) rfl (lv_at hl 4 rfl) ?_
      refine ff_bipush hx hb (eX12_lookAtTime (301, .bipush 14, 2) (List.mem_of_getElem? (i := 155) rfl)) (by decide) (by decide) (fun v90 e90 => ?_)
      refine tz_rowV (As := [.int v90]) (st := [.ref a]) (b := a) (C := RX12) (Ts := gT) hx hb hml hown h2 (fun _ h => h) (hX12_get l D cA ro sz H0 a v90 14 n g h ha hn1 (by omega) (by decide)) ⟨rfl, rfl⟩ ⟨by decide, by decide⟩ ⟨by decide, by decide⟩ (tb_8 94 rfl rfl) (tb_1 12 rfl rfl) (tb_8 91 rfl rfl) (tb_8 93 rfl rfl) (tb_0 47 rfl rfl) (show yX12_get.cls ≠ "java/lang/invoke/MethodHandle" ∧ yX12_get.cls ≠ "java/lang/invoke/VarHandle" ∧ (parseMethodDescriptor yX12_get.desc).map (fun d => d.parameters.length) = some 1 by decide +kernel) zs_blind (zs_ob hh0 ha (show RTg[11]? = some (0, 11, 0, fsX12) from rfl) (zCX12 hKn.1)) (fun U hU hW => ⟨rfl, by rw [hU]; exact hh0.l0, zKb s U hW.alike hKn, by rw [hU]; exact jgl⟩) hh0.2.2.1 hl.1 (Nat.le_of_ble_eq_true rfl) (eX12_lookAtTime (303, .invokevirtual 361, 3) (List.mem_of_getElem? (i := 156) rfl)) (fun r91 s91 t91 lo91 g91 f91 l91 => ?_)
      obtain ⟨z91, v91, q91, e91⟩ := f91
      cases q91
      rw [z91, g91]
      have hh91 : zh_ok D cA RTg ro sz H0 H lo91 := ⟨hh0.1, hh0.2.1, l91, hh0.2.2.2⟩
      refine W.eq (g2 := F0 m 306 ls [.long v91, .ref a]) rfl ?_
      refine ff_l2i hx hb (eX12_lookAtTime (306, .l2i, 1) (List.mem_of_getElem? (i := 157) rfl)) (by omega) (by omega) (fun v92 e92 => ?_)
      refine tz_rowV (As := [.int v92]) (st := []) (b := a) (C := RX12) (Ts := gT) hx hb hml hown h2 (fun _ h => h) (hX12_bad l D cA ro sz H0 a v92 (g 14) T (gj) ha (by omega)) ⟨rfl, rfl⟩ ⟨by decide, by decide⟩ ⟨by decide, by decide⟩ (tb_8 47 rfl rfl) (tb_1 12 rfl rfl) (tb_8 44 rfl rfl) (tb_8 46 rfl rfl) (tb_0 37 rfl rfl) (show yX12_bad.cls ≠ "java/lang/invoke/MethodHandle" ∧ yX12_bad.cls ≠ "java/lang/invoke/VarHandle" ∧ (parseMethodDescriptor yX12_bad.desc).map (fun d => d.parameters.length) = some 1 by decide +kernel) zs_blind (zs_ob hh91 ha (show RTg[11]? = some (0, 11, 0, fsX12) from rfl) (zCX12 hKn.1)) (fun U hU hW => ⟨rfl, by rw [hU]; exact hh91.l0, zKb s U hW.alike hKn, by rw [hU]; exact jl⟩) hh91.2.2.1 hl.1 (Nat.le_of_ble_eq_true rfl) (eX12_lookAtTime (307, .invokevirtual 335, 3) (List.mem_of_getElem? (i := 158) rfl)) (fun r93 s93 t93 lo93 g93 f93 l93 => ?_)
      obtain ⟨q93, z93, c93, jv93⟩ := f93
      cases q93
      rw [g93] at c93
      have hh93 : zh_ok D cA RTg ro sz H0 t93.heap lo93 := ⟨z93.1, z93.2.1, l93, z93.2.2.2⟩
      have kp93 := kpl.trans (c93.mono (ms' := vM) (by decide))
      generalize hx93 : bdG (g 14) gj = x93 at jv93
      have uu93 := jv93.2.2
      unfold vOK at uu93
      have bb93 := byI_bd T x93.1
      have jg93 := jgl.kept ha c93 (by decide)
      have mf93_38 := (c93.1 a 11 38 11 0 fsX12 ha rfl (by decide) (by decide)).trans f38
      have mf93_39 := (c93.1 a 11 39 11 0 fsX12 ha rfl (by decide) (by decide)).trans f39
      have jr93 := jrl.kept ha c93 (by decide)
      refine W.eq (g2 := F0 m 310 ls []) rfl ?_
      refine lv_goto hx hb (eX12_lookAtTime (310, .goto 118, 3) (List.mem_of_getElem? (i := 159) rfl)) (tgt := 428) rfl ?_
      have hfin : ((sg.1, sg.2.1, ltB L g hd dy sg.2.2) : uS) = x93 := by rw [← htot, ← ha1, ← ha2]; rw [← hx93]; simp only [lt5, if_pos d89] <;> rfl
      exact W.vret hx hb hr (fun t ht hW => ⟨rfl, by rw [ht]; exact hh93.l0, by rw [ht]; exact kp93, by rw [ht, hfin]; exact jv93, by rw [ht]; exact jg93, by rw [ht]; exact jr93⟩) hh93.2.2.1 (eX12_lookAtTime (428, .return_, 1) (List.mem_of_getElem? (i := 218) rfl))
  have jn253 : ∀ (gj : uS) (hq mq sq : Int64) (gz : Int32) (ls : Array Slot) (H : Heap) (lo0 : List Loc), zh_ok D cA RTg ro sz H0 H lo0 → zc_kept D RTg ro vM s.heap H → jV D cA ro H a T gj → jG D cA ro H a n g h → jR D cA ro H a L → zh_f D H a 11 38 = .long dv → zh_f D H a 11 39 = .int hvv → hq.toInt = g 9 → mq.toInt = g 11 → sq.toInt = g 13 → gj.1 = sg.1 → gj.2.1 = sg.2.1 → ((gz.toInt = 1 ∧ (g 17 ≠ 2 ∨ (g 18 < 24 ∧ g 20 < 60))) ∨ (gz.toInt = 0 ∧ ¬ (g 17 ≠ 2 ∨ (g 18 < 24 ∧ g 20 < 60)))) → lt5 L g hd dy (lt4 g gj.2.2) = ltB L g hd dy sg.2.2 → lv_has ls 13 [(9, .int gz), (1, .long hq), (3, .long mq), (5, .long sq), (0, .ref a)] → W p l e (headSpec (gW yX12_lookAtTime cX12_lookAtTime 13 none) { frames := 2, cells := 0, slots := 0, locals := 49 }).room s m ([.ref a] : List Value).toArray below meth c H lo0 0 0 (MQ below (fun _ st oc t => oc = .returned none ∧ zh_ok D cA RTg ro sz H0 t.heap [] ∧ zc_kept D RTg ro vM st.heap t.heap ∧ jV D cA ro t.heap a T (sg.1, sg.2.1, ltB L g hd dy sg.2.2) ∧ jG D cA ro t.heap a n g h ∧ jR D cA ro t.heap a L) ([.ref a] : List Value).toArray s 0 0 (zy_fr sz)) (F0 m 253 ls []) := by
    intro gj hq mq sq gz ls H lo0 hh0 kpl jl jgl jrl f38 f39 hhq hmq hsq ha1 ha2 hgz htot hl
    have hul := jl.2.2
    unfold vOK at hul
    have hbj := byI_bd T gj.1
    refine lv_aload_n hx hb (eX12_lookAtTime (253, .aload_n 0, 1) (List.mem_of_getElem? (i := 131) rfl)) rfl (lv_at hl 4 rfl) ?_
    refine ff_bipush hx hb (eX12_lookAtTime (254, .bipush 17, 2) (List.mem_of_getElem? (i := 132) rfl)) (by decide) (by decide) (fun v94 e94 => ?_)
    refine tz_rowV (As := [.int v94]) (st := []) (b := a) (C := RX12) (Ts := gT) hx hb hml hown h2 (fun _ h => h) (hX12_get l D cA ro sz H0 a v94 17 n g h ha hn1 (by omega) (by decide)) ⟨rfl, rfl⟩ ⟨by decide, by decide⟩ ⟨by decide, by decide⟩ (tb_8 94 rfl rfl) (tb_1 12 rfl rfl) (tb_8 91 rfl rfl) (tb_8 93 rfl rfl) (tb_0 47 rfl rfl) (show yX12_get.cls ≠ "java/lang/invoke/MethodHandle" ∧ yX12_get.cls ≠ "java/lang/invoke/VarHandle" ∧ (parseMethodDescriptor yX12_get.desc).map (fun d => d.parameters.length) = some 1 by decide +kernel) zs_blind (zs_ob hh0 ha (show RTg[11]? = some (0, 11, 0, fsX12) from rfl) (zCX12 hKn.1)) (fun U hU hW => ⟨rfl, by rw [hU]; exact hh0.l0, zKb s U hW.alike hKn, by rw [hU]; exact jgl⟩) hh0.2.2.1 hl.1 (Nat.le_of_ble_eq_true rfl) (eX12_lookAtTime (256, .invokevirtual 361, 3) (List.mem_of_getElem? (i := 133) rfl)) (fun r95 s95 t95 lo95 g95 f95 l95 => ?_)
    obtain ⟨z95, v95, q95, e95⟩ := f95
    cases q95
    rw [z95, g95]
    have hh95 : zh_ok D cA RTg ro sz H0 H lo95 := ⟨hh0.1, hh0.2.1, l95, hh0.2.2.2⟩
    refine W.eq (g2 := F0 m 259 ls [.long v95]) rfl ?_
    refine ff_ldc2 (n := 2) hx hb hown h2 (clX12_ok 105 2 (List.mem_of_getElem? (i := 7) rfl)) (eX12_lookAtTime (259, .ldc2_w 105, 3) (List.mem_of_getElem? (i := 134) rfl)) (fun v96 e96 => ?_)
    refine ff_lcmp hx hb (eX12_lookAtTime (262, .lcmp, 1) (List.mem_of_getElem? (i := 135) rfl)) (fun v97 e97 => ?_)
    refine ff_if_ne hx hb (eX12_lookAtTime (263, .ifCond .ne 27, 3) (List.mem_of_getElem? (i := 136) rfl)) (tgt := 290) rfl (fun c98 => ?_) (fun c98 => ?_)
    · skip
      have d99 : ¬ (g 17 = 2 ∧ 59 < g 20) := by omega
      exact jn290 gj hq mq sq gz ls _ _ hh95 kpl jl jgl jrl f38 f39 (by omega) (by omega) (by omega) (ha1) (ha2) (by assumption) (by rw [← htot]; simp only [lt4, if_neg d99] <;> rfl) (lv_sub hl [0, 1, 2, 3, 4] rfl)
    · skip
      refine lv_aload_n hx hb (eX12_lookAtTime (266, .aload_n 0, 1) (List.mem_of_getElem? (i := 137) rfl)) rfl (lv_at hl 4 rfl) ?_
      refine ff_bipush hx hb (eX12_lookAtTime (267, .bipush 20, 2) (List.mem_of_getElem? (i := 138) rfl)) (by decide) (by decide) (fun v100 e100 => ?_)
      refine tz_rowV (As := [.int v100]) (st := []) (b := a) (C := RX12) (Ts := gT) hx hb hml hown h2 (fun _ h => h) (hX12_get l D cA ro sz H0 a v100 20 n g h ha hn1 (by omega) (by decide)) ⟨rfl, rfl⟩ ⟨by decide, by decide⟩ ⟨by decide, by decide⟩ (tb_8 94 rfl rfl) (tb_1 12 rfl rfl) (tb_8 91 rfl rfl) (tb_8 93 rfl rfl) (tb_0 47 rfl rfl) (show yX12_get.cls ≠ "java/lang/invoke/MethodHandle" ∧ yX12_get.cls ≠ "java/lang/invoke/VarHandle" ∧ (parseMethodDescriptor yX12_get.desc).map (fun d => d.parameters.length) = some 1 by decide +kernel) zs_blind (zs_ob hh95 ha (show RTg[11]? = some (0, 11, 0, fsX12) from rfl) (zCX12 hKn.1)) (fun U hU hW => ⟨rfl, by rw [hU]; exact hh95.l0, zKb s U hW.alike hKn, by rw [hU]; exact jgl⟩) hh95.2.2.1 hl.1 (Nat.le_of_ble_eq_true rfl) (eX12_lookAtTime (269, .invokevirtual 361, 3) (List.mem_of_getElem? (i := 139) rfl)) (fun r101 s101 t101 lo101 g101 f101 l101 => ?_)
      obtain ⟨z101, v101, q101, e101⟩ := f101
      cases q101
      rw [z101, g101]
      have hh101 : zh_ok D cA RTg ro sz H0 H lo101 := ⟨hh95.1, hh95.2.1, l101, hh95.2.2.2⟩
      refine W.eq (g2 := F0 m 272 ls [.long v101]) rfl ?_
      refine ff_ldc2 (n := 59) hx hb hown h2 (clX12_ok 414 59 (List.mem_of_getElem? (i := 36) rfl)) (eX12_lookAtTime (272, .ldc2_w 414, 3) (List.mem_of_getElem? (i := 140) rfl)) (fun v102 e102 => ?_)
      refine ff_lcmp hx hb (eX12_lookAtTime (275, .lcmp, 1) (List.mem_of_getElem? (i := 141) rfl)) (fun v103 e103 => ?_)
      refine ff_if_le hx hb (eX12_lookAtTime (276, .ifCond .le 14, 3) (List.mem_of_getElem? (i := 142) rfl)) (tgt := 290) rfl (fun c104 => ?_) (fun c104 => ?_)
      · skip
        have d105 : ¬ (g 17 = 2 ∧ 59 < g 20) := by omega
        exact jn290 gj hq mq sq gz ls _ _ hh101 kpl jl jgl jrl f38 f39 (by omega) (by omega) (by omega) (ha1) (ha2) (by assumption) (by rw [← htot]; simp only [lt4, if_neg d105] <;> rfl) (lv_sub hl [0, 1, 2, 3, 4] rfl)
      · skip
        have d106 : g 17 = 2 ∧ 59 < g 20 := by omega
        refine lv_aload_n hx hb (eX12_lookAtTime (279, .aload_n 0, 1) (List.mem_of_getElem? (i := 143) rfl)) rfl (lv_at hl 4 rfl) ?_
        refine lv_aload_n hx hb (eX12_lookAtTime (280, .aload_n 0, 1) (List.mem_of_getElem? (i := 144) rfl)) rfl (lv_at hl 4 rfl) ?_
        refine ff_bipush hx hb (eX12_lookAtTime (281, .bipush 21, 2) (List.mem_of_getElem? (i := 145) rfl)) (by decide) (by decide) (fun v107 e107 => ?_)
        refine tz_rowV (As := [.int v107]) (st := [.ref a]) (b := a) (C := RX12) (Ts := gT) hx hb hml hown h2 (fun _ h => h) (hX12_get l D cA ro sz H0 a v107 21 n g h ha hn1 (by omega) (by decide)) ⟨rfl, rfl⟩ ⟨by decide, by decide⟩ ⟨by decide, by decide⟩ (tb_8 94 rfl rfl) (tb_1 12 rfl rfl) (tb_8 91 rfl rfl) (tb_8 93 rfl rfl) (tb_0 47 rfl rfl) (show yX12_get.cls ≠ "java/lang/invoke/MethodHandle" ∧ yX12_get.cls ≠ "java/lang/invoke/VarHandle" ∧ (parseMethodDescriptor yX12_get.desc).map (fun d => d.parameters.length) = some 1 by decide +kernel) zs_blind (zs_ob hh101 ha (show RTg[11]? = some (0, 11, 0, fsX12) from rfl) (zCX12 hKn.1)) (fun U hU hW => ⟨rfl, by rw [hU]; exact hh101.l0, zKb s U hW.alike hKn, by rw [hU]; exact jgl⟩) hh101.2.2.1 hl.1 (Nat.le_of_ble_eq_true rfl) (eX12_lookAtTime (283, .invokevirtual 361, 3) (List.mem_of_getElem? (i := 146) rfl)) (fun r108 s108 t108 lo108 g108 f108 l108 => ?_)
        obtain ⟨z108, v108, q108, e108⟩ := f108
        cases q108
        rw [z108, g108]
        have hh108 : zh_ok D cA RTg ro sz H0 H lo108 := ⟨hh101.1, hh101.2.1, l108, hh101.2.2.2⟩
        refine W.eq (g2 := F0 m 286 ls [.long v108, .ref a]) rfl ?_
        refine ff_l2i hx hb (eX12_lookAtTime (286, .l2i, 1) (List.mem_of_getElem? (i := 147) rfl)) (by omega) (by omega) (fun v109 e109 => ?_)
        refine tz_rowV (As := [.int v109]) (st := []) (b := a) (C := RX12) (Ts := gT) hx hb hml hown h2 (fun _ h => h) (hX12_bad l D cA ro sz H0 a v109 (g 21) T (gj) ha (by omega)) ⟨rfl, rfl⟩ ⟨by decide, by decide⟩ ⟨by decide, by decide⟩ (tb_8 47 rfl rfl) (tb_1 12 rfl rfl) (tb_8 44 rfl rfl) (tb_8 46 rfl rfl) (tb_0 37 rfl rfl) (show yX12_bad.cls ≠ "java/lang/invoke/MethodHandle" ∧ yX12_bad.cls ≠ "java/lang/invoke/VarHandle" ∧ (parseMethodDescriptor yX12_bad.desc).map (fun d => d.parameters.length) = some 1 by decide +kernel) zs_blind (zs_ob hh108 ha (show RTg[11]? = some (0, 11, 0, fsX12) from rfl) (zCX12 hKn.1)) (fun U hU hW => ⟨rfl, by rw [hU]; exact hh108.l0, zKb s U hW.alike hKn, by rw [hU]; exact jl⟩) hh108.2.2.1 hl.1 (Nat.le_of_ble_eq_true rfl) (eX12_lookAtTime (287, .invokevirtual 335, 3) (List.mem_of_getElem? (i := 148) rfl)) (fun r110 s110 t110 lo110 g110 f110 l110 => ?_)
        obtain ⟨q110, z110, c110, jv110⟩ := f110
        cases q110
        rw [g110] at c110
        have hh110 : zh_ok D cA RTg ro sz H0 t110.heap lo110 := ⟨z110.1, z110.2.1, l110, z110.2.2.2⟩
        have kp110 := kpl.trans (c110.mono (ms' := vM) (by decide))
        generalize hx110 : bdG (g 21) gj = x110 at jv110
        have uu110 := jv110.2.2
        unfold vOK at uu110
        have bb110 := byI_bd T x110.1
        have jg110 := jgl.kept ha c110 (by decide)
        have mf110_38 := (c110.1 a 11 38 11 0 fsX12 ha rfl (by decide) (by decide)).trans f38
        have mf110_39 := (c110.1 a 11 39 11 0 fsX12 ha rfl (by decide) (by decide)).trans f39
        have jr110 := jrl.kept ha c110 (by decide)
        refine W.eq (g2 := F0 m 290 ls []) rfl ?_
        exact jn290 x110 hq mq sq gz ls _ _ hh110 kp110 jv110 jg110 jr110 mf110_38 mf110_39 (by omega) (by omega) (by omega) (by rw [← hx110]; exact ha1) (by rw [← hx110]; exact ha2) (by assumption) (by rw [← htot]; rw [← hx110]; simp only [lt4, if_pos d106] <;> rfl) (lv_sub hl [0, 1, 2, 3, 4] rfl)
  have jn216 : ∀ (gj : uS) (hq mq sq : Int64) (gz : Int32) (ls : Array Slot) (H : Heap) (lo0 : List Loc), zh_ok D cA RTg ro sz H0 H lo0 → zc_kept D RTg ro vM s.heap H → jV D cA ro H a T gj → jG D cA ro H a n g h → jR D cA ro H a L → zh_f D H a 11 38 = .long dv → zh_f D H a 11 39 = .int hvv → hq.toInt = g 9 → mq.toInt = g 11 → sq.toInt = g 13 → gj.1 = sg.1 → gj.2.1 = sg.2.1 → ((gz.toInt = 1 ∧ (g 17 ≠ 2 ∨ (g 18 < 24 ∧ g 20 < 60))) ∨ (gz.toInt = 0 ∧ ¬ (g 17 ≠ 2 ∨ (g 18 < 24 ∧ g 20 < 60)))) → lt5 L g hd dy (lt4 g (lt3 g gj.2.2)) = ltB L g hd dy sg.2.2 → lv_has ls 13 [(9, .int gz), (1, .long hq), (3, .long mq), (5, .long sq), (0, .ref a)] → W p l e (headSpec (gW yX12_lookAtTime cX12_lookAtTime 13 none) { frames := 2, cells := 0, slots := 0, locals := 49 }).room s m ([.ref a] : List Value).toArray below meth c H lo0 0 0 (MQ below (fun _ st oc t => oc = .returned none ∧ zh_ok D cA RTg ro sz H0 t.heap [] ∧ zc_kept D RTg ro vM st.heap t.heap ∧ jV D cA ro t.heap a T (sg.1, sg.2.1, ltB L g hd dy sg.2.2) ∧ jG D cA ro t.heap a n g h ∧ jR D cA ro t.heap a L) ([.ref a] : List Value).toArray s 0 0 (zy_fr sz)) (F0 m 216 ls []) := by
    intro gj hq mq sq gz ls H lo0 hh0 kpl jl jgl jrl f38 f39 hhq hmq hsq ha1 ha2 hgz htot hl
    have hul := jl.2.2
    unfold vOK at hul
    have hbj := byI_bd T gj.1
    refine lv_aload_n hx hb (eX12_lookAtTime (216, .aload_n 0, 1) (List.mem_of_getElem? (i := 113) rfl)) rfl (lv_at hl 4 rfl) ?_
    refine ff_bipush hx hb (eX12_lookAtTime (217, .bipush 17, 2) (List.mem_of_getElem? (i := 114) rfl)) (by decide) (by decide) (fun v111 e111 => ?_)
    refine tz_rowV (As := [.int v111]) (st := []) (b := a) (C := RX12) (Ts := gT) hx hb hml hown h2 (fun _ h => h) (hX12_get l D cA ro sz H0 a v111 17 n g h ha hn1 (by omega) (by decide)) ⟨rfl, rfl⟩ ⟨by decide, by decide⟩ ⟨by decide, by decide⟩ (tb_8 94 rfl rfl) (tb_1 12 rfl rfl) (tb_8 91 rfl rfl) (tb_8 93 rfl rfl) (tb_0 47 rfl rfl) (show yX12_get.cls ≠ "java/lang/invoke/MethodHandle" ∧ yX12_get.cls ≠ "java/lang/invoke/VarHandle" ∧ (parseMethodDescriptor yX12_get.desc).map (fun d => d.parameters.length) = some 1 by decide +kernel) zs_blind (zs_ob hh0 ha (show RTg[11]? = some (0, 11, 0, fsX12) from rfl) (zCX12 hKn.1)) (fun U hU hW => ⟨rfl, by rw [hU]; exact hh0.l0, zKb s U hW.alike hKn, by rw [hU]; exact jgl⟩) hh0.2.2.1 hl.1 (Nat.le_of_ble_eq_true rfl) (eX12_lookAtTime (219, .invokevirtual 361, 3) (List.mem_of_getElem? (i := 115) rfl)) (fun r112 s112 t112 lo112 g112 f112 l112 => ?_)
    obtain ⟨z112, v112, q112, e112⟩ := f112
    cases q112
    rw [z112, g112]
    have hh112 : zh_ok D cA RTg ro sz H0 H lo112 := ⟨hh0.1, hh0.2.1, l112, hh0.2.2.2⟩
    refine W.eq (g2 := F0 m 222 ls [.long v112]) rfl ?_
    refine ff_ldc2 (n := 2) hx hb hown h2 (clX12_ok 105 2 (List.mem_of_getElem? (i := 7) rfl)) (eX12_lookAtTime (222, .ldc2_w 105, 3) (List.mem_of_getElem? (i := 116) rfl)) (fun v113 e113 => ?_)
    refine ff_lcmp hx hb (eX12_lookAtTime (225, .lcmp, 1) (List.mem_of_getElem? (i := 117) rfl)) (fun v114 e114 => ?_)
    refine ff_if_ne hx hb (eX12_lookAtTime (226, .ifCond .ne 27, 3) (List.mem_of_getElem? (i := 118) rfl)) (tgt := 253) rfl (fun c115 => ?_) (fun c115 => ?_)
    · skip
      have d116 : ¬ (g 17 = 2 ∧ 23 < g 18) := by omega
      exact jn253 gj hq mq sq gz ls _ _ hh112 kpl jl jgl jrl f38 f39 (by omega) (by omega) (by omega) (ha1) (ha2) (by assumption) (by rw [← htot]; simp only [lt3, if_neg d116] <;> rfl) (lv_sub hl [0, 1, 2, 3, 4] rfl)
    · skip
      refine lv_aload_n hx hb (eX12_lookAtTime (229, .aload_n 0, 1) (List.mem_of_getElem? (i := 119) rfl)) rfl (lv_at hl 4 rfl) ?_
      refine ff_bipush hx hb (eX12_lookAtTime (230, .bipush 18, 2) (List.mem_of_getElem? (i := 120) rfl)) (by decide) (by decide) (fun v117 e117 => ?_)
      refine tz_rowV (As := [.int v117]) (st := []) (b := a) (C := RX12) (Ts := gT) hx hb hml hown h2 (fun _ h => h) (hX12_get l D cA ro sz H0 a v117 18 n g h ha hn1 (by omega) (by decide)) ⟨rfl, rfl⟩ ⟨by decide, by decide⟩ ⟨by decide, by decide⟩ (tb_8 94 rfl rfl) (tb_1 12 rfl rfl) (tb_8 91 rfl rfl) (tb_8 93 rfl rfl) (tb_0 47 rfl rfl) (show yX12_get.cls ≠ "java/lang/invoke/MethodHandle" ∧ yX12_get.cls ≠ "java/lang/invoke/VarHandle" ∧ (parseMethodDescriptor yX12_get.desc).map (fun d => d.parameters.length) = some 1 by decide +kernel) zs_blind (zs_ob hh112 ha (show RTg[11]? = some (0, 11, 0, fsX12) from rfl) (zCX12 hKn.1)) (fun U hU hW => ⟨rfl, by rw [hU]; exact hh112.l0, zKb s U hW.alike hKn, by rw [hU]; exact jgl⟩) hh112.2.2.1 hl.1 (Nat.le_of_ble_eq_true rfl) (eX12_lookAtTime (232, .invokevirtual 361, 3) (List.mem_of_getElem? (i := 121) rfl)) (fun r118 s118 t118 lo118 g118 f118 l118 => ?_)
      obtain ⟨z118, v118, q118, e118⟩ := f118
      cases q118
      rw [z118, g118]
      have hh118 : zh_ok D cA RTg ro sz H0 H lo118 := ⟨hh112.1, hh112.2.1, l118, hh112.2.2.2⟩
      refine W.eq (g2 := F0 m 235 ls [.long v118]) rfl ?_
      refine ff_ldc2 (n := 23) hx hb hown h2 (clX12_ok 416 23 (List.mem_of_getElem? (i := 37) rfl)) (eX12_lookAtTime (235, .ldc2_w 416, 3) (List.mem_of_getElem? (i := 122) rfl)) (fun v119 e119 => ?_)
      refine ff_lcmp hx hb (eX12_lookAtTime (238, .lcmp, 1) (List.mem_of_getElem? (i := 123) rfl)) (fun v120 e120 => ?_)
      refine ff_if_le hx hb (eX12_lookAtTime (239, .ifCond .le 14, 3) (List.mem_of_getElem? (i := 124) rfl)) (tgt := 253) rfl (fun c121 => ?_) (fun c121 => ?_)
      · skip
        have d122 : ¬ (g 17 = 2 ∧ 23 < g 18) := by omega
        exact jn253 gj hq mq sq gz ls _ _ hh118 kpl jl jgl jrl f38 f39 (by omega) (by omega) (by omega) (ha1) (ha2) (by assumption) (by rw [← htot]; simp only [lt3, if_neg d122] <;> rfl) (lv_sub hl [0, 1, 2, 3, 4] rfl)
      · skip
        have d123 : g 17 = 2 ∧ 23 < g 18 := by omega
        refine lv_aload_n hx hb (eX12_lookAtTime (242, .aload_n 0, 1) (List.mem_of_getElem? (i := 125) rfl)) rfl (lv_at hl 4 rfl) ?_
        refine lv_aload_n hx hb (eX12_lookAtTime (243, .aload_n 0, 1) (List.mem_of_getElem? (i := 126) rfl)) rfl (lv_at hl 4 rfl) ?_
        refine ff_bipush hx hb (eX12_lookAtTime (244, .bipush 19, 2) (List.mem_of_getElem? (i := 127) rfl)) (by decide) (by decide) (fun v124 e124 => ?_)
        refine tz_rowV (As := [.int v124]) (st := [.ref a]) (b := a) (C := RX12) (Ts := gT) hx hb hml hown h2 (fun _ h => h) (hX12_get l D cA ro sz H0 a v124 19 n g h ha hn1 (by omega) (by decide)) ⟨rfl, rfl⟩ ⟨by decide, by decide⟩ ⟨by decide, by decide⟩ (tb_8 94 rfl rfl) (tb_1 12 rfl rfl) (tb_8 91 rfl rfl) (tb_8 93 rfl rfl) (tb_0 47 rfl rfl) (show yX12_get.cls ≠ "java/lang/invoke/MethodHandle" ∧ yX12_get.cls ≠ "java/lang/invoke/VarHandle" ∧ (parseMethodDescriptor yX12_get.desc).map (fun d => d.parameters.length) = some 1 by decide +kernel) zs_blind (zs_ob hh118 ha (show RTg[11]? = some (0, 11, 0, fsX12) from rfl) (zCX12 hKn.1)) (fun U hU hW => ⟨rfl, by rw [hU]; exact hh118.l0, zKb s U hW.alike hKn, by rw [hU]; exact jgl⟩) hh118.2.2.1 hl.1 (Nat.le_of_ble_eq_true rfl) (eX12_lookAtTime (246, .invokevirtual 361, 3) (List.mem_of_getElem? (i := 128) rfl)) (fun r125 s125 t125 lo125 g125 f125 l125 => ?_)
        obtain ⟨z125, v125, q125, e125⟩ := f125
        cases q125
        rw [z125, g125]
        have hh125 : zh_ok D cA RTg ro sz H0 H lo125 := ⟨hh118.1, hh118.2.1, l125, hh118.2.2.2⟩
        refine W.eq (g2 := F0 m 249 ls [.long v125, .ref a]) rfl ?_
        refine ff_l2i hx hb (eX12_lookAtTime (249, .l2i, 1) (List.mem_of_getElem? (i := 129) rfl)) (by omega) (by omega) (fun v126 e126 => ?_)
        refine tz_rowV (As := [.int v126]) (st := []) (b := a) (C := RX12) (Ts := gT) hx hb hml hown h2 (fun _ h => h) (hX12_bad l D cA ro sz H0 a v126 (g 19) T (gj) ha (by omega)) ⟨rfl, rfl⟩ ⟨by decide, by decide⟩ ⟨by decide, by decide⟩ (tb_8 47 rfl rfl) (tb_1 12 rfl rfl) (tb_8 44 rfl rfl) (tb_8 46 rfl rfl) (tb_0 37 rfl rfl) (show yX12_bad.cls ≠ "java/lang/invoke/MethodHandle" ∧ yX12_bad.cls ≠ "java/lang/invoke/VarHandle" ∧ (parseMethodDescriptor yX12_bad.desc).map (fun d => d.parameters.length) = some 1 by decide +kernel) zs_blind (zs_ob hh125 ha (show RTg[11]? = some (0, 11, 0, fsX12) from rfl) (zCX12 hKn.1)) (fun U hU hW => ⟨rfl, by rw [hU]; exact hh125.l0, zKb s U hW.alike hKn, by rw [hU]; exact jl⟩) hh125.2.2.1 hl.1 (Nat.le_of_ble_eq_true rfl) (eX12_lookAtTime (250, .invokevirtual 335, 3) (List.mem_of_getElem? (i := 130) rfl)) (fun r127 s127 t127 lo127 g127 f127 l127 => ?_)
        obtain ⟨q127, z127, c127, jv127⟩ := f127
        cases q127
        rw [g127] at c127
        have hh127 : zh_ok D cA RTg ro sz H0 t127.heap lo127 := ⟨z127.1, z127.2.1, l127, z127.2.2.2⟩
        have kp127 := kpl.trans (c127.mono (ms' := vM) (by decide))
        generalize hx127 : bdG (g 19) gj = x127 at jv127
        have uu127 := jv127.2.2
        unfold vOK at uu127
        have bb127 := byI_bd T x127.1
        have jg127 := jgl.kept ha c127 (by decide)
        have mf127_38 := (c127.1 a 11 38 11 0 fsX12 ha rfl (by decide) (by decide)).trans f38
        have mf127_39 := (c127.1 a 11 39 11 0 fsX12 ha rfl (by decide) (by decide)).trans f39
        have jr127 := jrl.kept ha c127 (by decide)
        refine W.eq (g2 := F0 m 253 ls []) rfl ?_
        exact jn253 x127 hq mq sq gz ls _ _ hh127 kp127 jv127 jg127 jr127 mf127_38 mf127_39 (by omega) (by omega) (by omega) (by rw [← hx127]; exact ha1) (by rw [← hx127]; exact ha2) (by assumption) (by rw [← htot]; rw [← hx127]; simp only [lt3, if_pos d123] <;> rfl) (lv_sub hl [0, 1, 2, 3, 4] rfl)
  have jn170 : ∀ (gj : uS) (hq mq sq : Int64) (ls : Array Slot) (H : Heap) (lo0 : List Loc), zh_ok D cA RTg ro sz H0 H lo0 → zc_kept D RTg ro vM s.heap H → jV D cA ro H a T gj → jG D cA ro H a n g h → jR D cA ro H a L → zh_f D H a 11 38 = .long dv → zh_f D H a 11 39 = .int hvv → hq.toInt = g 9 → mq.toInt = g 11 → sq.toInt = g 13 → gj.1 = sg.1 → gj.2.1 = sg.2.1 → lt5 L g hd dy (lt4 g (lt3 g gj.2.2)) = ltB L g hd dy sg.2.2 → lv_has ls 13 [(1, .long hq), (3, .long mq), (5, .long sq), (0, .ref a)] → W p l e (headSpec (gW yX12_lookAtTime cX12_lookAtTime 13 none) { frames := 2, cells := 0, slots := 0, locals := 49 }).room s m ([.ref a] : List Value).toArray below meth c H lo0 0 0 (MQ below (fun _ st oc t => oc = .returned none ∧ zh_ok D cA RTg ro sz H0 t.heap [] ∧ zc_kept D RTg ro vM st.heap t.heap ∧ jV D cA ro t.heap a T (sg.1, sg.2.1, ltB L g hd dy sg.2.2) ∧ jG D cA ro t.heap a n g h ∧ jR D cA ro t.heap a L) ([.ref a] : List Value).toArray s 0 0 (zy_fr sz)) (F0 m 170 ls []) := by
    intro gj hq mq sq ls H lo0 hh0 kpl jl jgl jrl f38 f39 hhq hmq hsq ha1 ha2 htot hl
    have hul := jl.2.2
    unfold vOK at hul
    have hbj := byI_bd T gj.1
    refine lv_aload_n hx hb (eX12_lookAtTime (170, .aload_n 0, 1) (List.mem_of_getElem? (i := 91) rfl)) rfl (lv_at hl 3 rfl) ?_
    refine ff_bipush hx hb (eX12_lookAtTime (171, .bipush 17, 2) (List.mem_of_getElem? (i := 92) rfl)) (by decide) (by decide) (fun v128 e128 => ?_)
    refine tz_rowV (As := [.int v128]) (st := []) (b := a) (C := RX12) (Ts := gT) hx hb hml hown h2 (fun _ h => h) (hX12_get l D cA ro sz H0 a v128 17 n g h ha hn1 (by omega) (by decide)) ⟨rfl, rfl⟩ ⟨by decide, by decide⟩ ⟨by decide, by decide⟩ (tb_8 94 rfl rfl) (tb_1 12 rfl rfl) (tb_8 91 rfl rfl) (tb_8 93 rfl rfl) (tb_0 47 rfl rfl) (show yX12_get.cls ≠ "java/lang/invoke/MethodHandle" ∧ yX12_get.cls ≠ "java/lang/invoke/VarHandle" ∧ (parseMethodDescriptor yX12_get.desc).map (fun d => d.parameters.length) = some 1 by decide +kernel) zs_blind (zs_ob hh0 ha (show RTg[11]? = some (0, 11, 0, fsX12) from rfl) (zCX12 hKn.1)) (fun U hU hW => ⟨rfl, by rw [hU]; exact hh0.l0, zKb s U hW.alike hKn, by rw [hU]; exact jgl⟩) hh0.2.2.1 hl.1 (Nat.le_of_ble_eq_true rfl) (eX12_lookAtTime (173, .invokevirtual 361, 3) (List.mem_of_getElem? (i := 93) rfl)) (fun r129 s129 t129 lo129 g129 f129 l129 => ?_)
    obtain ⟨z129, v129, q129, e129⟩ := f129
    cases q129
    rw [z129, g129]
    have hh129 : zh_ok D cA RTg ro sz H0 H lo129 := ⟨hh0.1, hh0.2.1, l129, hh0.2.2.2⟩
    refine W.eq (g2 := F0 m 176 ls [.long v129]) rfl ?_
    refine ff_ldc2 (n := 2) hx hb hown h2 (clX12_ok 105 2 (List.mem_of_getElem? (i := 7) rfl)) (eX12_lookAtTime (176, .ldc2_w 105, 3) (List.mem_of_getElem? (i := 94) rfl)) (fun v130 e130 => ?_)
    refine ff_lcmp hx hb (eX12_lookAtTime (179, .lcmp, 1) (List.mem_of_getElem? (i := 95) rfl)) (fun v131 e131 => ?_)
    refine ff_if_ne hx hb (eX12_lookAtTime (180, .ifCond .ne 29, 3) (List.mem_of_getElem? (i := 96) rfl)) (tgt := 209) rfl (fun c132 => ?_) (fun c132 => ?_)
    · skip
      refine ff_iconst hx hb (eX12_lookAtTime (209, .iconst 1, 1) (List.mem_of_getElem? (i := 109) rfl)) (by decide) (by decide) (fun v133 e133 => ?_)
      refine lv_goto hx hb (eX12_lookAtTime (210, .goto 4, 3) (List.mem_of_getElem? (i := 110) rfl)) (tgt := 214) rfl ?_
      refine lv_istore hx hb (eX12_lookAtTime (214, .istore 9, 2) (List.mem_of_getElem? (i := 112) rfl)) hl (by decide) rfl (fun ls134 hl134 => ?_)
      exact jn216 gj hq mq sq v133 ls134 _ _ hh129 kpl jl jgl jrl f38 f39 (by omega) (by omega) (by omega) (ha1) (ha2) (by omega) (by rw [← htot] <;> rfl) (lv_sub hl134 [0, 1, 2, 3, 4] rfl)
    · skip
      refine lv_aload_n hx hb (eX12_lookAtTime (183, .aload_n 0, 1) (List.mem_of_getElem? (i := 97) rfl)) rfl (lv_at hl 3 rfl) ?_
      refine ff_bipush hx hb (eX12_lookAtTime (184, .bipush 18, 2) (List.mem_of_getElem? (i := 98) rfl)) (by decide) (by decide) (fun v135 e135 => ?_)
      refine tz_rowV (As := [.int v135]) (st := []) (b := a) (C := RX12) (Ts := gT) hx hb hml hown h2 (fun _ h => h) (hX12_get l D cA ro sz H0 a v135 18 n g h ha hn1 (by omega) (by decide)) ⟨rfl, rfl⟩ ⟨by decide, by decide⟩ ⟨by decide, by decide⟩ (tb_8 94 rfl rfl) (tb_1 12 rfl rfl) (tb_8 91 rfl rfl) (tb_8 93 rfl rfl) (tb_0 47 rfl rfl) (show yX12_get.cls ≠ "java/lang/invoke/MethodHandle" ∧ yX12_get.cls ≠ "java/lang/invoke/VarHandle" ∧ (parseMethodDescriptor yX12_get.desc).map (fun d => d.parameters.length) = some 1 by decide +kernel) zs_blind (zs_ob hh129 ha (show RTg[11]? = some (0, 11, 0, fsX12) from rfl) (zCX12 hKn.1)) (fun U hU hW => ⟨rfl, by rw [hU]; exact hh129.l0, zKb s U hW.alike hKn, by rw [hU]; exact jgl⟩) hh129.2.2.1 hl.1 (Nat.le_of_ble_eq_true rfl) (eX12_lookAtTime (186, .invokevirtual 361, 3) (List.mem_of_getElem? (i := 99) rfl)) (fun r136 s136 t136 lo136 g136 f136 l136 => ?_)
      obtain ⟨z136, v136, q136, e136⟩ := f136
      cases q136
      rw [z136, g136]
      have hh136 : zh_ok D cA RTg ro sz H0 H lo136 := ⟨hh129.1, hh129.2.1, l136, hh129.2.2.2⟩
      refine W.eq (g2 := F0 m 189 ls [.long v136]) rfl ?_
      refine ff_ldc2 (n := 24) hx hb hown h2 (clX12_ok 412 24 (List.mem_of_getElem? (i := 35) rfl)) (eX12_lookAtTime (189, .ldc2_w 412, 3) (List.mem_of_getElem? (i := 100) rfl)) (fun v137 e137 => ?_)
      refine ff_lcmp hx hb (eX12_lookAtTime (192, .lcmp, 1) (List.mem_of_getElem? (i := 101) rfl)) (fun v138 e138 => ?_)
      refine ff_if_ge hx hb (eX12_lookAtTime (193, .ifCond .ge 20, 3) (List.mem_of_getElem? (i := 102) rfl)) (tgt := 213) rfl (fun c139 => ?_) (fun c139 => ?_)
      · skip
        refine ff_iconst hx hb (eX12_lookAtTime (213, .iconst 0, 1) (List.mem_of_getElem? (i := 111) rfl)) (by decide) (by decide) (fun v140 e140 => ?_)
        refine lv_istore hx hb (eX12_lookAtTime (214, .istore 9, 2) (List.mem_of_getElem? (i := 112) rfl)) hl (by decide) rfl (fun ls141 hl141 => ?_)
        exact jn216 gj hq mq sq v140 ls141 _ _ hh136 kpl jl jgl jrl f38 f39 (by omega) (by omega) (by omega) (ha1) (ha2) (by omega) (by rw [← htot] <;> rfl) (lv_sub hl141 [0, 1, 2, 3, 4] rfl)
      · skip
        refine lv_aload_n hx hb (eX12_lookAtTime (196, .aload_n 0, 1) (List.mem_of_getElem? (i := 103) rfl)) rfl (lv_at hl 3 rfl) ?_
        refine ff_bipush hx hb (eX12_lookAtTime (197, .bipush 20, 2) (List.mem_of_getElem? (i := 104) rfl)) (by decide) (by decide) (fun v142 e142 => ?_)
        refine tz_rowV (As := [.int v142]) (st := []) (b := a) (C := RX12) (Ts := gT) hx hb hml hown h2 (fun _ h => h) (hX12_get l D cA ro sz H0 a v142 20 n g h ha hn1 (by omega) (by decide)) ⟨rfl, rfl⟩ ⟨by decide, by decide⟩ ⟨by decide, by decide⟩ (tb_8 94 rfl rfl) (tb_1 12 rfl rfl) (tb_8 91 rfl rfl) (tb_8 93 rfl rfl) (tb_0 47 rfl rfl) (show yX12_get.cls ≠ "java/lang/invoke/MethodHandle" ∧ yX12_get.cls ≠ "java/lang/invoke/VarHandle" ∧ (parseMethodDescriptor yX12_get.desc).map (fun d => d.parameters.length) = some 1 by decide +kernel) zs_blind (zs_ob hh136 ha (show RTg[11]? = some (0, 11, 0, fsX12) from rfl) (zCX12 hKn.1)) (fun U hU hW => ⟨rfl, by rw [hU]; exact hh136.l0, zKb s U hW.alike hKn, by rw [hU]; exact jgl⟩) hh136.2.2.1 hl.1 (Nat.le_of_ble_eq_true rfl) (eX12_lookAtTime (199, .invokevirtual 361, 3) (List.mem_of_getElem? (i := 105) rfl)) (fun r143 s143 t143 lo143 g143 f143 l143 => ?_)
        obtain ⟨z143, v143, q143, e143⟩ := f143
        cases q143
        rw [z143, g143]
        have hh143 : zh_ok D cA RTg ro sz H0 H lo143 := ⟨hh136.1, hh136.2.1, l143, hh136.2.2.2⟩
        refine W.eq (g2 := F0 m 202 ls [.long v143]) rfl ?_
        refine ff_ldc2 (n := 60) hx hb hown h2 (clX12_ok 178 60 (List.mem_of_getElem? (i := 20) rfl)) (eX12_lookAtTime (202, .ldc2_w 178, 3) (List.mem_of_getElem? (i := 106) rfl)) (fun v144 e144 => ?_)
        refine ff_lcmp hx hb (eX12_lookAtTime (205, .lcmp, 1) (List.mem_of_getElem? (i := 107) rfl)) (fun v145 e145 => ?_)
        refine ff_if_ge hx hb (eX12_lookAtTime (206, .ifCond .ge 7, 3) (List.mem_of_getElem? (i := 108) rfl)) (tgt := 213) rfl (fun c146 => ?_) (fun c146 => ?_)
        · skip
          refine ff_iconst hx hb (eX12_lookAtTime (213, .iconst 0, 1) (List.mem_of_getElem? (i := 111) rfl)) (by decide) (by decide) (fun v147 e147 => ?_)
          refine lv_istore hx hb (eX12_lookAtTime (214, .istore 9, 2) (List.mem_of_getElem? (i := 112) rfl)) hl (by decide) rfl (fun ls148 hl148 => ?_)
          exact jn216 gj hq mq sq v147 ls148 _ _ hh143 kpl jl jgl jrl f38 f39 (by omega) (by omega) (by omega) (ha1) (ha2) (by omega) (by rw [← htot] <;> rfl) (lv_sub hl148 [0, 1, 2, 3, 4] rfl)
        · skip
          refine ff_iconst hx hb (eX12_lookAtTime (209, .iconst 1, 1) (List.mem_of_getElem? (i := 109) rfl)) (by decide) (by decide) (fun v149 e149 => ?_)
          refine lv_goto hx hb (eX12_lookAtTime (210, .goto 4, 3) (List.mem_of_getElem? (i := 110) rfl)) (tgt := 214) rfl ?_
          refine lv_istore hx hb (eX12_lookAtTime (214, .istore 9, 2) (List.mem_of_getElem? (i := 112) rfl)) hl (by decide) rfl (fun ls150 hl150 => ?_)
          exact jn216 gj hq mq sq v149 ls150 _ _ hh143 kpl jl jgl jrl f38 f39 (by omega) (by omega) (by omega) (ha1) (ha2) (by omega) (by rw [← htot] <;> rfl) (lv_sub hl150 [0, 1, 2, 3, 4] rfl)
  have jn151 : ∀ (gj : uS) (hq mq sq : Int64) (ls : Array Slot) (H : Heap) (lo0 : List Loc), zh_ok D cA RTg ro sz H0 H lo0 → zc_kept D RTg ro vM s.heap H → jV D cA ro H a T gj → jG D cA ro H a n g h → jR D cA ro H a L → zh_f D H a 11 38 = .long dv → zh_f D H a 11 39 = .int hvv → hq.toInt = g 9 → mq.toInt = g 11 → sq.toInt = g 13 → gj.1 = sg.1 → gj.2.1 = sg.2.1 → lt5 L g hd dy (lt4 g (lt3 g (lt2 g gj.2.2))) = ltB L g hd dy sg.2.2 → lv_has ls 13 [(1, .long hq), (3, .long mq), (5, .long sq), (0, .ref a)] → W p l e (headSpec (gW yX12_lookAtTime cX12_lookAtTime 13 none) { frames := 2, cells := 0, slots := 0, locals := 49 }).room s m ([.ref a] : List Value).toArray below meth c H lo0 0 0 (MQ below (fun _ st oc t => oc = .returned none ∧ zh_ok D cA RTg ro sz H0 t.heap [] ∧ zc_kept D RTg ro vM st.heap t.heap ∧ jV D cA ro t.heap a T (sg.1, sg.2.1, ltB L g hd dy sg.2.2) ∧ jG D cA ro t.heap a n g h ∧ jR D cA ro t.heap a L) ([.ref a] : List Value).toArray s 0 0 (zy_fr sz)) (F0 m 151 ls []) := by
    intro gj hq mq sq ls H lo0 hh0 kpl jl jgl jrl f38 f39 hhq hmq hsq ha1 ha2 htot hl
    have hul := jl.2.2
    unfold vOK at hul
    have hbj := byI_bd T gj.1
    refine lv_lload_n hx hb (eX12_lookAtTime (151, .lload_n 3, 1) (List.mem_of_getElem? (i := 81) rfl)) rfl (lv_at hl 1 rfl) ?_
    refine ff_ldc2 (n := 59) hx hb hown h2 (clX12_ok 414 59 (List.mem_of_getElem? (i := 36) rfl)) (eX12_lookAtTime (152, .ldc2_w 414, 3) (List.mem_of_getElem? (i := 82) rfl)) (fun v151 e151 => ?_)
    refine ff_lcmp hx hb (eX12_lookAtTime (155, .lcmp, 1) (List.mem_of_getElem? (i := 83) rfl)) (fun v152 e152 => ?_)
    refine ff_if_le hx hb (eX12_lookAtTime (156, .ifCond .le 14, 3) (List.mem_of_getElem? (i := 84) rfl)) (tgt := 170) rfl (fun c153 => ?_) (fun c153 => ?_)
    · skip
      have d154 : ¬ (59 < g 11) := by omega
      exact jn170 gj hq mq sq ls _ _ hh0 kpl jl jgl jrl f38 f39 (by omega) (by omega) (by omega) (ha1) (ha2) (by rw [← htot]; simp only [lt2, if_neg d154] <;> rfl) (lv_sub hl [0, 1, 2, 3] rfl)
    · skip
      have d155 : 59 < g 11 := by omega
      refine lv_aload_n hx hb (eX12_lookAtTime (159, .aload_n 0, 1) (List.mem_of_getElem? (i := 85) rfl)) rfl (lv_at hl 3 rfl) ?_
      refine lv_aload_n hx hb (eX12_lookAtTime (160, .aload_n 0, 1) (List.mem_of_getElem? (i := 86) rfl)) rfl (lv_at hl 3 rfl) ?_
      refine ff_bipush hx hb (eX12_lookAtTime (161, .bipush 12, 2) (List.mem_of_getElem? (i := 87) rfl)) (by decide) (by decide) (fun v156 e156 => ?_)
      refine tz_rowV (As := [.int v156]) (st := [.ref a]) (b := a) (C := RX12) (Ts := gT) hx hb hml hown h2 (fun _ h => h) (hX12_get l D cA ro sz H0 a v156 12 n g h ha hn1 (by omega) (by decide)) ⟨rfl, rfl⟩ ⟨by decide, by decide⟩ ⟨by decide, by decide⟩ (tb_8 94 rfl rfl) (tb_1 12 rfl rfl) (tb_8 91 rfl rfl) (tb_8 93 rfl rfl) (tb_0 47 rfl rfl) (show yX12_get.cls ≠ "java/lang/invoke/MethodHandle" ∧ yX12_get.cls ≠ "java/lang/invoke/VarHandle" ∧ (parseMethodDescriptor yX12_get.desc).map (fun d => d.parameters.length) = some 1 by decide +kernel) zs_blind (zs_ob hh0 ha (show RTg[11]? = some (0, 11, 0, fsX12) from rfl) (zCX12 hKn.1)) (fun U hU hW => ⟨rfl, by rw [hU]; exact hh0.l0, zKb s U hW.alike hKn, by rw [hU]; exact jgl⟩) hh0.2.2.1 hl.1 (Nat.le_of_ble_eq_true rfl) (eX12_lookAtTime (163, .invokevirtual 361, 3) (List.mem_of_getElem? (i := 88) rfl)) (fun r157 s157 t157 lo157 g157 f157 l157 => ?_)
      obtain ⟨z157, v157, q157, e157⟩ := f157
      cases q157
      rw [z157, g157]
      have hh157 : zh_ok D cA RTg ro sz H0 H lo157 := ⟨hh0.1, hh0.2.1, l157, hh0.2.2.2⟩
      refine W.eq (g2 := F0 m 166 ls [.long v157, .ref a]) rfl ?_
      refine ff_l2i hx hb (eX12_lookAtTime (166, .l2i, 1) (List.mem_of_getElem? (i := 89) rfl)) (by omega) (by omega) (fun v158 e158 => ?_)
      refine tz_rowV (As := [.int v158]) (st := []) (b := a) (C := RX12) (Ts := gT) hx hb hml hown h2 (fun _ h => h) (hX12_bad l D cA ro sz H0 a v158 (g 12) T (gj) ha (by omega)) ⟨rfl, rfl⟩ ⟨by decide, by decide⟩ ⟨by decide, by decide⟩ (tb_8 47 rfl rfl) (tb_1 12 rfl rfl) (tb_8 44 rfl rfl) (tb_8 46 rfl rfl) (tb_0 37 rfl rfl) (show yX12_bad.cls ≠ "java/lang/invoke/MethodHandle" ∧ yX12_bad.cls ≠ "java/lang/invoke/VarHandle" ∧ (parseMethodDescriptor yX12_bad.desc).map (fun d => d.parameters.length) = some 1 by decide +kernel) zs_blind (zs_ob hh157 ha (show RTg[11]? = some (0, 11, 0, fsX12) from rfl) (zCX12 hKn.1)) (fun U hU hW => ⟨rfl, by rw [hU]; exact hh157.l0, zKb s U hW.alike hKn, by rw [hU]; exact jl⟩) hh157.2.2.1 hl.1 (Nat.le_of_ble_eq_true rfl) (eX12_lookAtTime (167, .invokevirtual 335, 3) (List.mem_of_getElem? (i := 90) rfl)) (fun r159 s159 t159 lo159 g159 f159 l159 => ?_)
      obtain ⟨q159, z159, c159, jv159⟩ := f159
      cases q159
      rw [g159] at c159
      have hh159 : zh_ok D cA RTg ro sz H0 t159.heap lo159 := ⟨z159.1, z159.2.1, l159, z159.2.2.2⟩
      have kp159 := kpl.trans (c159.mono (ms' := vM) (by decide))
      generalize hx159 : bdG (g 12) gj = x159 at jv159
      have uu159 := jv159.2.2
      unfold vOK at uu159
      have bb159 := byI_bd T x159.1
      have jg159 := jgl.kept ha c159 (by decide)
      have mf159_38 := (c159.1 a 11 38 11 0 fsX12 ha rfl (by decide) (by decide)).trans f38
      have mf159_39 := (c159.1 a 11 39 11 0 fsX12 ha rfl (by decide) (by decide)).trans f39
      have jr159 := jrl.kept ha c159 (by decide)
      refine W.eq (g2 := F0 m 170 ls []) rfl ?_
      exact jn170 x159 hq mq sq ls _ _ hh159 kp159 jv159 jg159 jr159 mf159_38 mf159_39 (by omega) (by omega) (by omega) (by rw [← hx159]; exact ha1) (by rw [← hx159]; exact ha2) (by rw [← htot]; rw [← hx159]; simp only [lt2, if_pos d155] <;> rfl) (lv_sub hl [0, 1, 2, 3] rfl)
  refine lv_aload_n hx hb (eX12_lookAtTime (0, .aload_n 0, 1) (List.mem_of_getElem? (i := 0) rfl)) rfl (lv_at hl 0 rfl) ?_
  refine ff_bipush hx hb (eX12_lookAtTime (1, .bipush 8, 2) (List.mem_of_getElem? (i := 1) rfl)) (by decide) (by decide) (fun v160 e160 => ?_)
  refine tz_rowV (As := [.int v160]) (st := []) (b := a) (C := RX12) (Ts := gT) hx hb hml hown h2 (fun _ h => h) (hX12_get l D cA ro sz H0 a v160 8 n g h ha hn1 (by omega) (by decide)) ⟨rfl, rfl⟩ ⟨by decide, by decide⟩ ⟨by decide, by decide⟩ (tb_8 94 rfl rfl) (tb_1 12 rfl rfl) (tb_8 91 rfl rfl) (tb_8 93 rfl rfl) (tb_0 47 rfl rfl) (show yX12_get.cls ≠ "java/lang/invoke/MethodHandle" ∧ yX12_get.cls ≠ "java/lang/invoke/VarHandle" ∧ (parseMethodDescriptor yX12_get.desc).map (fun d => d.parameters.length) = some 1 by decide +kernel) zs_blind (zs_ob hh ha (show RTg[11]? = some (0, 11, 0, fsX12) from rfl) (zCX12 hKn.1)) (fun U hU hW => ⟨rfl, by rw [hU]; exact hh.l0, zKb s U hW.alike hKn, by rw [hU]; exact jg0⟩) hh.2.2.1 hl.1 (Nat.le_of_ble_eq_true rfl) (eX12_lookAtTime (3, .invokevirtual 361, 3) (List.mem_of_getElem? (i := 2) rfl)) (fun r161 s161 t161 lo161 g161 f161 l161 => ?_)
  obtain ⟨z161, v161, q161, e161⟩ := f161
  cases q161
  rw [z161, g161]
  have hh161 : zh_ok D cA RTg ro sz H0 s.heap lo161 := ⟨hh.1, hh.2.1, l161, hh.2.2.2⟩
  refine W.eq (g2 := F0 m 6 ls [.long v161]) rfl ?_
  refine ff_lconst hx hb (eX12_lookAtTime (6, .lconst 0, 1) (List.mem_of_getElem? (i := 3) rfl)) rfl (fun v162 e162 => ?_)
  refine ff_lcmp hx hb (eX12_lookAtTime (7, .lcmp, 1) (List.mem_of_getElem? (i := 4) rfl)) (fun v163 e163 => ?_)
  refine ff_if_ne hx hb (eX12_lookAtTime (8, .ifCond .ne 4, 3) (List.mem_of_getElem? (i := 5) rfl)) (tgt := 12) rfl (fun c164 => ?_) (fun c164 => ?_)
  · skip
    refine lv_aload_n hx hb (eX12_lookAtTime (12, .aload_n 0, 1) (List.mem_of_getElem? (i := 7) rfl)) rfl (lv_at hl 0 rfl) ?_
    refine ff_bipush hx hb (eX12_lookAtTime (13, .bipush 9, 2) (List.mem_of_getElem? (i := 8) rfl)) (by decide) (by decide) (fun v165 e165 => ?_)
    refine tz_rowV (As := [.int v165]) (st := []) (b := a) (C := RX12) (Ts := gT) hx hb hml hown h2 (fun _ h => h) (hX12_get l D cA ro sz H0 a v165 9 n g h ha hn1 (by omega) (by decide)) ⟨rfl, rfl⟩ ⟨by decide, by decide⟩ ⟨by decide, by decide⟩ (tb_8 94 rfl rfl) (tb_1 12 rfl rfl) (tb_8 91 rfl rfl) (tb_8 93 rfl rfl) (tb_0 47 rfl rfl) (show yX12_get.cls ≠ "java/lang/invoke/MethodHandle" ∧ yX12_get.cls ≠ "java/lang/invoke/VarHandle" ∧ (parseMethodDescriptor yX12_get.desc).map (fun d => d.parameters.length) = some 1 by decide +kernel) zs_blind (zs_ob hh161 ha (show RTg[11]? = some (0, 11, 0, fsX12) from rfl) (zCX12 hKn.1)) (fun U hU hW => ⟨rfl, by rw [hU]; exact hh161.l0, zKb s U hW.alike hKn, by rw [hU]; exact jg0⟩) hh161.2.2.1 hl.1 (Nat.le_of_ble_eq_true rfl) (eX12_lookAtTime (15, .invokevirtual 361, 3) (List.mem_of_getElem? (i := 9) rfl)) (fun r166 s166 t166 lo166 g166 f166 l166 => ?_)
    obtain ⟨z166, v166, q166, e166⟩ := f166
    cases q166
    rw [z166, g166]
    have hh166 : zh_ok D cA RTg ro sz H0 s.heap lo166 := ⟨hh161.1, hh161.2.1, l166, hh161.2.2.2⟩
    refine W.eq (g2 := F0 m 18 ls [.long v166]) rfl ?_
    refine lv_lstore_n hx hb (eX12_lookAtTime (18, .lstore_n 1, 1) (List.mem_of_getElem? (i := 10) rfl)) rfl hl (by decide) rfl (fun ls167 hl167 => ?_)
    refine lv_aload_n hx hb (eX12_lookAtTime (19, .aload_n 0, 1) (List.mem_of_getElem? (i := 11) rfl)) rfl (lv_at hl167 1 rfl) ?_
    refine ff_bipush hx hb (eX12_lookAtTime (20, .bipush 11, 2) (List.mem_of_getElem? (i := 12) rfl)) (by decide) (by decide) (fun v168 e168 => ?_)
    refine tz_rowV (As := [.int v168]) (st := []) (b := a) (C := RX12) (Ts := gT) hx hb hml hown h2 (fun _ h => h) (hX12_get l D cA ro sz H0 a v168 11 n g h ha hn1 (by omega) (by decide)) ⟨rfl, rfl⟩ ⟨by decide, by decide⟩ ⟨by decide, by decide⟩ (tb_8 94 rfl rfl) (tb_1 12 rfl rfl) (tb_8 91 rfl rfl) (tb_8 93 rfl rfl) (tb_0 47 rfl rfl) (show yX12_get.cls ≠ "java/lang/invoke/MethodHandle" ∧ yX12_get.cls ≠ "java/lang/invoke/VarHandle" ∧ (parseMethodDescriptor yX12_get.desc).map (fun d => d.parameters.length) = some 1 by decide +kernel) zs_blind (zs_ob hh166 ha (show RTg[11]? = some (0, 11, 0, fsX12) from rfl) (zCX12 hKn.1)) (fun U hU hW => ⟨rfl, by rw [hU]; exact hh166.l0, zKb s U hW.alike hKn, by rw [hU]; exact jg0⟩) hh166.2.2.1 hl167.1 (Nat.le_of_ble_eq_true rfl) (eX12_lookAtTime (22, .invokevirtual 361, 3) (List.mem_of_getElem? (i := 13) rfl)) (fun r169 s169 t169 lo169 g169 f169 l169 => ?_)
    obtain ⟨z169, v169, q169, e169⟩ := f169
    cases q169
    rw [z169, g169]
    have hh169 : zh_ok D cA RTg ro sz H0 s.heap lo169 := ⟨hh166.1, hh166.2.1, l169, hh166.2.2.2⟩
    refine W.eq (g2 := F0 m 25 ls167 [.long v169]) rfl ?_
    refine lv_lstore_n hx hb (eX12_lookAtTime (25, .lstore_n 3, 1) (List.mem_of_getElem? (i := 14) rfl)) rfl hl167 (by decide) rfl (fun ls170 hl170 => ?_)
    refine lv_aload_n hx hb (eX12_lookAtTime (26, .aload_n 0, 1) (List.mem_of_getElem? (i := 15) rfl)) rfl (lv_at hl170 2 rfl) ?_
    refine ff_bipush hx hb (eX12_lookAtTime (27, .bipush 13, 2) (List.mem_of_getElem? (i := 16) rfl)) (by decide) (by decide) (fun v171 e171 => ?_)
    refine tz_rowV (As := [.int v171]) (st := []) (b := a) (C := RX12) (Ts := gT) hx hb hml hown h2 (fun _ h => h) (hX12_get l D cA ro sz H0 a v171 13 n g h ha hn1 (by omega) (by decide)) ⟨rfl, rfl⟩ ⟨by decide, by decide⟩ ⟨by decide, by decide⟩ (tb_8 94 rfl rfl) (tb_1 12 rfl rfl) (tb_8 91 rfl rfl) (tb_8 93 rfl rfl) (tb_0 47 rfl rfl) (show yX12_get.cls ≠ "java/lang/invoke/MethodHandle" ∧ yX12_get.cls ≠ "java/lang/invoke/VarHandle" ∧ (parseMethodDescriptor yX12_get.desc).map (fun d => d.parameters.length) = some 1 by decide +kernel) zs_blind (zs_ob hh169 ha (show RTg[11]? = some (0, 11, 0, fsX12) from rfl) (zCX12 hKn.1)) (fun U hU hW => ⟨rfl, by rw [hU]; exact hh169.l0, zKb s U hW.alike hKn, by rw [hU]; exact jg0⟩) hh169.2.2.1 hl170.1 (Nat.le_of_ble_eq_true rfl) (eX12_lookAtTime (29, .invokevirtual 361, 3) (List.mem_of_getElem? (i := 17) rfl)) (fun r172 s172 t172 lo172 g172 f172 l172 => ?_)
    obtain ⟨z172, v172, q172, e172⟩ := f172
    cases q172
    rw [z172, g172]
    have hh172 : zh_ok D cA RTg ro sz H0 s.heap lo172 := ⟨hh169.1, hh169.2.1, l172, hh169.2.2.2⟩
    refine W.eq (g2 := F0 m 32 ls170 [.long v172]) rfl ?_
    refine lv_lstore hx hb (eX12_lookAtTime (32, .lstore 5, 2) (List.mem_of_getElem? (i := 18) rfl)) hl170 (by decide) rfl (fun ls173 hl173 => ?_)
    refine lv_lload_n hx hb (eX12_lookAtTime (34, .lload_n 1, 1) (List.mem_of_getElem? (i := 19) rfl)) rfl (lv_at hl173 2 rfl) ?_
    refine ff_ldc2 (n := 24) hx hb hown h2 (clX12_ok 412 24 (List.mem_of_getElem? (i := 35) rfl)) (eX12_lookAtTime (35, .ldc2_w 412, 3) (List.mem_of_getElem? (i := 20) rfl)) (fun v174 e174 => ?_)
    refine ff_lcmp hx hb (eX12_lookAtTime (38, .lcmp, 1) (List.mem_of_getElem? (i := 21) rfl)) (fun v175 e175 => ?_)
    refine ff_if_ne hx hb (eX12_lookAtTime (39, .ifCond .ne 31, 3) (List.mem_of_getElem? (i := 22) rfl)) (tgt := 70) rfl (fun c176 => ?_) (fun c176 => ?_)
    · skip
      refine ff_iconst hx hb (eX12_lookAtTime (70, .iconst 0, 1) (List.mem_of_getElem? (i := 39) rfl)) (by decide) (by decide) (fun v177 e177 => ?_)
      refine lv_istore hx hb (eX12_lookAtTime (71, .istore 7, 2) (List.mem_of_getElem? (i := 40) rfl)) hl173 (by decide) rfl (fun ls178 hl178 => ?_)
      refine lv_iload hx hb (eX12_lookAtTime (73, .iload 7, 2) (List.mem_of_getElem? (i := 41) rfl)) (lv_at hl178 0 rfl) ?_
      refine ff_if_eq hx hb (eX12_lookAtTime (75, .ifCond .eq 37, 3) (List.mem_of_getElem? (i := 42) rfl)) (tgt := 112) rfl (fun c179 => ?_) (fun c179 => (by exfalso; omega))
      refine ff_iconst hx hb (eX12_lookAtTime (112, .iconst 0, 1) (List.mem_of_getElem? (i := 61) rfl)) (by decide) (by decide) (fun v180 e180 => ?_)
      refine lv_istore hx hb (eX12_lookAtTime (113, .istore 7, 2) (List.mem_of_getElem? (i := 62) rfl)) hl178 (by decide) rfl (fun ls181 hl181 => ?_)
      refine lv_lload_n hx hb (eX12_lookAtTime (115, .lload_n 1, 1) (List.mem_of_getElem? (i := 63) rfl)) rfl (lv_at hl181 3 rfl) ?_
      refine ff_ldc2 (n := 24) hx hb hown h2 (clX12_ok 412 24 (List.mem_of_getElem? (i := 35) rfl)) (eX12_lookAtTime (116, .ldc2_w 412, 3) (List.mem_of_getElem? (i := 64) rfl)) (fun v182 e182 => ?_)
      refine ff_lcmp hx hb (eX12_lookAtTime (119, .lcmp, 1) (List.mem_of_getElem? (i := 65) rfl)) (fun v183 e183 => ?_)
      refine ff_if_lt hx hb (eX12_lookAtTime (120, .ifCond .lt 8, 3) (List.mem_of_getElem? (i := 66) rfl)) (tgt := 128) rfl (fun c184 => ?_) (fun c184 => ?_)
      · skip
        refine ff_iconst hx hb (eX12_lookAtTime (128, .iconst 1, 1) (List.mem_of_getElem? (i := 69) rfl)) (by decide) (by decide) (fun v185 e185 => ?_)
        refine lv_goto hx hb (eX12_lookAtTime (129, .goto 4, 3) (List.mem_of_getElem? (i := 70) rfl)) (tgt := 133) rfl ?_
        refine lv_istore hx hb (eX12_lookAtTime (133, .istore 8, 2) (List.mem_of_getElem? (i := 72) rfl)) hl181 (by decide) rfl (fun ls186 hl186 => ?_)
        refine lv_iload hx hb (eX12_lookAtTime (135, .iload 8, 2) (List.mem_of_getElem? (i := 73) rfl)) (lv_at hl186 0 rfl) ?_
        refine ff_if_ne hx hb (eX12_lookAtTime (137, .ifCond .ne 14, 3) (List.mem_of_getElem? (i := 74) rfl)) (tgt := 151) rfl (fun c187 => ?_) (fun c187 => (by exfalso; omega))
        have d188 : g 9 < 24 ∨ ltLate g hd dy := by unfold ltLate; omega
        exact jn151 sg v166 v169 v172 ls186 _ _ hh172 kp0 jv0 jg0 jr0 f38 f39 (by omega) (by omega) (by omega) (rfl) (rfl) (by unfold ltB; rw [if_neg (by omega)]; simp only [lt1, if_pos d188] <;> rfl) (lv_sub hl186 [4, 3, 2, 5] rfl)
      · skip
        refine lv_iload hx hb (eX12_lookAtTime (123, .iload 7, 2) (List.mem_of_getElem? (i := 67) rfl)) (lv_at hl181 0 rfl) ?_
        refine ff_if_eq hx hb (eX12_lookAtTime (125, .ifCond .eq 7, 3) (List.mem_of_getElem? (i := 68) rfl)) (tgt := 132) rfl (fun c189 => ?_) (fun c189 => (by exfalso; omega))
        refine ff_iconst hx hb (eX12_lookAtTime (132, .iconst 0, 1) (List.mem_of_getElem? (i := 71) rfl)) (by decide) (by decide) (fun v190 e190 => ?_)
        refine lv_istore hx hb (eX12_lookAtTime (133, .istore 8, 2) (List.mem_of_getElem? (i := 72) rfl)) hl181 (by decide) rfl (fun ls191 hl191 => ?_)
        refine lv_iload hx hb (eX12_lookAtTime (135, .iload 8, 2) (List.mem_of_getElem? (i := 73) rfl)) (lv_at hl191 0 rfl) ?_
        refine ff_if_ne hx hb (eX12_lookAtTime (137, .ifCond .ne 14, 3) (List.mem_of_getElem? (i := 74) rfl)) (tgt := 151) rfl (fun c192 => (by exfalso; omega)) (fun c192 => ?_)
        have d193 : ¬ (g 9 < 24 ∨ ltLate g hd dy) := by unfold ltLate; omega
        refine lv_aload_n hx hb (eX12_lookAtTime (140, .aload_n 0, 1) (List.mem_of_getElem? (i := 75) rfl)) rfl (lv_at hl191 5 rfl) ?_
        refine lv_aload_n hx hb (eX12_lookAtTime (141, .aload_n 0, 1) (List.mem_of_getElem? (i := 76) rfl)) rfl (lv_at hl191 5 rfl) ?_
        refine ff_bipush hx hb (eX12_lookAtTime (142, .bipush 10, 2) (List.mem_of_getElem? (i := 77) rfl)) (by decide) (by decide) (fun v194 e194 => ?_)
        refine tz_rowV (As := [.int v194]) (st := [.ref a]) (b := a) (C := RX12) (Ts := gT) hx hb hml hown h2 (fun _ h => h) (hX12_get l D cA ro sz H0 a v194 10 n g h ha hn1 (by omega) (by decide)) ⟨rfl, rfl⟩ ⟨by decide, by decide⟩ ⟨by decide, by decide⟩ (tb_8 94 rfl rfl) (tb_1 12 rfl rfl) (tb_8 91 rfl rfl) (tb_8 93 rfl rfl) (tb_0 47 rfl rfl) (show yX12_get.cls ≠ "java/lang/invoke/MethodHandle" ∧ yX12_get.cls ≠ "java/lang/invoke/VarHandle" ∧ (parseMethodDescriptor yX12_get.desc).map (fun d => d.parameters.length) = some 1 by decide +kernel) zs_blind (zs_ob hh172 ha (show RTg[11]? = some (0, 11, 0, fsX12) from rfl) (zCX12 hKn.1)) (fun U hU hW => ⟨rfl, by rw [hU]; exact hh172.l0, zKb s U hW.alike hKn, by rw [hU]; exact jg0⟩) hh172.2.2.1 hl191.1 (Nat.le_of_ble_eq_true rfl) (eX12_lookAtTime (144, .invokevirtual 361, 3) (List.mem_of_getElem? (i := 78) rfl)) (fun r195 s195 t195 lo195 g195 f195 l195 => ?_)
        obtain ⟨z195, v195, q195, e195⟩ := f195
        cases q195
        rw [z195, g195]
        have hh195 : zh_ok D cA RTg ro sz H0 s.heap lo195 := ⟨hh172.1, hh172.2.1, l195, hh172.2.2.2⟩
        refine W.eq (g2 := F0 m 147 ls191 [.long v195, .ref a]) rfl ?_
        refine ff_l2i hx hb (eX12_lookAtTime (147, .l2i, 1) (List.mem_of_getElem? (i := 79) rfl)) (by omega) (by omega) (fun v196 e196 => ?_)
        refine tz_rowV (As := [.int v196]) (st := []) (b := a) (C := RX12) (Ts := gT) hx hb hml hown h2 (fun _ h => h) (hX12_bad l D cA ro sz H0 a v196 (g 10) T (sg) ha (by omega)) ⟨rfl, rfl⟩ ⟨by decide, by decide⟩ ⟨by decide, by decide⟩ (tb_8 47 rfl rfl) (tb_1 12 rfl rfl) (tb_8 44 rfl rfl) (tb_8 46 rfl rfl) (tb_0 37 rfl rfl) (show yX12_bad.cls ≠ "java/lang/invoke/MethodHandle" ∧ yX12_bad.cls ≠ "java/lang/invoke/VarHandle" ∧ (parseMethodDescriptor yX12_bad.desc).map (fun d => d.parameters.length) = some 1 by decide +kernel) zs_blind (zs_ob hh195 ha (show RTg[11]? = some (0, 11, 0, fsX12) from rfl) (zCX12 hKn.1)) (fun U hU hW => ⟨rfl, by rw [hU]; exact hh195.l0, zKb s U hW.alike hKn, by rw [hU]; exact jv0⟩) hh195.2.2.1 hl191.1 (Nat.le_of_ble_eq_true rfl) (eX12_lookAtTime (148, .invokevirtual 335, 3) (List.mem_of_getElem? (i := 80) rfl)) (fun r197 s197 t197 lo197 g197 f197 l197 => ?_)
        obtain ⟨q197, z197, c197, jv197⟩ := f197
        cases q197
        rw [g197] at c197
        have hh197 : zh_ok D cA RTg ro sz H0 t197.heap lo197 := ⟨z197.1, z197.2.1, l197, z197.2.2.2⟩
        have kp197 := kp0.trans (c197.mono (ms' := vM) (by decide))
        generalize hx197 : bdG (g 10) sg = x197 at jv197
        have uu197 := jv197.2.2
        unfold vOK at uu197
        have bb197 := byI_bd T x197.1
        have jg197 := jg0.kept ha c197 (by decide)
        have mf197_38 := (c197.1 a 11 38 11 0 fsX12 ha rfl (by decide) (by decide)).trans f38
        have mf197_39 := (c197.1 a 11 39 11 0 fsX12 ha rfl (by decide) (by decide)).trans f39
        have jr197 := jr0.kept ha c197 (by decide)
        refine W.eq (g2 := F0 m 151 ls191 []) rfl ?_
        exact jn151 x197 v166 v169 v172 ls191 _ _ hh197 kp197 jv197 jg197 jr197 mf197_38 mf197_39 (by omega) (by omega) (by omega) (by rw [← hx197] <;> rfl) (by rw [← hx197] <;> rfl) (by unfold ltB; rw [if_neg (by omega)]; rw [← hx197]; simp only [lt1, if_neg d193] <;> rfl) (lv_sub hl191 [4, 3, 2, 5] rfl)
    · skip
      refine lv_lload_n hx hb (eX12_lookAtTime (42, .lload_n 3, 1) (List.mem_of_getElem? (i := 23) rfl)) rfl (lv_at hl173 1 rfl) ?_
      refine ff_lconst hx hb (eX12_lookAtTime (43, .lconst 0, 1) (List.mem_of_getElem? (i := 24) rfl)) rfl (fun v198 e198 => ?_)
      refine ff_lcmp hx hb (eX12_lookAtTime (44, .lcmp, 1) (List.mem_of_getElem? (i := 25) rfl)) (fun v199 e199 => ?_)
      refine ff_if_ne hx hb (eX12_lookAtTime (45, .ifCond .ne 25, 3) (List.mem_of_getElem? (i := 26) rfl)) (tgt := 70) rfl (fun c200 => ?_) (fun c200 => ?_)
      · skip
        refine ff_iconst hx hb (eX12_lookAtTime (70, .iconst 0, 1) (List.mem_of_getElem? (i := 39) rfl)) (by decide) (by decide) (fun v201 e201 => ?_)
        refine lv_istore hx hb (eX12_lookAtTime (71, .istore 7, 2) (List.mem_of_getElem? (i := 40) rfl)) hl173 (by decide) rfl (fun ls202 hl202 => ?_)
        refine lv_iload hx hb (eX12_lookAtTime (73, .iload 7, 2) (List.mem_of_getElem? (i := 41) rfl)) (lv_at hl202 0 rfl) ?_
        refine ff_if_eq hx hb (eX12_lookAtTime (75, .ifCond .eq 37, 3) (List.mem_of_getElem? (i := 42) rfl)) (tgt := 112) rfl (fun c203 => ?_) (fun c203 => (by exfalso; omega))
        refine ff_iconst hx hb (eX12_lookAtTime (112, .iconst 0, 1) (List.mem_of_getElem? (i := 61) rfl)) (by decide) (by decide) (fun v204 e204 => ?_)
        refine lv_istore hx hb (eX12_lookAtTime (113, .istore 7, 2) (List.mem_of_getElem? (i := 62) rfl)) hl202 (by decide) rfl (fun ls205 hl205 => ?_)
        refine lv_lload_n hx hb (eX12_lookAtTime (115, .lload_n 1, 1) (List.mem_of_getElem? (i := 63) rfl)) rfl (lv_at hl205 3 rfl) ?_
        refine ff_ldc2 (n := 24) hx hb hown h2 (clX12_ok 412 24 (List.mem_of_getElem? (i := 35) rfl)) (eX12_lookAtTime (116, .ldc2_w 412, 3) (List.mem_of_getElem? (i := 64) rfl)) (fun v206 e206 => ?_)
        refine ff_lcmp hx hb (eX12_lookAtTime (119, .lcmp, 1) (List.mem_of_getElem? (i := 65) rfl)) (fun v207 e207 => ?_)
        refine ff_if_lt hx hb (eX12_lookAtTime (120, .ifCond .lt 8, 3) (List.mem_of_getElem? (i := 66) rfl)) (tgt := 128) rfl (fun c208 => ?_) (fun c208 => ?_)
        · skip
          refine ff_iconst hx hb (eX12_lookAtTime (128, .iconst 1, 1) (List.mem_of_getElem? (i := 69) rfl)) (by decide) (by decide) (fun v209 e209 => ?_)
          refine lv_goto hx hb (eX12_lookAtTime (129, .goto 4, 3) (List.mem_of_getElem? (i := 70) rfl)) (tgt := 133) rfl ?_
          refine lv_istore hx hb (eX12_lookAtTime (133, .istore 8, 2) (List.mem_of_getElem? (i := 72) rfl)) hl205 (by decide) rfl (fun ls210 hl210 => ?_)
          refine lv_iload hx hb (eX12_lookAtTime (135, .iload 8, 2) (List.mem_of_getElem? (i := 73) rfl)) (lv_at hl210 0 rfl) ?_
          refine ff_if_ne hx hb (eX12_lookAtTime (137, .ifCond .ne 14, 3) (List.mem_of_getElem? (i := 74) rfl)) (tgt := 151) rfl (fun c211 => ?_) (fun c211 => (by exfalso; omega))
          have d212 : g 9 < 24 ∨ ltLate g hd dy := by unfold ltLate; omega
          exact jn151 sg v166 v169 v172 ls210 _ _ hh172 kp0 jv0 jg0 jr0 f38 f39 (by omega) (by omega) (by omega) (rfl) (rfl) (by unfold ltB; rw [if_neg (by omega)]; simp only [lt1, if_pos d212] <;> rfl) (lv_sub hl210 [4, 3, 2, 5] rfl)
        · skip
          refine lv_iload hx hb (eX12_lookAtTime (123, .iload 7, 2) (List.mem_of_getElem? (i := 67) rfl)) (lv_at hl205 0 rfl) ?_
          refine ff_if_eq hx hb (eX12_lookAtTime (125, .ifCond .eq 7, 3) (List.mem_of_getElem? (i := 68) rfl)) (tgt := 132) rfl (fun c213 => ?_) (fun c213 => (by exfalso; omega))
          refine ff_iconst hx hb (eX12_lookAtTime (132, .iconst 0, 1) (List.mem_of_getElem? (i := 71) rfl)) (by decide) (by decide) (fun v214 e214 => ?_)
          refine lv_istore hx hb (eX12_lookAtTime (133, .istore 8, 2) (List.mem_of_getElem? (i := 72) rfl)) hl205 (by decide) rfl (fun ls215 hl215 => ?_)
          refine lv_iload hx hb (eX12_lookAtTime (135, .iload 8, 2) (List.mem_of_getElem? (i := 73) rfl)) (lv_at hl215 0 rfl) ?_
          refine ff_if_ne hx hb (eX12_lookAtTime (137, .ifCond .ne 14, 3) (List.mem_of_getElem? (i := 74) rfl)) (tgt := 151) rfl (fun c216 => (by exfalso; omega)) (fun c216 => ?_)
          have d217 : ¬ (g 9 < 24 ∨ ltLate g hd dy) := by unfold ltLate; omega
          refine lv_aload_n hx hb (eX12_lookAtTime (140, .aload_n 0, 1) (List.mem_of_getElem? (i := 75) rfl)) rfl (lv_at hl215 5 rfl) ?_
          refine lv_aload_n hx hb (eX12_lookAtTime (141, .aload_n 0, 1) (List.mem_of_getElem? (i := 76) rfl)) rfl (lv_at hl215 5 rfl) ?_
          refine ff_bipush hx hb (eX12_lookAtTime (142, .bipush 10, 2) (List.mem_of_getElem? (i := 77) rfl)) (by decide) (by decide) (fun v218 e218 => ?_)
          refine tz_rowV (As := [.int v218]) (st := [.ref a]) (b := a) (C := RX12) (Ts := gT) hx hb hml hown h2 (fun _ h => h) (hX12_get l D cA ro sz H0 a v218 10 n g h ha hn1 (by omega) (by decide)) ⟨rfl, rfl⟩ ⟨by decide, by decide⟩ ⟨by decide, by decide⟩ (tb_8 94 rfl rfl) (tb_1 12 rfl rfl) (tb_8 91 rfl rfl) (tb_8 93 rfl rfl) (tb_0 47 rfl rfl) (show yX12_get.cls ≠ "java/lang/invoke/MethodHandle" ∧ yX12_get.cls ≠ "java/lang/invoke/VarHandle" ∧ (parseMethodDescriptor yX12_get.desc).map (fun d => d.parameters.length) = some 1 by decide +kernel) zs_blind (zs_ob hh172 ha (show RTg[11]? = some (0, 11, 0, fsX12) from rfl) (zCX12 hKn.1)) (fun U hU hW => ⟨rfl, by rw [hU]; exact hh172.l0, zKb s U hW.alike hKn, by rw [hU]; exact jg0⟩) hh172.2.2.1 hl215.1 (Nat.le_of_ble_eq_true rfl) (eX12_lookAtTime (144, .invokevirtual 361, 3) (List.mem_of_getElem? (i := 78) rfl)) (fun r219 s219 t219 lo219 g219 f219 l219 => ?_)
          obtain ⟨z219, v219, q219, e219⟩ := f219
          cases q219
          rw [z219, g219]
          have hh219 : zh_ok D cA RTg ro sz H0 s.heap lo219 := ⟨hh172.1, hh172.2.1, l219, hh172.2.2.2⟩
          refine W.eq (g2 := F0 m 147 ls215 [.long v219, .ref a]) rfl ?_
          refine ff_l2i hx hb (eX12_lookAtTime (147, .l2i, 1) (List.mem_of_getElem? (i := 79) rfl)) (by omega) (by omega) (fun v220 e220 => ?_)
          refine tz_rowV (As := [.int v220]) (st := []) (b := a) (C := RX12) (Ts := gT) hx hb hml hown h2 (fun _ h => h) (hX12_bad l D cA ro sz H0 a v220 (g 10) T (sg) ha (by omega)) ⟨rfl, rfl⟩ ⟨by decide, by decide⟩ ⟨by decide, by decide⟩ (tb_8 47 rfl rfl) (tb_1 12 rfl rfl) (tb_8 44 rfl rfl) (tb_8 46 rfl rfl) (tb_0 37 rfl rfl) (show yX12_bad.cls ≠ "java/lang/invoke/MethodHandle" ∧ yX12_bad.cls ≠ "java/lang/invoke/VarHandle" ∧ (parseMethodDescriptor yX12_bad.desc).map (fun d => d.parameters.length) = some 1 by decide +kernel) zs_blind (zs_ob hh219 ha (show RTg[11]? = some (0, 11, 0, fsX12) from rfl) (zCX12 hKn.1)) (fun U hU hW => ⟨rfl, by rw [hU]; exact hh219.l0, zKb s U hW.alike hKn, by rw [hU]; exact jv0⟩) hh219.2.2.1 hl215.1 (Nat.le_of_ble_eq_true rfl) (eX12_lookAtTime (148, .invokevirtual 335, 3) (List.mem_of_getElem? (i := 80) rfl)) (fun r221 s221 t221 lo221 g221 f221 l221 => ?_)
          obtain ⟨q221, z221, c221, jv221⟩ := f221
          cases q221
          rw [g221] at c221
          have hh221 : zh_ok D cA RTg ro sz H0 t221.heap lo221 := ⟨z221.1, z221.2.1, l221, z221.2.2.2⟩
          have kp221 := kp0.trans (c221.mono (ms' := vM) (by decide))
          generalize hx221 : bdG (g 10) sg = x221 at jv221
          have uu221 := jv221.2.2
          unfold vOK at uu221
          have bb221 := byI_bd T x221.1
          have jg221 := jg0.kept ha c221 (by decide)
          have mf221_38 := (c221.1 a 11 38 11 0 fsX12 ha rfl (by decide) (by decide)).trans f38
          have mf221_39 := (c221.1 a 11 39 11 0 fsX12 ha rfl (by decide) (by decide)).trans f39
          have jr221 := jr0.kept ha c221 (by decide)
          refine W.eq (g2 := F0 m 151 ls215 []) rfl ?_
          exact jn151 x221 v166 v169 v172 ls215 _ _ hh221 kp221 jv221 jg221 jr221 mf221_38 mf221_39 (by omega) (by omega) (by omega) (by rw [← hx221] <;> rfl) (by rw [← hx221] <;> rfl) (by unfold ltB; rw [if_neg (by omega)]; rw [← hx221]; simp only [lt1, if_neg d217] <;> rfl) (lv_sub hl215 [4, 3, 2, 5] rfl)
      · skip
        refine lv_lload hx hb (eX12_lookAtTime (48, .lload 5, 2) (List.mem_of_getElem? (i := 27) rfl)) (lv_at hl173 0 rfl) ?_
        refine ff_lconst hx hb (eX12_lookAtTime (50, .lconst 0, 1) (List.mem_of_getElem? (i := 28) rfl)) rfl (fun v222 e222 => ?_)
        refine ff_lcmp hx hb (eX12_lookAtTime (51, .lcmp, 1) (List.mem_of_getElem? (i := 29) rfl)) (fun v223 e223 => ?_)
        refine ff_if_ne hx hb (eX12_lookAtTime (52, .ifCond .ne 18, 3) (List.mem_of_getElem? (i := 30) rfl)) (tgt := 70) rfl (fun c224 => ?_) (fun c224 => ?_)
        · skip
          refine ff_iconst hx hb (eX12_lookAtTime (70, .iconst 0, 1) (List.mem_of_getElem? (i := 39) rfl)) (by decide) (by decide) (fun v225 e225 => ?_)
          refine lv_istore hx hb (eX12_lookAtTime (71, .istore 7, 2) (List.mem_of_getElem? (i := 40) rfl)) hl173 (by decide) rfl (fun ls226 hl226 => ?_)
          refine lv_iload hx hb (eX12_lookAtTime (73, .iload 7, 2) (List.mem_of_getElem? (i := 41) rfl)) (lv_at hl226 0 rfl) ?_
          refine ff_if_eq hx hb (eX12_lookAtTime (75, .ifCond .eq 37, 3) (List.mem_of_getElem? (i := 42) rfl)) (tgt := 112) rfl (fun c227 => ?_) (fun c227 => (by exfalso; omega))
          refine ff_iconst hx hb (eX12_lookAtTime (112, .iconst 0, 1) (List.mem_of_getElem? (i := 61) rfl)) (by decide) (by decide) (fun v228 e228 => ?_)
          refine lv_istore hx hb (eX12_lookAtTime (113, .istore 7, 2) (List.mem_of_getElem? (i := 62) rfl)) hl226 (by decide) rfl (fun ls229 hl229 => ?_)
          refine lv_lload_n hx hb (eX12_lookAtTime (115, .lload_n 1, 1) (List.mem_of_getElem? (i := 63) rfl)) rfl (lv_at hl229 3 rfl) ?_
          refine ff_ldc2 (n := 24) hx hb hown h2 (clX12_ok 412 24 (List.mem_of_getElem? (i := 35) rfl)) (eX12_lookAtTime (116, .ldc2_w 412, 3) (List.mem_of_getElem? (i := 64) rfl)) (fun v230 e230 => ?_)
          refine ff_lcmp hx hb (eX12_lookAtTime (119, .lcmp, 1) (List.mem_of_getElem? (i := 65) rfl)) (fun v231 e231 => ?_)
          refine ff_if_lt hx hb (eX12_lookAtTime (120, .ifCond .lt 8, 3) (List.mem_of_getElem? (i := 66) rfl)) (tgt := 128) rfl (fun c232 => ?_) (fun c232 => ?_)
          · skip
            refine ff_iconst hx hb (eX12_lookAtTime (128, .iconst 1, 1) (List.mem_of_getElem? (i := 69) rfl)) (by decide) (by decide) (fun v233 e233 => ?_)
            refine lv_goto hx hb (eX12_lookAtTime (129, .goto 4, 3) (List.mem_of_getElem? (i := 70) rfl)) (tgt := 133) rfl ?_
            refine lv_istore hx hb (eX12_lookAtTime (133, .istore 8, 2) (List.mem_of_getElem? (i := 72) rfl)) hl229 (by decide) rfl (fun ls234 hl234 => ?_)
            refine lv_iload hx hb (eX12_lookAtTime (135, .iload 8, 2) (List.mem_of_getElem? (i := 73) rfl)) (lv_at hl234 0 rfl) ?_
            refine ff_if_ne hx hb (eX12_lookAtTime (137, .ifCond .ne 14, 3) (List.mem_of_getElem? (i := 74) rfl)) (tgt := 151) rfl (fun c235 => ?_) (fun c235 => (by exfalso; omega))
            have d236 : g 9 < 24 ∨ ltLate g hd dy := by unfold ltLate; omega
            exact jn151 sg v166 v169 v172 ls234 _ _ hh172 kp0 jv0 jg0 jr0 f38 f39 (by omega) (by omega) (by omega) (rfl) (rfl) (by unfold ltB; rw [if_neg (by omega)]; simp only [lt1, if_pos d236] <;> rfl) (lv_sub hl234 [4, 3, 2, 5] rfl)
          · skip
            refine lv_iload hx hb (eX12_lookAtTime (123, .iload 7, 2) (List.mem_of_getElem? (i := 67) rfl)) (lv_at hl229 0 rfl) ?_
            refine ff_if_eq hx hb (eX12_lookAtTime (125, .ifCond .eq 7, 3) (List.mem_of_getElem? (i := 68) rfl)) (tgt := 132) rfl (fun c237 => ?_) (fun c237 => (by exfalso; omega))
            refine ff_iconst hx hb (eX12_lookAtTime (132, .iconst 0, 1) (List.mem_of_getElem? (i := 71) rfl)) (by decide) (by decide) (fun v238 e238 => ?_)
            refine lv_istore hx hb (eX12_lookAtTime (133, .istore 8, 2) (List.mem_of_getElem? (i := 72) rfl)) hl229 (by decide) rfl (fun ls239 hl239 => ?_)
            refine lv_iload hx hb (eX12_lookAtTime (135, .iload 8, 2) (List.mem_of_getElem? (i := 73) rfl)) (lv_at hl239 0 rfl) ?_
            refine ff_if_ne hx hb (eX12_lookAtTime (137, .ifCond .ne 14, 3) (List.mem_of_getElem? (i := 74) rfl)) (tgt := 151) rfl (fun c240 => (by exfalso; omega)) (fun c240 => ?_)
            have d241 : ¬ (g 9 < 24 ∨ ltLate g hd dy) := by unfold ltLate; omega
            refine lv_aload_n hx hb (eX12_lookAtTime (140, .aload_n 0, 1) (List.mem_of_getElem? (i := 75) rfl)) rfl (lv_at hl239 5 rfl) ?_
            refine lv_aload_n hx hb (eX12_lookAtTime (141, .aload_n 0, 1) (List.mem_of_getElem? (i := 76) rfl)) rfl (lv_at hl239 5 rfl) ?_
            refine ff_bipush hx hb (eX12_lookAtTime (142, .bipush 10, 2) (List.mem_of_getElem? (i := 77) rfl)) (by decide) (by decide) (fun v242 e242 => ?_)
            refine tz_rowV (As := [.int v242]) (st := [.ref a]) (b := a) (C := RX12) (Ts := gT) hx hb hml hown h2 (fun _ h => h) (hX12_get l D cA ro sz H0 a v242 10 n g h ha hn1 (by omega) (by decide)) ⟨rfl, rfl⟩ ⟨by decide, by decide⟩ ⟨by decide, by decide⟩ (tb_8 94 rfl rfl) (tb_1 12 rfl rfl) (tb_8 91 rfl rfl) (tb_8 93 rfl rfl) (tb_0 47 rfl rfl) (show yX12_get.cls ≠ "java/lang/invoke/MethodHandle" ∧ yX12_get.cls ≠ "java/lang/invoke/VarHandle" ∧ (parseMethodDescriptor yX12_get.desc).map (fun d => d.parameters.length) = some 1 by decide +kernel) zs_blind (zs_ob hh172 ha (show RTg[11]? = some (0, 11, 0, fsX12) from rfl) (zCX12 hKn.1)) (fun U hU hW => ⟨rfl, by rw [hU]; exact hh172.l0, zKb s U hW.alike hKn, by rw [hU]; exact jg0⟩) hh172.2.2.1 hl239.1 (Nat.le_of_ble_eq_true rfl) (eX12_lookAtTime (144, .invokevirtual 361, 3) (List.mem_of_getElem? (i := 78) rfl)) (fun r243 s243 t243 lo243 g243 f243 l243 => ?_)
            obtain ⟨z243, v243, q243, e243⟩ := f243
            cases q243
            rw [z243, g243]
            have hh243 : zh_ok D cA RTg ro sz H0 s.heap lo243 := ⟨hh172.1, hh172.2.1, l243, hh172.2.2.2⟩
            refine W.eq (g2 := F0 m 147 ls239 [.long v243, .ref a]) rfl ?_
            refine ff_l2i hx hb (eX12_lookAtTime (147, .l2i, 1) (List.mem_of_getElem? (i := 79) rfl)) (by omega) (by omega) (fun v244 e244 => ?_)
            refine tz_rowV (As := [.int v244]) (st := []) (b := a) (C := RX12) (Ts := gT) hx hb hml hown h2 (fun _ h => h) (hX12_bad l D cA ro sz H0 a v244 (g 10) T (sg) ha (by omega)) ⟨rfl, rfl⟩ ⟨by decide, by decide⟩ ⟨by decide, by decide⟩ (tb_8 47 rfl rfl) (tb_1 12 rfl rfl) (tb_8 44 rfl rfl) (tb_8 46 rfl rfl) (tb_0 37 rfl rfl) (show yX12_bad.cls ≠ "java/lang/invoke/MethodHandle" ∧ yX12_bad.cls ≠ "java/lang/invoke/VarHandle" ∧ (parseMethodDescriptor yX12_bad.desc).map (fun d => d.parameters.length) = some 1 by decide +kernel) zs_blind (zs_ob hh243 ha (show RTg[11]? = some (0, 11, 0, fsX12) from rfl) (zCX12 hKn.1)) (fun U hU hW => ⟨rfl, by rw [hU]; exact hh243.l0, zKb s U hW.alike hKn, by rw [hU]; exact jv0⟩) hh243.2.2.1 hl239.1 (Nat.le_of_ble_eq_true rfl) (eX12_lookAtTime (148, .invokevirtual 335, 3) (List.mem_of_getElem? (i := 80) rfl)) (fun r245 s245 t245 lo245 g245 f245 l245 => ?_)
            obtain ⟨q245, z245, c245, jv245⟩ := f245
            cases q245
            rw [g245] at c245
            have hh245 : zh_ok D cA RTg ro sz H0 t245.heap lo245 := ⟨z245.1, z245.2.1, l245, z245.2.2.2⟩
            have kp245 := kp0.trans (c245.mono (ms' := vM) (by decide))
            generalize hx245 : bdG (g 10) sg = x245 at jv245
            have uu245 := jv245.2.2
            unfold vOK at uu245
            have bb245 := byI_bd T x245.1
            have jg245 := jg0.kept ha c245 (by decide)
            have mf245_38 := (c245.1 a 11 38 11 0 fsX12 ha rfl (by decide) (by decide)).trans f38
            have mf245_39 := (c245.1 a 11 39 11 0 fsX12 ha rfl (by decide) (by decide)).trans f39
            have jr245 := jr0.kept ha c245 (by decide)
            refine W.eq (g2 := F0 m 151 ls239 []) rfl ?_
            exact jn151 x245 v166 v169 v172 ls239 _ _ hh245 kp245 jv245 jg245 jr245 mf245_38 mf245_39 (by omega) (by omega) (by omega) (by rw [← hx245] <;> rfl) (by rw [← hx245] <;> rfl) (by unfold ltB; rw [if_neg (by omega)]; rw [← hx245]; simp only [lt1, if_neg d241] <;> rfl) (lv_sub hl239 [4, 3, 2, 5] rfl)
        · skip
          refine lv_aload_n hx hb (eX12_lookAtTime (55, .aload_n 0, 1) (List.mem_of_getElem? (i := 31) rfl)) rfl (lv_at hl173 3 rfl) ?_
          refine ff_bipush hx hb (eX12_lookAtTime (56, .bipush 16, 2) (List.mem_of_getElem? (i := 32) rfl)) (by decide) (by decide) (fun v246 e246 => ?_)
          refine tz_rowV (As := [.int v246]) (st := []) (b := a) (C := RX12) (Ts := gT) hx hb hml hown h2 (fun _ h => h) (hX12_get l D cA ro sz H0 a v246 16 n g h ha hn1 (by omega) (by decide)) ⟨rfl, rfl⟩ ⟨by decide, by decide⟩ ⟨by decide, by decide⟩ (tb_8 94 rfl rfl) (tb_1 12 rfl rfl) (tb_8 91 rfl rfl) (tb_8 93 rfl rfl) (tb_0 47 rfl rfl) (show yX12_get.cls ≠ "java/lang/invoke/MethodHandle" ∧ yX12_get.cls ≠ "java/lang/invoke/VarHandle" ∧ (parseMethodDescriptor yX12_get.desc).map (fun d => d.parameters.length) = some 1 by decide +kernel) zs_blind (zs_ob hh172 ha (show RTg[11]? = some (0, 11, 0, fsX12) from rfl) (zCX12 hKn.1)) (fun U hU hW => ⟨rfl, by rw [hU]; exact hh172.l0, zKb s U hW.alike hKn, by rw [hU]; exact jg0⟩) hh172.2.2.1 hl173.1 (Nat.le_of_ble_eq_true rfl) (eX12_lookAtTime (58, .invokevirtual 361, 3) (List.mem_of_getElem? (i := 33) rfl)) (fun r247 s247 t247 lo247 g247 f247 l247 => ?_)
          obtain ⟨z247, v247, q247, e247⟩ := f247
          cases q247
          rw [z247, g247]
          have hh247 : zh_ok D cA RTg ro sz H0 s.heap lo247 := ⟨hh172.1, hh172.2.1, l247, hh172.2.2.2⟩
          refine W.eq (g2 := F0 m 61 ls173 [.long v247]) rfl ?_
          refine ff_lconst hx hb (eX12_lookAtTime (61, .lconst 0, 1) (List.mem_of_getElem? (i := 34) rfl)) rfl (fun v248 e248 => ?_)
          refine ff_lcmp hx hb (eX12_lookAtTime (62, .lcmp, 1) (List.mem_of_getElem? (i := 35) rfl)) (fun v249 e249 => ?_)
          refine ff_if_ne hx hb (eX12_lookAtTime (63, .ifCond .ne 7, 3) (List.mem_of_getElem? (i := 36) rfl)) (tgt := 70) rfl (fun c250 => ?_) (fun c250 => ?_)
          · skip
            refine ff_iconst hx hb (eX12_lookAtTime (70, .iconst 0, 1) (List.mem_of_getElem? (i := 39) rfl)) (by decide) (by decide) (fun v251 e251 => ?_)
            refine lv_istore hx hb (eX12_lookAtTime (71, .istore 7, 2) (List.mem_of_getElem? (i := 40) rfl)) hl173 (by decide) rfl (fun ls252 hl252 => ?_)
            refine lv_iload hx hb (eX12_lookAtTime (73, .iload 7, 2) (List.mem_of_getElem? (i := 41) rfl)) (lv_at hl252 0 rfl) ?_
            refine ff_if_eq hx hb (eX12_lookAtTime (75, .ifCond .eq 37, 3) (List.mem_of_getElem? (i := 42) rfl)) (tgt := 112) rfl (fun c253 => ?_) (fun c253 => (by exfalso; omega))
            refine ff_iconst hx hb (eX12_lookAtTime (112, .iconst 0, 1) (List.mem_of_getElem? (i := 61) rfl)) (by decide) (by decide) (fun v254 e254 => ?_)
            refine lv_istore hx hb (eX12_lookAtTime (113, .istore 7, 2) (List.mem_of_getElem? (i := 62) rfl)) hl252 (by decide) rfl (fun ls255 hl255 => ?_)
            refine lv_lload_n hx hb (eX12_lookAtTime (115, .lload_n 1, 1) (List.mem_of_getElem? (i := 63) rfl)) rfl (lv_at hl255 3 rfl) ?_
            refine ff_ldc2 (n := 24) hx hb hown h2 (clX12_ok 412 24 (List.mem_of_getElem? (i := 35) rfl)) (eX12_lookAtTime (116, .ldc2_w 412, 3) (List.mem_of_getElem? (i := 64) rfl)) (fun v256 e256 => ?_)
            refine ff_lcmp hx hb (eX12_lookAtTime (119, .lcmp, 1) (List.mem_of_getElem? (i := 65) rfl)) (fun v257 e257 => ?_)
            refine ff_if_lt hx hb (eX12_lookAtTime (120, .ifCond .lt 8, 3) (List.mem_of_getElem? (i := 66) rfl)) (tgt := 128) rfl (fun c258 => ?_) (fun c258 => ?_)
            · skip
              refine ff_iconst hx hb (eX12_lookAtTime (128, .iconst 1, 1) (List.mem_of_getElem? (i := 69) rfl)) (by decide) (by decide) (fun v259 e259 => ?_)
              refine lv_goto hx hb (eX12_lookAtTime (129, .goto 4, 3) (List.mem_of_getElem? (i := 70) rfl)) (tgt := 133) rfl ?_
              refine lv_istore hx hb (eX12_lookAtTime (133, .istore 8, 2) (List.mem_of_getElem? (i := 72) rfl)) hl255 (by decide) rfl (fun ls260 hl260 => ?_)
              refine lv_iload hx hb (eX12_lookAtTime (135, .iload 8, 2) (List.mem_of_getElem? (i := 73) rfl)) (lv_at hl260 0 rfl) ?_
              refine ff_if_ne hx hb (eX12_lookAtTime (137, .ifCond .ne 14, 3) (List.mem_of_getElem? (i := 74) rfl)) (tgt := 151) rfl (fun c261 => ?_) (fun c261 => (by exfalso; omega))
              have d262 : g 9 < 24 ∨ ltLate g hd dy := by unfold ltLate; omega
              exact jn151 sg v166 v169 v172 ls260 _ _ hh247 kp0 jv0 jg0 jr0 f38 f39 (by omega) (by omega) (by omega) (rfl) (rfl) (by unfold ltB; rw [if_neg (by omega)]; simp only [lt1, if_pos d262] <;> rfl) (lv_sub hl260 [4, 3, 2, 5] rfl)
            · skip
              refine lv_iload hx hb (eX12_lookAtTime (123, .iload 7, 2) (List.mem_of_getElem? (i := 67) rfl)) (lv_at hl255 0 rfl) ?_
              refine ff_if_eq hx hb (eX12_lookAtTime (125, .ifCond .eq 7, 3) (List.mem_of_getElem? (i := 68) rfl)) (tgt := 132) rfl (fun c263 => ?_) (fun c263 => (by exfalso; omega))
              refine ff_iconst hx hb (eX12_lookAtTime (132, .iconst 0, 1) (List.mem_of_getElem? (i := 71) rfl)) (by decide) (by decide) (fun v264 e264 => ?_)
              refine lv_istore hx hb (eX12_lookAtTime (133, .istore 8, 2) (List.mem_of_getElem? (i := 72) rfl)) hl255 (by decide) rfl (fun ls265 hl265 => ?_)
              refine lv_iload hx hb (eX12_lookAtTime (135, .iload 8, 2) (List.mem_of_getElem? (i := 73) rfl)) (lv_at hl265 0 rfl) ?_
              refine ff_if_ne hx hb (eX12_lookAtTime (137, .ifCond .ne 14, 3) (List.mem_of_getElem? (i := 74) rfl)) (tgt := 151) rfl (fun c266 => (by exfalso; omega)) (fun c266 => ?_)
              have d267 : ¬ (g 9 < 24 ∨ ltLate g hd dy) := by unfold ltLate; omega
              refine lv_aload_n hx hb (eX12_lookAtTime (140, .aload_n 0, 1) (List.mem_of_getElem? (i := 75) rfl)) rfl (lv_at hl265 5 rfl) ?_
              refine lv_aload_n hx hb (eX12_lookAtTime (141, .aload_n 0, 1) (List.mem_of_getElem? (i := 76) rfl)) rfl (lv_at hl265 5 rfl) ?_
              refine ff_bipush hx hb (eX12_lookAtTime (142, .bipush 10, 2) (List.mem_of_getElem? (i := 77) rfl)) (by decide) (by decide) (fun v268 e268 => ?_)
              refine tz_rowV (As := [.int v268]) (st := [.ref a]) (b := a) (C := RX12) (Ts := gT) hx hb hml hown h2 (fun _ h => h) (hX12_get l D cA ro sz H0 a v268 10 n g h ha hn1 (by omega) (by decide)) ⟨rfl, rfl⟩ ⟨by decide, by decide⟩ ⟨by decide, by decide⟩ (tb_8 94 rfl rfl) (tb_1 12 rfl rfl) (tb_8 91 rfl rfl) (tb_8 93 rfl rfl) (tb_0 47 rfl rfl) (show yX12_get.cls ≠ "java/lang/invoke/MethodHandle" ∧ yX12_get.cls ≠ "java/lang/invoke/VarHandle" ∧ (parseMethodDescriptor yX12_get.desc).map (fun d => d.parameters.length) = some 1 by decide +kernel) zs_blind (zs_ob hh247 ha (show RTg[11]? = some (0, 11, 0, fsX12) from rfl) (zCX12 hKn.1)) (fun U hU hW => ⟨rfl, by rw [hU]; exact hh247.l0, zKb s U hW.alike hKn, by rw [hU]; exact jg0⟩) hh247.2.2.1 hl265.1 (Nat.le_of_ble_eq_true rfl) (eX12_lookAtTime (144, .invokevirtual 361, 3) (List.mem_of_getElem? (i := 78) rfl)) (fun r269 s269 t269 lo269 g269 f269 l269 => ?_)
              obtain ⟨z269, v269, q269, e269⟩ := f269
              cases q269
              rw [z269, g269]
              have hh269 : zh_ok D cA RTg ro sz H0 s.heap lo269 := ⟨hh247.1, hh247.2.1, l269, hh247.2.2.2⟩
              refine W.eq (g2 := F0 m 147 ls265 [.long v269, .ref a]) rfl ?_
              refine ff_l2i hx hb (eX12_lookAtTime (147, .l2i, 1) (List.mem_of_getElem? (i := 79) rfl)) (by omega) (by omega) (fun v270 e270 => ?_)
              refine tz_rowV (As := [.int v270]) (st := []) (b := a) (C := RX12) (Ts := gT) hx hb hml hown h2 (fun _ h => h) (hX12_bad l D cA ro sz H0 a v270 (g 10) T (sg) ha (by omega)) ⟨rfl, rfl⟩ ⟨by decide, by decide⟩ ⟨by decide, by decide⟩ (tb_8 47 rfl rfl) (tb_1 12 rfl rfl) (tb_8 44 rfl rfl) (tb_8 46 rfl rfl) (tb_0 37 rfl rfl) (show yX12_bad.cls ≠ "java/lang/invoke/MethodHandle" ∧ yX12_bad.cls ≠ "java/lang/invoke/VarHandle" ∧ (parseMethodDescriptor yX12_bad.desc).map (fun d => d.parameters.length) = some 1 by decide +kernel) zs_blind (zs_ob hh269 ha (show RTg[11]? = some (0, 11, 0, fsX12) from rfl) (zCX12 hKn.1)) (fun U hU hW => ⟨rfl, by rw [hU]; exact hh269.l0, zKb s U hW.alike hKn, by rw [hU]; exact jv0⟩) hh269.2.2.1 hl265.1 (Nat.le_of_ble_eq_true rfl) (eX12_lookAtTime (148, .invokevirtual 335, 3) (List.mem_of_getElem? (i := 80) rfl)) (fun r271 s271 t271 lo271 g271 f271 l271 => ?_)
              obtain ⟨q271, z271, c271, jv271⟩ := f271
              cases q271
              rw [g271] at c271
              have hh271 : zh_ok D cA RTg ro sz H0 t271.heap lo271 := ⟨z271.1, z271.2.1, l271, z271.2.2.2⟩
              have kp271 := kp0.trans (c271.mono (ms' := vM) (by decide))
              generalize hx271 : bdG (g 10) sg = x271 at jv271
              have uu271 := jv271.2.2
              unfold vOK at uu271
              have bb271 := byI_bd T x271.1
              have jg271 := jg0.kept ha c271 (by decide)
              have mf271_38 := (c271.1 a 11 38 11 0 fsX12 ha rfl (by decide) (by decide)).trans f38
              have mf271_39 := (c271.1 a 11 39 11 0 fsX12 ha rfl (by decide) (by decide)).trans f39
              have jr271 := jr0.kept ha c271 (by decide)
              refine W.eq (g2 := F0 m 151 ls265 []) rfl ?_
              exact jn151 x271 v166 v169 v172 ls265 _ _ hh271 kp271 jv271 jg271 jr271 mf271_38 mf271_39 (by omega) (by omega) (by omega) (by rw [← hx271] <;> rfl) (by rw [← hx271] <;> rfl) (by unfold ltB; rw [if_neg (by omega)]; rw [← hx271]; simp only [lt1, if_neg d267] <;> rfl) (lv_sub hl265 [4, 3, 2, 5] rfl)
          · skip
            refine ff_iconst hx hb (eX12_lookAtTime (66, .iconst 1, 1) (List.mem_of_getElem? (i := 37) rfl)) (by decide) (by decide) (fun v272 e272 => ?_)
            refine lv_goto hx hb (eX12_lookAtTime (67, .goto 4, 3) (List.mem_of_getElem? (i := 38) rfl)) (tgt := 71) rfl ?_
            refine lv_istore hx hb (eX12_lookAtTime (71, .istore 7, 2) (List.mem_of_getElem? (i := 40) rfl)) hl173 (by decide) rfl (fun ls273 hl273 => ?_)
            refine lv_iload hx hb (eX12_lookAtTime (73, .iload 7, 2) (List.mem_of_getElem? (i := 41) rfl)) (lv_at hl273 0 rfl) ?_
            refine ff_if_eq hx hb (eX12_lookAtTime (75, .ifCond .eq 37, 3) (List.mem_of_getElem? (i := 42) rfl)) (tgt := 112) rfl (fun c274 => (by exfalso; omega)) (fun c274 => ?_)
            refine lv_aload_n hx hb (eX12_lookAtTime (78, .aload_n 0, 1) (List.mem_of_getElem? (i := 43) rfl)) rfl (lv_at hl273 4 rfl) ?_
            refine ff_iconst hx hb (eX12_lookAtTime (79, .iconst 1, 1) (List.mem_of_getElem? (i := 44) rfl)) (by decide) (by decide) (fun v275 e275 => ?_)
            refine tz_rowV (As := [.int v275]) (st := []) (b := a) (C := RX12) (Ts := gT) hx hb hml hown h2 (fun _ h => h) (hX12_get l D cA ro sz H0 a v275 1 n g h ha hn1 (by omega) (by decide)) ⟨rfl, rfl⟩ ⟨by decide, by decide⟩ ⟨by decide, by decide⟩ (tb_8 94 rfl rfl) (tb_1 12 rfl rfl) (tb_8 91 rfl rfl) (tb_8 93 rfl rfl) (tb_0 47 rfl rfl) (show yX12_get.cls ≠ "java/lang/invoke/MethodHandle" ∧ yX12_get.cls ≠ "java/lang/invoke/VarHandle" ∧ (parseMethodDescriptor yX12_get.desc).map (fun d => d.parameters.length) = some 1 by decide +kernel) zs_blind (zs_ob hh247 ha (show RTg[11]? = some (0, 11, 0, fsX12) from rfl) (zCX12 hKn.1)) (fun U hU hW => ⟨rfl, by rw [hU]; exact hh247.l0, zKb s U hW.alike hKn, by rw [hU]; exact jg0⟩) hh247.2.2.1 hl273.1 (Nat.le_of_ble_eq_true rfl) (eX12_lookAtTime (80, .invokevirtual 361, 3) (List.mem_of_getElem? (i := 45) rfl)) (fun r276 s276 t276 lo276 g276 f276 l276 => ?_)
            obtain ⟨z276, v276, q276, e276⟩ := f276
            cases q276
            rw [z276, g276]
            have hh276 : zh_ok D cA RTg ro sz H0 s.heap lo276 := ⟨hh247.1, hh247.2.1, l276, hh247.2.2.2⟩
            refine W.eq (g2 := F0 m 83 ls273 [.long v276]) rfl ?_
            refine ff_lconst hx hb (eX12_lookAtTime (83, .lconst 0, 1) (List.mem_of_getElem? (i := 46) rfl)) rfl (fun v277 e277 => ?_)
            refine ff_lcmp hx hb (eX12_lookAtTime (84, .lcmp, 1) (List.mem_of_getElem? (i := 47) rfl)) (fun v278 e278 => ?_)
            refine ff_if_lt hx hb (eX12_lookAtTime (85, .ifCond .lt 23, 3) (List.mem_of_getElem? (i := 48) rfl)) (tgt := 108) rfl (fun c279 => ?_) (fun c279 => ?_)
            · skip
              refine ff_iconst hx hb (eX12_lookAtTime (108, .iconst 1, 1) (List.mem_of_getElem? (i := 59) rfl)) (by decide) (by decide) (fun v280 e280 => ?_)
              refine lv_goto hx hb (eX12_lookAtTime (109, .goto 4, 3) (List.mem_of_getElem? (i := 60) rfl)) (tgt := 113) rfl ?_
              refine lv_istore hx hb (eX12_lookAtTime (113, .istore 7, 2) (List.mem_of_getElem? (i := 62) rfl)) hl273 (by decide) rfl (fun ls281 hl281 => ?_)
              refine lv_lload_n hx hb (eX12_lookAtTime (115, .lload_n 1, 1) (List.mem_of_getElem? (i := 63) rfl)) rfl (lv_at hl281 3 rfl) ?_
              refine ff_ldc2 (n := 24) hx hb hown h2 (clX12_ok 412 24 (List.mem_of_getElem? (i := 35) rfl)) (eX12_lookAtTime (116, .ldc2_w 412, 3) (List.mem_of_getElem? (i := 64) rfl)) (fun v282 e282 => ?_)
              refine ff_lcmp hx hb (eX12_lookAtTime (119, .lcmp, 1) (List.mem_of_getElem? (i := 65) rfl)) (fun v283 e283 => ?_)
              refine ff_if_lt hx hb (eX12_lookAtTime (120, .ifCond .lt 8, 3) (List.mem_of_getElem? (i := 66) rfl)) (tgt := 128) rfl (fun c284 => ?_) (fun c284 => ?_)
              · skip
                refine ff_iconst hx hb (eX12_lookAtTime (128, .iconst 1, 1) (List.mem_of_getElem? (i := 69) rfl)) (by decide) (by decide) (fun v285 e285 => ?_)
                refine lv_goto hx hb (eX12_lookAtTime (129, .goto 4, 3) (List.mem_of_getElem? (i := 70) rfl)) (tgt := 133) rfl ?_
                refine lv_istore hx hb (eX12_lookAtTime (133, .istore 8, 2) (List.mem_of_getElem? (i := 72) rfl)) hl281 (by decide) rfl (fun ls286 hl286 => ?_)
                refine lv_iload hx hb (eX12_lookAtTime (135, .iload 8, 2) (List.mem_of_getElem? (i := 73) rfl)) (lv_at hl286 0 rfl) ?_
                refine ff_if_ne hx hb (eX12_lookAtTime (137, .ifCond .ne 14, 3) (List.mem_of_getElem? (i := 74) rfl)) (tgt := 151) rfl (fun c287 => ?_) (fun c287 => (by exfalso; omega))
                have d288 : g 9 < 24 ∨ ltLate g hd dy := by unfold ltLate; omega
                exact jn151 sg v166 v169 v172 ls286 _ _ hh276 kp0 jv0 jg0 jr0 f38 f39 (by omega) (by omega) (by omega) (rfl) (rfl) (by unfold ltB; rw [if_neg (by omega)]; simp only [lt1, if_pos d288] <;> rfl) (lv_sub hl286 [4, 3, 2, 5] rfl)
              · skip
                refine lv_iload hx hb (eX12_lookAtTime (123, .iload 7, 2) (List.mem_of_getElem? (i := 67) rfl)) (lv_at hl281 0 rfl) ?_
                refine ff_if_eq hx hb (eX12_lookAtTime (125, .ifCond .eq 7, 3) (List.mem_of_getElem? (i := 68) rfl)) (tgt := 132) rfl (fun c289 => (by exfalso; omega)) (fun c289 => ?_)
                refine ff_iconst hx hb (eX12_lookAtTime (128, .iconst 1, 1) (List.mem_of_getElem? (i := 69) rfl)) (by decide) (by decide) (fun v290 e290 => ?_)
                refine lv_goto hx hb (eX12_lookAtTime (129, .goto 4, 3) (List.mem_of_getElem? (i := 70) rfl)) (tgt := 133) rfl ?_
                refine lv_istore hx hb (eX12_lookAtTime (133, .istore 8, 2) (List.mem_of_getElem? (i := 72) rfl)) hl281 (by decide) rfl (fun ls291 hl291 => ?_)
                refine lv_iload hx hb (eX12_lookAtTime (135, .iload 8, 2) (List.mem_of_getElem? (i := 73) rfl)) (lv_at hl291 0 rfl) ?_
                refine ff_if_ne hx hb (eX12_lookAtTime (137, .ifCond .ne 14, 3) (List.mem_of_getElem? (i := 74) rfl)) (tgt := 151) rfl (fun c292 => ?_) (fun c292 => (by exfalso; omega))
                have d293 : g 9 < 24 ∨ ltLate g hd dy := by unfold ltLate; omega
                exact jn151 sg v166 v169 v172 ls291 _ _ hh276 kp0 jv0 jg0 jr0 f38 f39 (by omega) (by omega) (by omega) (rfl) (rfl) (by unfold ltB; rw [if_neg (by omega)]; simp only [lt1, if_pos d293] <;> rfl) (lv_sub hl291 [4, 3, 2, 5] rfl)
            · skip
              refine lv_aload_n hx hb (eX12_lookAtTime (88, .aload_n 0, 1) (List.mem_of_getElem? (i := 49) rfl)) rfl (lv_at hl273 4 rfl) ?_
              refine tz_get (r := 11) (k := 39) (t := (0, 0, 1)) hx hb hh276 ha rfl rfl (hcl11 404 39 (0, 0, 1) (by decide) rfl).1 f39 (eX12_lookAtTime (89, .getfield 404, 3) (List.mem_of_getElem? (i := 50) rfl)) ?_
              refine ff_if_eq hx hb (eX12_lookAtTime (92, .ifCond .eq 20, 3) (List.mem_of_getElem? (i := 51) rfl)) (tgt := 112) rfl (fun c294 => ?_) (fun c294 => ?_)
              · skip
                refine ff_iconst hx hb (eX12_lookAtTime (112, .iconst 0, 1) (List.mem_of_getElem? (i := 61) rfl)) (by decide) (by decide) (fun v295 e295 => ?_)
                refine lv_istore hx hb (eX12_lookAtTime (113, .istore 7, 2) (List.mem_of_getElem? (i := 62) rfl)) hl273 (by decide) rfl (fun ls296 hl296 => ?_)
                refine lv_lload_n hx hb (eX12_lookAtTime (115, .lload_n 1, 1) (List.mem_of_getElem? (i := 63) rfl)) rfl (lv_at hl296 3 rfl) ?_
                refine ff_ldc2 (n := 24) hx hb hown h2 (clX12_ok 412 24 (List.mem_of_getElem? (i := 35) rfl)) (eX12_lookAtTime (116, .ldc2_w 412, 3) (List.mem_of_getElem? (i := 64) rfl)) (fun v297 e297 => ?_)
                refine ff_lcmp hx hb (eX12_lookAtTime (119, .lcmp, 1) (List.mem_of_getElem? (i := 65) rfl)) (fun v298 e298 => ?_)
                refine ff_if_lt hx hb (eX12_lookAtTime (120, .ifCond .lt 8, 3) (List.mem_of_getElem? (i := 66) rfl)) (tgt := 128) rfl (fun c299 => ?_) (fun c299 => ?_)
                · skip
                  refine ff_iconst hx hb (eX12_lookAtTime (128, .iconst 1, 1) (List.mem_of_getElem? (i := 69) rfl)) (by decide) (by decide) (fun v300 e300 => ?_)
                  refine lv_goto hx hb (eX12_lookAtTime (129, .goto 4, 3) (List.mem_of_getElem? (i := 70) rfl)) (tgt := 133) rfl ?_
                  refine lv_istore hx hb (eX12_lookAtTime (133, .istore 8, 2) (List.mem_of_getElem? (i := 72) rfl)) hl296 (by decide) rfl (fun ls301 hl301 => ?_)
                  refine lv_iload hx hb (eX12_lookAtTime (135, .iload 8, 2) (List.mem_of_getElem? (i := 73) rfl)) (lv_at hl301 0 rfl) ?_
                  refine ff_if_ne hx hb (eX12_lookAtTime (137, .ifCond .ne 14, 3) (List.mem_of_getElem? (i := 74) rfl)) (tgt := 151) rfl (fun c302 => ?_) (fun c302 => (by exfalso; omega))
                  have d303 : g 9 < 24 ∨ ltLate g hd dy := by unfold ltLate; omega
                  exact jn151 sg v166 v169 v172 ls301 _ _ hh276 kp0 jv0 jg0 jr0 f38 f39 (by omega) (by omega) (by omega) (rfl) (rfl) (by unfold ltB; rw [if_neg (by omega)]; simp only [lt1, if_pos d303] <;> rfl) (lv_sub hl301 [4, 3, 2, 5] rfl)
                · skip
                  refine lv_iload hx hb (eX12_lookAtTime (123, .iload 7, 2) (List.mem_of_getElem? (i := 67) rfl)) (lv_at hl296 0 rfl) ?_
                  refine ff_if_eq hx hb (eX12_lookAtTime (125, .ifCond .eq 7, 3) (List.mem_of_getElem? (i := 68) rfl)) (tgt := 132) rfl (fun c304 => ?_) (fun c304 => (by exfalso; omega))
                  refine ff_iconst hx hb (eX12_lookAtTime (132, .iconst 0, 1) (List.mem_of_getElem? (i := 71) rfl)) (by decide) (by decide) (fun v305 e305 => ?_)
                  refine lv_istore hx hb (eX12_lookAtTime (133, .istore 8, 2) (List.mem_of_getElem? (i := 72) rfl)) hl296 (by decide) rfl (fun ls306 hl306 => ?_)
                  refine lv_iload hx hb (eX12_lookAtTime (135, .iload 8, 2) (List.mem_of_getElem? (i := 73) rfl)) (lv_at hl306 0 rfl) ?_
                  refine ff_if_ne hx hb (eX12_lookAtTime (137, .ifCond .ne 14, 3) (List.mem_of_getElem? (i := 74) rfl)) (tgt := 151) rfl (fun c307 => (by exfalso; omega)) (fun c307 => ?_)
                  have d308 : ¬ (g 9 < 24 ∨ ltLate g hd dy) := by unfold ltLate; omega
                  refine lv_aload_n hx hb (eX12_lookAtTime (140, .aload_n 0, 1) (List.mem_of_getElem? (i := 75) rfl)) rfl (lv_at hl306 5 rfl) ?_
                  refine lv_aload_n hx hb (eX12_lookAtTime (141, .aload_n 0, 1) (List.mem_of_getElem? (i := 76) rfl)) rfl (lv_at hl306 5 rfl) ?_
                  refine ff_bipush hx hb (eX12_lookAtTime (142, .bipush 10, 2) (List.mem_of_getElem? (i := 77) rfl)) (by decide) (by decide) (fun v309 e309 => ?_)
                  refine tz_rowV (As := [.int v309]) (st := [.ref a]) (b := a) (C := RX12) (Ts := gT) hx hb hml hown h2 (fun _ h => h) (hX12_get l D cA ro sz H0 a v309 10 n g h ha hn1 (by omega) (by decide)) ⟨rfl, rfl⟩ ⟨by decide, by decide⟩ ⟨by decide, by decide⟩ (tb_8 94 rfl rfl) (tb_1 12 rfl rfl) (tb_8 91 rfl rfl) (tb_8 93 rfl rfl) (tb_0 47 rfl rfl) (show yX12_get.cls ≠ "java/lang/invoke/MethodHandle" ∧ yX12_get.cls ≠ "java/lang/invoke/VarHandle" ∧ (parseMethodDescriptor yX12_get.desc).map (fun d => d.parameters.length) = some 1 by decide +kernel) zs_blind (zs_ob hh276 ha (show RTg[11]? = some (0, 11, 0, fsX12) from rfl) (zCX12 hKn.1)) (fun U hU hW => ⟨rfl, by rw [hU]; exact hh276.l0, zKb s U hW.alike hKn, by rw [hU]; exact jg0⟩) hh276.2.2.1 hl306.1 (Nat.le_of_ble_eq_true rfl) (eX12_lookAtTime (144, .invokevirtual 361, 3) (List.mem_of_getElem? (i := 78) rfl)) (fun r310 s310 t310 lo310 g310 f310 l310 => ?_)
                  obtain ⟨z310, v310, q310, e310⟩ := f310
                  cases q310
                  rw [z310, g310]
                  have hh310 : zh_ok D cA RTg ro sz H0 s.heap lo310 := ⟨hh276.1, hh276.2.1, l310, hh276.2.2.2⟩
                  refine W.eq (g2 := F0 m 147 ls306 [.long v310, .ref a]) rfl ?_
                  refine ff_l2i hx hb (eX12_lookAtTime (147, .l2i, 1) (List.mem_of_getElem? (i := 79) rfl)) (by omega) (by omega) (fun v311 e311 => ?_)
                  refine tz_rowV (As := [.int v311]) (st := []) (b := a) (C := RX12) (Ts := gT) hx hb hml hown h2 (fun _ h => h) (hX12_bad l D cA ro sz H0 a v311 (g 10) T (sg) ha (by omega)) ⟨rfl, rfl⟩ ⟨by decide, by decide⟩ ⟨by decide, by decide⟩ (tb_8 47 rfl rfl) (tb_1 12 rfl rfl) (tb_8 44 rfl rfl) (tb_8 46 rfl rfl) (tb_0 37 rfl rfl) (show yX12_bad.cls ≠ "java/lang/invoke/MethodHandle" ∧ yX12_bad.cls ≠ "java/lang/invoke/VarHandle" ∧ (parseMethodDescriptor yX12_bad.desc).map (fun d => d.parameters.length) = some 1 by decide +kernel) zs_blind (zs_ob hh310 ha (show RTg[11]? = some (0, 11, 0, fsX12) from rfl) (zCX12 hKn.1)) (fun U hU hW => ⟨rfl, by rw [hU]; exact hh310.l0, zKb s U hW.alike hKn, by rw [hU]; exact jv0⟩) hh310.2.2.1 hl306.1 (Nat.le_of_ble_eq_true rfl) (eX12_lookAtTime (148, .invokevirtual 335, 3) (List.mem_of_getElem? (i := 80) rfl)) (fun r312 s312 t312 lo312 g312 f312 l312 => ?_)
                  obtain ⟨q312, z312, c312, jv312⟩ := f312
                  cases q312
                  rw [g312] at c312
                  have hh312 : zh_ok D cA RTg ro sz H0 t312.heap lo312 := ⟨z312.1, z312.2.1, l312, z312.2.2.2⟩
                  have kp312 := kp0.trans (c312.mono (ms' := vM) (by decide))
                  generalize hx312 : bdG (g 10) sg = x312 at jv312
                  have uu312 := jv312.2.2
                  unfold vOK at uu312
                  have bb312 := byI_bd T x312.1
                  have jg312 := jg0.kept ha c312 (by decide)
                  have mf312_38 := (c312.1 a 11 38 11 0 fsX12 ha rfl (by decide) (by decide)).trans f38
                  have mf312_39 := (c312.1 a 11 39 11 0 fsX12 ha rfl (by decide) (by decide)).trans f39
                  have jr312 := jr0.kept ha c312 (by decide)
                  refine W.eq (g2 := F0 m 151 ls306 []) rfl ?_
                  exact jn151 x312 v166 v169 v172 ls306 _ _ hh312 kp312 jv312 jg312 jr312 mf312_38 mf312_39 (by omega) (by omega) (by omega) (by rw [← hx312] <;> rfl) (by rw [← hx312] <;> rfl) (by unfold ltB; rw [if_neg (by omega)]; rw [← hx312]; simp only [lt1, if_neg d308] <;> rfl) (lv_sub hl306 [4, 3, 2, 5] rfl)
              · skip
                refine lv_aload_n hx hb (eX12_lookAtTime (95, .aload_n 0, 1) (List.mem_of_getElem? (i := 52) rfl)) rfl (lv_at hl273 4 rfl) ?_
                refine lv_aload_n hx hb (eX12_lookAtTime (96, .aload_n 0, 1) (List.mem_of_getElem? (i := 53) rfl)) rfl (lv_at hl273 4 rfl) ?_
                refine tz_get (r := 11) (k := 38) (t := (1, (-9223372036854775808), 9223372036854775807)) hx hb hh276 ha rfl rfl (hcl11 407 38 (1, (-9223372036854775808), 9223372036854775807) (by decide) rfl).1 f38 (eX12_lookAtTime (97, .getfield 407, 3) (List.mem_of_getElem? (i := 54) rfl)) ?_
                refine ff_lconst hx hb (eX12_lookAtTime (100, .lconst 1, 1) (List.mem_of_getElem? (i := 55) rfl)) rfl (fun v313 e313 => ?_)
                have hdyb := hdyh (by omega)
                refine ff_ladd hx hb (eX12_lookAtTime (101, .ladd, 1) (List.mem_of_getElem? (i := 56) rfl)) (by omega) (by omega) (fun v314 e314 => ?_)
                refine tz_rowV (As := [.long v314]) (st := []) (b := a) (C := RX12) (Ts := gT) hx hb hml hown h2 (fun _ h => h) (hX12_isDayG l D cA ro sz H0 a v314 (fun _ => True) ha) ⟨rfl, rfl⟩ ⟨by decide, by decide⟩ ⟨by decide, by decide⟩ (tb_7 62 rfl rfl) (tb_1 12 rfl rfl) (tb_7 59 rfl rfl) (tb_7 61 rfl rfl) (tb_0 4 rfl rfl) (show yX12_isDay.cls ≠ "java/lang/invoke/MethodHandle" ∧ yX12_isDay.cls ≠ "java/lang/invoke/VarHandle" ∧ (parseMethodDescriptor yX12_isDay.desc).map (fun d => d.parameters.length) = some 1 by decide +kernel) zs_blind (zs_ob hh276 ha (show RTg[11]? = some (0, 11, 0, fsX12) from rfl) (zCX12 hKn.1)) (fun U hU hW => ⟨rfl, by rw [hU]; exact hh276.l0, zKb s U hW.alike hKn, by rw [hU]; exact trivial⟩) hh276.2.2.1 hl273.1 (Nat.le_of_ble_eq_true rfl) (eX12_lookAtTime (102, .invokevirtual 159, 3) (List.mem_of_getElem? (i := 57) rfl)) (fun r315 s315 t315 lo315 g315 f315 l315 => ?_)
                obtain ⟨z315, v315, q315, e315⟩ := f315
                cases q315
                rw [z315, g315]
                have hh315 : zh_ok D cA RTg ro sz H0 s.heap lo315 := ⟨hh276.1, hh276.2.1, l315, hh276.2.2.2⟩
                refine W.eq (g2 := F0 m 105 ls273 [.int v315]) rfl ?_
                refine ff_if_eq hx hb (eX12_lookAtTime (105, .ifCond .eq 7, 3) (List.mem_of_getElem? (i := 58) rfl)) (tgt := 112) rfl (fun c316 => ?_) (fun c316 => ?_)
                · skip
                  refine ff_iconst hx hb (eX12_lookAtTime (112, .iconst 0, 1) (List.mem_of_getElem? (i := 61) rfl)) (by decide) (by decide) (fun v317 e317 => ?_)
                  refine lv_istore hx hb (eX12_lookAtTime (113, .istore 7, 2) (List.mem_of_getElem? (i := 62) rfl)) hl273 (by decide) rfl (fun ls318 hl318 => ?_)
                  refine lv_lload_n hx hb (eX12_lookAtTime (115, .lload_n 1, 1) (List.mem_of_getElem? (i := 63) rfl)) rfl (lv_at hl318 3 rfl) ?_
                  refine ff_ldc2 (n := 24) hx hb hown h2 (clX12_ok 412 24 (List.mem_of_getElem? (i := 35) rfl)) (eX12_lookAtTime (116, .ldc2_w 412, 3) (List.mem_of_getElem? (i := 64) rfl)) (fun v319 e319 => ?_)
                  refine ff_lcmp hx hb (eX12_lookAtTime (119, .lcmp, 1) (List.mem_of_getElem? (i := 65) rfl)) (fun v320 e320 => ?_)
                  refine ff_if_lt hx hb (eX12_lookAtTime (120, .ifCond .lt 8, 3) (List.mem_of_getElem? (i := 66) rfl)) (tgt := 128) rfl (fun c321 => ?_) (fun c321 => ?_)
                  · skip
                    refine ff_iconst hx hb (eX12_lookAtTime (128, .iconst 1, 1) (List.mem_of_getElem? (i := 69) rfl)) (by decide) (by decide) (fun v322 e322 => ?_)
                    refine lv_goto hx hb (eX12_lookAtTime (129, .goto 4, 3) (List.mem_of_getElem? (i := 70) rfl)) (tgt := 133) rfl ?_
                    refine lv_istore hx hb (eX12_lookAtTime (133, .istore 8, 2) (List.mem_of_getElem? (i := 72) rfl)) hl318 (by decide) rfl (fun ls323 hl323 => ?_)
                    refine lv_iload hx hb (eX12_lookAtTime (135, .iload 8, 2) (List.mem_of_getElem? (i := 73) rfl)) (lv_at hl323 0 rfl) ?_
                    refine ff_if_ne hx hb (eX12_lookAtTime (137, .ifCond .ne 14, 3) (List.mem_of_getElem? (i := 74) rfl)) (tgt := 151) rfl (fun c324 => ?_) (fun c324 => (by exfalso; omega))
                    have d325 : g 9 < 24 ∨ ltLate g hd dy := by unfold ltLate; omega
                    exact jn151 sg v166 v169 v172 ls323 _ _ hh315 kp0 jv0 jg0 jr0 f38 f39 (by omega) (by omega) (by omega) (rfl) (rfl) (by unfold ltB; rw [if_neg (by omega)]; simp only [lt1, if_pos d325] <;> rfl) (lv_sub hl323 [4, 3, 2, 5] rfl)
                  · skip
                    refine lv_iload hx hb (eX12_lookAtTime (123, .iload 7, 2) (List.mem_of_getElem? (i := 67) rfl)) (lv_at hl318 0 rfl) ?_
                    refine ff_if_eq hx hb (eX12_lookAtTime (125, .ifCond .eq 7, 3) (List.mem_of_getElem? (i := 68) rfl)) (tgt := 132) rfl (fun c326 => ?_) (fun c326 => (by exfalso; omega))
                    refine ff_iconst hx hb (eX12_lookAtTime (132, .iconst 0, 1) (List.mem_of_getElem? (i := 71) rfl)) (by decide) (by decide) (fun v327 e327 => ?_)
                    refine lv_istore hx hb (eX12_lookAtTime (133, .istore 8, 2) (List.mem_of_getElem? (i := 72) rfl)) hl318 (by decide) rfl (fun ls328 hl328 => ?_)
                    refine lv_iload hx hb (eX12_lookAtTime (135, .iload 8, 2) (List.mem_of_getElem? (i := 73) rfl)) (lv_at hl328 0 rfl) ?_
                    refine ff_if_ne hx hb (eX12_lookAtTime (137, .ifCond .ne 14, 3) (List.mem_of_getElem? (i := 74) rfl)) (tgt := 151) rfl (fun c329 => (by exfalso; omega)) (fun c329 => ?_)
                    have d330 : ¬ (g 9 < 24 ∨ ltLate g hd dy) := by unfold ltLate; omega
                    refine lv_aload_n hx hb (eX12_lookAtTime (140, .aload_n 0, 1) (List.mem_of_getElem? (i := 75) rfl)) rfl (lv_at hl328 5 rfl) ?_
                    refine lv_aload_n hx hb (eX12_lookAtTime (141, .aload_n 0, 1) (List.mem_of_getElem? (i := 76) rfl)) rfl (lv_at hl328 5 rfl) ?_
                    refine ff_bipush hx hb (eX12_lookAtTime (142, .bipush 10, 2) (List.mem_of_getElem? (i := 77) rfl)) (by decide) (by decide) (fun v331 e331 => ?_)
                    refine tz_rowV (As := [.int v331]) (st := [.ref a]) (b := a) (C := RX12) (Ts := gT) hx hb hml hown h2 (fun _ h => h) (hX12_get l D cA ro sz H0 a v331 10 n g h ha hn1 (by omega) (by decide)) ⟨rfl, rfl⟩ ⟨by decide, by decide⟩ ⟨by decide, by decide⟩ (tb_8 94 rfl rfl) (tb_1 12 rfl rfl) (tb_8 91 rfl rfl) (tb_8 93 rfl rfl) (tb_0 47 rfl rfl) (show yX12_get.cls ≠ "java/lang/invoke/MethodHandle" ∧ yX12_get.cls ≠ "java/lang/invoke/VarHandle" ∧ (parseMethodDescriptor yX12_get.desc).map (fun d => d.parameters.length) = some 1 by decide +kernel) zs_blind (zs_ob hh315 ha (show RTg[11]? = some (0, 11, 0, fsX12) from rfl) (zCX12 hKn.1)) (fun U hU hW => ⟨rfl, by rw [hU]; exact hh315.l0, zKb s U hW.alike hKn, by rw [hU]; exact jg0⟩) hh315.2.2.1 hl328.1 (Nat.le_of_ble_eq_true rfl) (eX12_lookAtTime (144, .invokevirtual 361, 3) (List.mem_of_getElem? (i := 78) rfl)) (fun r332 s332 t332 lo332 g332 f332 l332 => ?_)
                    obtain ⟨z332, v332, q332, e332⟩ := f332
                    cases q332
                    rw [z332, g332]
                    have hh332 : zh_ok D cA RTg ro sz H0 s.heap lo332 := ⟨hh315.1, hh315.2.1, l332, hh315.2.2.2⟩
                    refine W.eq (g2 := F0 m 147 ls328 [.long v332, .ref a]) rfl ?_
                    refine ff_l2i hx hb (eX12_lookAtTime (147, .l2i, 1) (List.mem_of_getElem? (i := 79) rfl)) (by omega) (by omega) (fun v333 e333 => ?_)
                    refine tz_rowV (As := [.int v333]) (st := []) (b := a) (C := RX12) (Ts := gT) hx hb hml hown h2 (fun _ h => h) (hX12_bad l D cA ro sz H0 a v333 (g 10) T (sg) ha (by omega)) ⟨rfl, rfl⟩ ⟨by decide, by decide⟩ ⟨by decide, by decide⟩ (tb_8 47 rfl rfl) (tb_1 12 rfl rfl) (tb_8 44 rfl rfl) (tb_8 46 rfl rfl) (tb_0 37 rfl rfl) (show yX12_bad.cls ≠ "java/lang/invoke/MethodHandle" ∧ yX12_bad.cls ≠ "java/lang/invoke/VarHandle" ∧ (parseMethodDescriptor yX12_bad.desc).map (fun d => d.parameters.length) = some 1 by decide +kernel) zs_blind (zs_ob hh332 ha (show RTg[11]? = some (0, 11, 0, fsX12) from rfl) (zCX12 hKn.1)) (fun U hU hW => ⟨rfl, by rw [hU]; exact hh332.l0, zKb s U hW.alike hKn, by rw [hU]; exact jv0⟩) hh332.2.2.1 hl328.1 (Nat.le_of_ble_eq_true rfl) (eX12_lookAtTime (148, .invokevirtual 335, 3) (List.mem_of_getElem? (i := 80) rfl)) (fun r334 s334 t334 lo334 g334 f334 l334 => ?_)
                    obtain ⟨q334, z334, c334, jv334⟩ := f334
                    cases q334
                    rw [g334] at c334
                    have hh334 : zh_ok D cA RTg ro sz H0 t334.heap lo334 := ⟨z334.1, z334.2.1, l334, z334.2.2.2⟩
                    have kp334 := kp0.trans (c334.mono (ms' := vM) (by decide))
                    generalize hx334 : bdG (g 10) sg = x334 at jv334
                    have uu334 := jv334.2.2
                    unfold vOK at uu334
                    have bb334 := byI_bd T x334.1
                    have jg334 := jg0.kept ha c334 (by decide)
                    have mf334_38 := (c334.1 a 11 38 11 0 fsX12 ha rfl (by decide) (by decide)).trans f38
                    have mf334_39 := (c334.1 a 11 39 11 0 fsX12 ha rfl (by decide) (by decide)).trans f39
                    have jr334 := jr0.kept ha c334 (by decide)
                    refine W.eq (g2 := F0 m 151 ls328 []) rfl ?_
                    exact jn151 x334 v166 v169 v172 ls328 _ _ hh334 kp334 jv334 jg334 jr334 mf334_38 mf334_39 (by omega) (by omega) (by omega) (by rw [← hx334] <;> rfl) (by rw [← hx334] <;> rfl) (by unfold ltB; rw [if_neg (by omega)]; rw [← hx334]; simp only [lt1, if_neg d330] <;> rfl) (lv_sub hl328 [4, 3, 2, 5] rfl)
                · skip
                  refine ff_iconst hx hb (eX12_lookAtTime (108, .iconst 1, 1) (List.mem_of_getElem? (i := 59) rfl)) (by decide) (by decide) (fun v335 e335 => ?_)
                  refine lv_goto hx hb (eX12_lookAtTime (109, .goto 4, 3) (List.mem_of_getElem? (i := 60) rfl)) (tgt := 113) rfl ?_
                  refine lv_istore hx hb (eX12_lookAtTime (113, .istore 7, 2) (List.mem_of_getElem? (i := 62) rfl)) hl273 (by decide) rfl (fun ls336 hl336 => ?_)
                  refine lv_lload_n hx hb (eX12_lookAtTime (115, .lload_n 1, 1) (List.mem_of_getElem? (i := 63) rfl)) rfl (lv_at hl336 3 rfl) ?_
                  refine ff_ldc2 (n := 24) hx hb hown h2 (clX12_ok 412 24 (List.mem_of_getElem? (i := 35) rfl)) (eX12_lookAtTime (116, .ldc2_w 412, 3) (List.mem_of_getElem? (i := 64) rfl)) (fun v337 e337 => ?_)
                  refine ff_lcmp hx hb (eX12_lookAtTime (119, .lcmp, 1) (List.mem_of_getElem? (i := 65) rfl)) (fun v338 e338 => ?_)
                  refine ff_if_lt hx hb (eX12_lookAtTime (120, .ifCond .lt 8, 3) (List.mem_of_getElem? (i := 66) rfl)) (tgt := 128) rfl (fun c339 => ?_) (fun c339 => ?_)
                  · skip
                    refine ff_iconst hx hb (eX12_lookAtTime (128, .iconst 1, 1) (List.mem_of_getElem? (i := 69) rfl)) (by decide) (by decide) (fun v340 e340 => ?_)
                    refine lv_goto hx hb (eX12_lookAtTime (129, .goto 4, 3) (List.mem_of_getElem? (i := 70) rfl)) (tgt := 133) rfl ?_
                    refine lv_istore hx hb (eX12_lookAtTime (133, .istore 8, 2) (List.mem_of_getElem? (i := 72) rfl)) hl336 (by decide) rfl (fun ls341 hl341 => ?_)
                    refine lv_iload hx hb (eX12_lookAtTime (135, .iload 8, 2) (List.mem_of_getElem? (i := 73) rfl)) (lv_at hl341 0 rfl) ?_
                    refine ff_if_ne hx hb (eX12_lookAtTime (137, .ifCond .ne 14, 3) (List.mem_of_getElem? (i := 74) rfl)) (tgt := 151) rfl (fun c342 => ?_) (fun c342 => (by exfalso; omega))
                    have d343 : g 9 < 24 ∨ ltLate g hd dy := by unfold ltLate; omega
                    exact jn151 sg v166 v169 v172 ls341 _ _ hh315 kp0 jv0 jg0 jr0 f38 f39 (by omega) (by omega) (by omega) (rfl) (rfl) (by unfold ltB; rw [if_neg (by omega)]; simp only [lt1, if_pos d343] <;> rfl) (lv_sub hl341 [4, 3, 2, 5] rfl)
                  · skip
                    refine lv_iload hx hb (eX12_lookAtTime (123, .iload 7, 2) (List.mem_of_getElem? (i := 67) rfl)) (lv_at hl336 0 rfl) ?_
                    refine ff_if_eq hx hb (eX12_lookAtTime (125, .ifCond .eq 7, 3) (List.mem_of_getElem? (i := 68) rfl)) (tgt := 132) rfl (fun c344 => (by exfalso; omega)) (fun c344 => ?_)
                    refine ff_iconst hx hb (eX12_lookAtTime (128, .iconst 1, 1) (List.mem_of_getElem? (i := 69) rfl)) (by decide) (by decide) (fun v345 e345 => ?_)
                    refine lv_goto hx hb (eX12_lookAtTime (129, .goto 4, 3) (List.mem_of_getElem? (i := 70) rfl)) (tgt := 133) rfl ?_
                    refine lv_istore hx hb (eX12_lookAtTime (133, .istore 8, 2) (List.mem_of_getElem? (i := 72) rfl)) hl336 (by decide) rfl (fun ls346 hl346 => ?_)
                    refine lv_iload hx hb (eX12_lookAtTime (135, .iload 8, 2) (List.mem_of_getElem? (i := 73) rfl)) (lv_at hl346 0 rfl) ?_
                    refine ff_if_ne hx hb (eX12_lookAtTime (137, .ifCond .ne 14, 3) (List.mem_of_getElem? (i := 74) rfl)) (tgt := 151) rfl (fun c347 => ?_) (fun c347 => (by exfalso; omega))
                    have d348 : g 9 < 24 ∨ ltLate g hd dy := by unfold ltLate; omega
                    exact jn151 sg v166 v169 v172 ls346 _ _ hh315 kp0 jv0 jg0 jr0 f38 f39 (by omega) (by omega) (by omega) (rfl) (rfl) (by unfold ltB; rw [if_neg (by omega)]; simp only [lt1, if_pos d348] <;> rfl) (lv_sub hl346 [4, 3, 2, 5] rfl)
  · skip
    have hfin : ((sg.1, sg.2.1, ltB L g hd dy sg.2.2) : uS) = sg := by unfold ltB; rw [if_pos (by omega)]
    exact W.vret hx hb hr (fun t ht hW => ⟨rfl, by rw [ht]; exact hh161.l0, by rw [ht]; exact kp0, by rw [ht, hfin]; exact jv0, by rw [ht]; exact jg0, by rw [ht]; exact jr0⟩) hh161.2.2.1 (eX12_lookAtTime (11, .return_, 1) (List.mem_of_getElem? (i := 6) rfl))
