def go_QP (D : va_G) (cA : Nat → ClassId) (ro : Nat → Option Nat) (sz : Nat) (H0 : Heap) (x fo zq zA zB : Nat) (ze : zE) (lp : Nat) (L : List Int) (ru rF rT : Nat) (rr : rU) (P : Int → Prop) : Array Value → State → Outcome → State → Prop := fun _ st oc t => ∃ r : Int64, oc = .returned (some (.long r)) ∧ P r.toInt ∧ zh_ok D cA RTg ro sz H0 t.heap [] ∧ zc_kept D RTg ro kF st.heap t.heap ∧ jGo D cA ro t.heap x fo zq zA zB ze lp L ru rF rT rr ∧ ∀ p9 : Nat, p9 ∉ [ru, fo] → t.heap[p9]? = st.heap[p9]?
theorem go_lo {L : List Int} {e : zE} {r : rU} {t mo dy d : Int} (hM : mOK (lmM L e r t)) (h1 : 0 ≤ mo) (h2 : 0 ≤ dy) (hd : mtG (lmM L e r t / 1440) mo d) : (mo = 0 ∧ dy = 0 ∧ (d + dy) * 1440 + (lmM L e r t - lmM L e r t / 1440 * 1440) = lmM L e r t) ∨ -526984791840 ≤ (d + dy) * 1440 + (lmM L e r t - lmM L e r t / 1440 * 1440) := by
  unfold mOK at hM
  by_cases g : mo = 0
  · rw [g] at hd
    have := mt_0 hd
    by_cases q : dy = 0
    · exact Or.inl ⟨g, q, by omega⟩
    · exact Or.inr (by omega)
  · have := mt_28 (by omega) hd
    exact Or.inr (by omega)
set_option maxRecDepth 100000 in
set_option maxHeartbeats 4000000 in
theorem hX11_instantOfSkippedE (l : Launch) (D : va_G) (cA : Nat → ClassId) (ro : Nat → Option Nat) (sz : Nat) (H0 : Heap) (x : Nat) (zq : Nat) (m0 : Int64) (s0 : Int32) (fo zA zB : Nat) (ze : zE) (lp : Nat) (L : List Int) (ru rF rT : Nat) (rr : rU) (hx10 : ro x = some 10) (rfo : ro fo = some 19) (rzq : ro zq = some 9) (hjl : jL L) (hoA : oOK ze.1) (hoB9 : ∀ c ∈ ze.2, oOK c.2 ∧ -31700000000000 ≤ c.1 ∧ c.1 ≤ 31700000000000) (hm1 : -526984791840 ≤ m0.toInt) (hm2 : m0.toInt ≤ 524913079679) (hs1 : 0 ≤ s0.toInt) (hs2 : s0.toInt ≤ 60) : Met l yX11_instantOfSkipped (gW yX11_instantOfSkipped cX11_instantOfSkipped 16 (some .long)) { frames := 4, cells := 0, slots := 0, locals := 107 } (zs_PB D cA ro sz H0 (fun H => jGo D cA ro H x fo zq zA zB ze lp L ru rF rT rr) [.ref x, .ref zq, .long m0, .int s0]) (go_QP D cA ro sz H0 x fo zq zA zB ze lp L ru rF rT rr (fun r => r = skF L ze rr m0.toInt s0.toInt 120 (stI L (m0.toInt - 1440) - 1))) 0 0 (zy_fr sz) := by
  refine zy_ofW (cc := cX11_instantOfSkipped) (maxL := 16) (ret := (some .long)) (by decide +kernel) rfl ?_
  intro p e s m args below meth c s1 B hml hv
  obtain ⟨rfl, hh, ⟨hKn, hBQ⟩, hJ⟩ := hv
  have hx := B.exec
  have hb := B.bytes
  have hr := B.returns
  have hlk := B.notSynchronized
  have hts0 := atoms_spec (ws := gW yX11_instantOfSkipped cX11_instantOfSkipped 16 (some .long)) B.pre
  have h2 : ∀ w ∈ gT, w.before ([.ref x, .ref zq, .long m0, .int s0] : List Value).toArray s = true := fun w hw => hts0 w (List.mem_cons_of_mem _ hw)
  have hown : s.vm.findClass RX11 = some m.cls := findClass_of_methodNamed B.named
  have hl := lv_entry [.ref x, .ref zq, .long m0, .int s0] (n := 16) (Nat.le_of_ble_eq_true rfl)
  rw [lg_entry_eq]
  generalize (lg_sl [.ref x, .ref zq, .long m0, .int s0] ++ List.replicate (16 - (lg_sl [.ref x, .ref zq, .long m0, .int s0]).length) Slot.unset).toArray = ls at hl ⊢
  have b_m0 := zn_i64 m0
  have b_s0 := zn_i32 s0
  have hD := zD_all h2 hKn.1
  have hcl10 := fun (idx k : Nat) (t : zt_T) (h : (idx, 10, k) ∈ gfX11) (hk : fsX11[k]? = some t) => zf_clause (ro := ro) (ms := kF) h2 hown hKn.1 gfX11_ok (by decide +kernel) idx 10 k 10 0 fsX11 t h rfl hk
  have kp0 : zc_kept D RTg ro kF s.heap s.heap := zc_kept.refl
  obtain ⟨fx0, fx8, hzr, zf0, cf0⟩ := id hJ
  have rl4 := hzr.2.2.1
  have hru := hzr.2.2.2.2.2.1
  have hjL := hjl.2.1
  have hoB : ∀ c ∈ ze.2, oOK c.2 := fun c hc => (hoB9 c hc).1
  have fr0 : ∀ p9 : Nat, p9 ∉ [ru, fo] → s.heap[p9]? = s.heap[p9]? := fun _ _ => rfl
  refine lv_aload_n hx hb (eX11_instantOfSkipped (0, .aload_n 0, 1) (List.mem_of_getElem? (i := 0) rfl)) rfl (lv_at hl 0 rfl) ?_
  refine tz_get (r := 10) (k := 0) (t := (12, 0, 0)) hx hb hh hx10 rfl rfl (hcl10 14 0 (12, 0, 0) (by decide) rfl).1 fx0 (eX11_instantOfSkipped (1, .getfield 14, 3) (List.mem_of_getElem? (i := 1) rfl)) ?_
  refine lv_lload_n hx hb (eX11_instantOfSkipped (4, .lload_n 2, 1) (List.mem_of_getElem? (i := 2) rfl)) rfl (lv_at hl 2 rfl) ?_
  refine ff_ldc2 (n := 1440) hx hb hown h2 (clX11_ok 328 1440 (List.mem_of_getElem? (i := 2) rfl)) (eX11_instantOfSkipped (5, .ldc2_w 328, 3) (List.mem_of_getElem? (i := 3) rfl)) (fun v1 e1 => ?_)
  refine ff_lsub hx hb (eX11_instantOfSkipped (8, .lsub, 1) (List.mem_of_getElem? (i := 4) rfl)) (by omega) (by omega) (fun v2 e2 => ?_)
  refine ff_ldc2 (n := (-526984793280)) hx hb hown h2 (clX11_ok 404 (-526984793280) (List.mem_of_getElem? (i := 10) rfl)) (eX11_instantOfSkipped (9, .ldc2_w 404, 3) (List.mem_of_getElem? (i := 5) rfl)) (fun v3 e3 => ?_)
  refine zu_S (vs := [.long v2, .long v3]) (rest := [.ref lp]) hx hb hml hown hts0 zu_BT (hJ9_maxL l v2 v3) ⟨rfl, rfl⟩ ⟨by decide, by decide⟩ ⟨by decide, by decide⟩ (tb_4 182 rfl rfl) (tb_1 18 rfl rfl) (tb_6 102 rfl rfl) (tb_4 181 rfl rfl) (show yJ9_max_f86c9.cls ≠ "java/lang/invoke/MethodHandle" ∧ yJ9_max_f86c9.cls ≠ "java/lang/invoke/VarHandle" ∧ (parseMethodDescriptor yJ9_max_f86c9.desc).map (fun d => d.parameters.length) = some 2 by decide +kernel) rfl (fun _ _ _ => trivial) hl.1 (Nat.le_of_ble_eq_true rfl) (eX11_instantOfSkipped (12, .invokestatic 406, 3) (List.mem_of_getElem? (i := 6) rfl)) (fun w4 f4 => ?_)
  obtain ⟨v4, rfl, e4⟩ := f4
  refine ff_iconst hx hb (eX11_instantOfSkipped (15, .iconst 0, 1) (List.mem_of_getElem? (i := 7) rfl)) (by decide) (by decide) (fun v5 e5 => ?_)
  refine tz_rowV (As := [.long v4, .int v5]) (st := []) (b := lp) (C := RX5) (Ts := gT) hx hb hml hown h2 (fun _ h => h) (hX5_instantOf l D cA ro sz H0 lp v4 v5 L rl4 (by omega) (by omega) (by omega) (by omega)) ⟨rfl, rfl⟩ ⟨by decide, by decide⟩ ⟨by decide, by decide⟩ (tb_3 123 rfl rfl) (tb_1 2 rfl rfl) (tb_3 120 rfl rfl) (tb_3 121 rfl rfl) (tb_3 122 rfl rfl) (show yX5_instantOf.cls ≠ "java/lang/invoke/MethodHandle" ∧ yX5_instantOf.cls ≠ "java/lang/invoke/VarHandle" ∧ (parseMethodDescriptor yX5_instantOf.desc).map (fun d => d.parameters.length) = some 2 by decide +kernel) zs_blind (zs_ob hh rl4 (show RTg[4]? = some (0, 4, 0, fsX5) from rfl) (zCX5 hKn.1)) (fun U hU hW => ⟨rfl, by rw [hU]; exact hh.l0, zKb s U hW.alike hKn, by rw [hU]; exact hJ.2.2.1.2.2.2.1⟩) hh.2.2.1 hl.1 (Nat.le_of_ble_eq_true rfl) (eX11_instantOfSkipped (16, .invokevirtual 173, 3) (List.mem_of_getElem? (i := 8) rfl)) (fun r6 s6 t6 lo6 g6 f6 l6 => ?_)
  obtain ⟨z6, v6, q6, e6⟩ := f6
  cases q6
  rw [z6, g6]
  have hh6 : zh_ok D cA RTg ro sz H0 s.heap lo6 := ⟨hh.1, hh.2.1, l6, hh.2.2.2⟩
  have ib6 := lsI_b hjL (v4.toInt / 1440)
  have ex6 := e6
  unfold stI at e6
  refine W.eq (g2 := F0 m 19 ls [.long v6]) rfl ?_
  have hst0 : v6.toInt = stI L (m0.toInt - 1440) := by rw [ex6, show v4.toInt = m0.toInt - 1440 by omega]; omega
  refine ff_lconst hx hb (eX11_instantOfSkipped (19, .lconst 1, 1) (List.mem_of_getElem? (i := 9) rfl)) rfl (fun v7 e7 => ?_)
  refine ff_lsub hx hb (eX11_instantOfSkipped (20, .lsub, 1) (List.mem_of_getElem? (i := 10) rfl)) (by omega) (by omega) (fun v8 e8 => ?_)
  refine lv_lstore hx hb (eX11_instantOfSkipped (21, .lstore 5, 2) (List.mem_of_getElem? (i := 11) rfl)) hl (by decide) rfl (fun ls9 hl9 => ?_)
  refine ff_iconst hx hb (eX11_instantOfSkipped (23, .iconst 0, 1) (List.mem_of_getElem? (i := 12) rfl)) (by decide) (by decide) (fun v10 e10 => ?_)
  refine lv_istore hx hb (eX11_instantOfSkipped (24, .istore 7, 2) (List.mem_of_getElem? (i := 13) rfl)) hl9 (by decide) rfl (fun ls11 hl11 => ?_)
  have loop : ∀ (n9 i : Nat) (iv : Int32) (tc : Int64) (ls : Array Slot) (H : Heap) (lo0 : List Loc), i + n9 = 120 → iv.toInt = (i : Int) → (-31900000000000 ≤ tc.toInt ∧ tc.toInt ≤ 31900000000000) → skF L ze rr m0.toInt s0.toInt n9 tc.toInt = skF L ze rr m0.toInt s0.toInt 120 (stI L (m0.toInt - 1440) - 1) → zh_ok D cA RTg ro sz H0 H lo0 → zc_kept D RTg ro kF s.heap H → jGo D cA ro H x fo zq zA zB ze lp L ru rF rT rr → (∀ p9 : Nat, p9 ∉ [ru, fo] → H[p9]? = s.heap[p9]?) → lv_has ls 16 [(7, .int iv), (5, .long tc), (0, .ref x), (1, .ref zq), (2, .long m0), (4, .int s0)] → W p l e (headSpec (gW yX11_instantOfSkipped cX11_instantOfSkipped 16 (some .long)) { frames := 4, cells := 0, slots := 0, locals := 107 }).room s m ([.ref x, .ref zq, .long m0, .int s0] : List Value).toArray below meth c H lo0 0 0 (MQ below (go_QP D cA ro sz H0 x fo zq zA zB ze lp L ru rF rT rr (fun r => r = skF L ze rr m0.toInt s0.toInt 120 (stI L (m0.toInt - 1440) - 1))) ([.ref x, .ref zq, .long m0, .int s0] : List Value).toArray s 0 0 (zy_fr sz)) (F0 m 26 ls []) := by
    intro n9
    induction n9 with
    | zero =>
      intro i iv tc ls H lo0 hi hiv htc hF hh0 kpl jgl frl hl
      have fal := jgl.1
      have fbl := jgl.2.1
      refine lv_iload hx hb (eX11_instantOfSkipped (26, .iload 7, 2) (List.mem_of_getElem? (i := 14) rfl)) (lv_at hl 0 rfl) ?_
      refine ff_bipush hx hb (eX11_instantOfSkipped (28, .bipush 120, 2) (List.mem_of_getElem? (i := 15) rfl)) (by decide) (by decide) (fun v12 e12 => ?_)
      refine ff_icmp_ge hx hb (eX11_instantOfSkipped (30, .if_icmp .ge 113, 3) (List.mem_of_getElem? (i := 16) rfl)) (tgt := 143) rfl (fun c13 => ?_) (fun c13 => (by exfalso; omega))
      refine ff_ldc2 (n := (-9223372036854775808)) hx hb hown h2 (clX11_ok 62 (-9223372036854775808) (List.mem_of_getElem? (i := 0) rfl)) (eX11_instantOfSkipped (143, .ldc2_w 62, 3) (List.mem_of_getElem? (i := 72) rfl)) (fun v14 e14 => ?_)
      exact W.lret hx hb hr (fun t ht hW => ⟨_, rfl, by rw [← hF]; show _ = NONEI; unfold NONEI; omega, by rw [ht]; exact hh0.l0, by rw [ht]; exact kpl, by rw [ht]; exact jgl, by rw [ht]; exact frl⟩) hh0.2.2.1 (eX11_instantOfSkipped (146, .lreturn, 1) (List.mem_of_getElem? (i := 73) rfl))
    | succ n9 ih =>
      intro i iv tc ls H lo0 hi hiv htc hF hh0 kpl jgl frl hl
      have fal := jgl.1
      have fbl := jgl.2.1
      refine lv_iload hx hb (eX11_instantOfSkipped (26, .iload 7, 2) (List.mem_of_getElem? (i := 14) rfl)) (lv_at hl 0 rfl) ?_
      refine ff_bipush hx hb (eX11_instantOfSkipped (28, .bipush 120, 2) (List.mem_of_getElem? (i := 15) rfl)) (by decide) (by decide) (fun v15 e15 => ?_)
      refine ff_icmp_ge hx hb (eX11_instantOfSkipped (30, .if_icmp .ge 113, 3) (List.mem_of_getElem? (i := 16) rfl)) (tgt := 143) rfl (fun c16 => (by exfalso; omega)) (fun c16 => ?_)
      refine lv_aload_n hx hb (eX11_instantOfSkipped (33, .aload_n 1, 1) (List.mem_of_getElem? (i := 17) rfl)) rfl (lv_at hl 3 rfl) ?_
      refine lv_lload hx hb (eX11_instantOfSkipped (34, .lload 5, 2) (List.mem_of_getElem? (i := 18) rfl)) (lv_at hl 1 rfl) ?_
      refine tz_rowV (As := [.long tc]) (st := []) (b := zq) (C := RX10) (Ts := gT) hx hb hml hown h2 (fun _ h => h) (hX10_changeBehind l D cA ro sz H0 zq tc zA zB ze lp L ru rF rT rr rzq hjL (by omega) (by omega) hoB9) ⟨rfl, rfl⟩ ⟨by decide, by decide⟩ ⟨by decide, by decide⟩ (tb_4 178 rfl rfl) (tb_1 20 rfl rfl) (tb_4 175 rfl rfl) (tb_4 176 rfl rfl) (tb_4 177 rfl rfl) (show yX10_changeBehind.cls ≠ "java/lang/invoke/MethodHandle" ∧ yX10_changeBehind.cls ≠ "java/lang/invoke/VarHandle" ∧ (parseMethodDescriptor yX10_changeBehind.desc).map (fun d => d.parameters.length) = some 1 by decide +kernel) zs_blindB (zs_ob hh0 rzq (show RTg[9]? = some (0, 9, 0, fsX10) from rfl) (zCX10 hKn.1)) (fun U hU hW => ⟨rfl, by rw [hU]; exact hh0.l0, ⟨zKb s U hW.alike hKn, hBQ.alike hW.alike⟩, by rw [hU]; exact jgl.2.2.1⟩) hh0.2.2.1 hl.1 (Nat.le_of_ble_eq_true rfl) (eX11_instantOfSkipped (36, .invokevirtual 235, 3) (List.mem_of_getElem? (i := 19) rfl)) (fun r17 s17 t17 lo17 g17 f17 l17 => ?_)
      obtain ⟨v17, q17, e17, z17, c17, j17, fx17⟩ := f17
      cases q17
      rw [g17] at c17 fx17
      have fr17 : ∀ p9 : Nat, p9 ∉ [ru, fo] → t17.heap[p9]? = s.heap[p9]? := fun p9 h9 => (fx17 p9 (fun q => h9 (by rw [List.mem_singleton.mp q]; exact List.mem_cons_self))).trans (frl p9 h9)
      have hh17 : zh_ok D cA RTg ro sz H0 t17.heap lo17 := ⟨z17.1, z17.2.1, l17, z17.2.2.2⟩
      have kp17 := kpl.trans (c17.mono (ms' := kF) (by decide))
      have jg17 := jGo.upd hx10 c17 (by decide) j17 (by obtain ⟨zf9, cf9⟩ := jgl.2.2.2; exact ⟨zf9, (fx17 fo (l_n1 (ro_ne rfo hru (by decide)))).trans cf9⟩) jgl
      have fa17 := jg17.1
      have fb17 := jg17.2.1
      have zb17 := zbF_bd (e := ze) (r := rr) (t := tc.toInt) hjL hoB9
      rw [← e17] at zb17
      unfold NONEI at zb17
      refine W.eq (g2 := F0 m 39 ls [.long v17]) rfl ?_
      refine lv_lstore hx hb (eX11_instantOfSkipped (39, .lstore 8, 2) (List.mem_of_getElem? (i := 20) rfl)) hl (by decide) rfl (fun ls18 hl18 => ?_)
      refine lv_lload hx hb (eX11_instantOfSkipped (41, .lload 8, 2) (List.mem_of_getElem? (i := 21) rfl)) (lv_at hl18 0 rfl) ?_
      refine ff_ldc2 (n := (-9223372036854775808)) hx hb hown h2 (clX11_ok 62 (-9223372036854775808) (List.mem_of_getElem? (i := 0) rfl)) (eX11_instantOfSkipped (43, .ldc2_w 62, 3) (List.mem_of_getElem? (i := 22) rfl)) (fun v19 e19 => ?_)
      refine ff_lcmp hx hb (eX11_instantOfSkipped (46, .lcmp, 1) (List.mem_of_getElem? (i := 23) rfl)) (fun v20 e20 => ?_)
      refine ff_if_ne hx hb (eX11_instantOfSkipped (47, .ifCond .ne 7, 3) (List.mem_of_getElem? (i := 24) rfl)) (tgt := 54) rfl (fun c21 => ?_) (fun c21 => ?_)
      · skip
        have hne9 : zbF L ze rr tc.toInt ≠ NONEI := fun q9 => by rw [← e17] at q9; unfold NONEI at q9; omega
        refine lv_lload_n hx hb (eX11_instantOfSkipped (54, .lload_n 2, 1) (List.mem_of_getElem? (i := 27) rfl)) rfl (lv_at hl18 5 rfl) ?_
        refine lv_aload_n hx hb (eX11_instantOfSkipped (55, .aload_n 1, 1) (List.mem_of_getElem? (i := 28) rfl)) rfl (lv_at hl18 4 rfl) ?_
        refine lv_lload hx hb (eX11_instantOfSkipped (56, .lload 8, 2) (List.mem_of_getElem? (i := 29) rfl)) (lv_at hl18 0 rfl) ?_
        refine ff_lconst hx hb (eX11_instantOfSkipped (58, .lconst 1, 1) (List.mem_of_getElem? (i := 30) rfl)) rfl (fun v22 e22 => ?_)
        refine ff_lsub hx hb (eX11_instantOfSkipped (59, .lsub, 1) (List.mem_of_getElem? (i := 31) rfl)) (by omega) (by omega) (fun v23 e23 => ?_)
        refine tz_rowV (As := [.long v23]) (st := [.long m0]) (b := zq) (C := RX10) (Ts := gT) hx hb hml hown h2 (fun _ h => h) (hX10_offsetAt l D cA ro sz H0 zq v23 zA zB ze lp L ru rF rT rr rzq hjL (by omega) (by omega)) ⟨rfl, rfl⟩ ⟨by decide, by decide⟩ ⟨by decide, by decide⟩ (tb_4 113 rfl rfl) (tb_1 20 rfl rfl) (tb_4 110 rfl rfl) (tb_4 111 rfl rfl) (tb_4 112 rfl rfl) (show yX10_offsetAt.cls ≠ "java/lang/invoke/MethodHandle" ∧ yX10_offsetAt.cls ≠ "java/lang/invoke/VarHandle" ∧ (parseMethodDescriptor yX10_offsetAt.desc).map (fun d => d.parameters.length) = some 1 by decide +kernel) zs_blindB (zs_ob hh17 rzq (show RTg[9]? = some (0, 9, 0, fsX10) from rfl) (zCX10 hKn.1)) (fun U hU hW => ⟨rfl, by rw [hU]; exact hh17.l0, ⟨zKb s U hW.alike hKn, hBQ.alike hW.alike⟩, by rw [hU]; exact jg17.2.2.1⟩) hh17.2.2.1 hl18.1 (Nat.le_of_ble_eq_true rfl) (eX11_instantOfSkipped (60, .invokevirtual 226, 3) (List.mem_of_getElem? (i := 32) rfl)) (fun r24 s24 t24 lo24 g24 f24 l24 => ?_)
        obtain ⟨v24, q24, e24, z24, c24, j24, fx24⟩ := f24
        cases q24
        rw [g24] at c24 fx24
        have fr24 : ∀ p9 : Nat, p9 ∉ [ru, fo] → t24.heap[p9]? = s.heap[p9]? := fun p9 h9 => (fx24 p9 (fun q => h9 (by rw [List.mem_singleton.mp q]; exact List.mem_cons_self))).trans (fr17 p9 h9)
        have hh24 : zh_ok D cA RTg ro sz H0 t24.heap lo24 := ⟨z24.1, z24.2.1, l24, z24.2.2.2⟩
        have kp24 := kp17.trans (c24.mono (ms' := kF) (by decide))
        have jg24 := jGo.upd hx10 c24 (by decide) j24 (by obtain ⟨zf9, cf9⟩ := jg17.2.2.2; exact ⟨zf9, (fx24 fo (l_n1 (ro_ne rfo hru (by decide)))).trans cf9⟩) jg17
        have fa24 := jg24.1
        have fb24 := jg24.2.1
        have ob24 := ofF_bd (L := L) (t := v23.toInt) jg24.2.2.1.2.2.2.2.2.2.2.2.2.2 hoA hoB
        rw [← e24] at ob24
        refine W.eq (g2 := F0 m 63 ls18 [.int v24, .long m0]) rfl ?_
        rw [show v23.toInt = zbF L ze rr tc.toInt - 1 by omega] at e24
        refine ff_i2l hx hb (eX11_instantOfSkipped (63, .i2l, 1) (List.mem_of_getElem? (i := 33) rfl)) (fun v25 e25 => ?_)
        refine ff_lsub hx hb (eX11_instantOfSkipped (64, .lsub, 1) (List.mem_of_getElem? (i := 34) rfl)) (by omega) (by omega) (fun v26 e26 => ?_)
        refine lv_lstore hx hb (eX11_instantOfSkipped (65, .lstore 10, 2) (List.mem_of_getElem? (i := 35) rfl)) hl18 (by decide) rfl (fun ls27 hl27 => ?_)
        refine lv_aload_n hx hb (eX11_instantOfSkipped (67, .aload_n 0, 1) (List.mem_of_getElem? (i := 36) rfl)) rfl (lv_at hl27 4 rfl) ?_
        refine tz_get (r := 10) (k := 0) (t := (12, 0, 0)) hx hb hh24 hx10 rfl rfl (hcl10 14 0 (12, 0, 0) (by decide) rfl).1 fa24 (eX11_instantOfSkipped (68, .getfield 14, 3) (List.mem_of_getElem? (i := 37) rfl)) ?_
        refine lv_lload hx hb (eX11_instantOfSkipped (71, .lload 10, 2) (List.mem_of_getElem? (i := 38) rfl)) (lv_at hl27 0 rfl) ?_
        refine lv_iload hx hb (eX11_instantOfSkipped (73, .iload 4, 2) (List.mem_of_getElem? (i := 39) rfl)) (lv_at hl27 7 rfl) ?_
        refine tz_rowV (As := [.long v26, .int s0]) (st := []) (b := lp) (C := RX5) (Ts := gT) hx hb hml hown h2 (fun _ h => h) (hX5_instantOf l D cA ro sz H0 lp v26 s0 L rl4 (by omega) (by omega) (by omega) (by omega)) ⟨rfl, rfl⟩ ⟨by decide, by decide⟩ ⟨by decide, by decide⟩ (tb_3 123 rfl rfl) (tb_1 2 rfl rfl) (tb_3 120 rfl rfl) (tb_3 121 rfl rfl) (tb_3 122 rfl rfl) (show yX5_instantOf.cls ≠ "java/lang/invoke/MethodHandle" ∧ yX5_instantOf.cls ≠ "java/lang/invoke/VarHandle" ∧ (parseMethodDescriptor yX5_instantOf.desc).map (fun d => d.parameters.length) = some 2 by decide +kernel) zs_blind (zs_ob hh24 rl4 (show RTg[4]? = some (0, 4, 0, fsX5) from rfl) (zCX5 hKn.1)) (fun U hU hW => ⟨rfl, by rw [hU]; exact hh24.l0, zKb s U hW.alike hKn, by rw [hU]; exact jg24.2.2.1.2.2.2.1⟩) hh24.2.2.1 hl27.1 (Nat.le_of_ble_eq_true rfl) (eX11_instantOfSkipped (75, .invokevirtual 173, 3) (List.mem_of_getElem? (i := 40) rfl)) (fun r28 s28 t28 lo28 g28 f28 l28 => ?_)
        obtain ⟨z28, v28, q28, e28⟩ := f28
        cases q28
        rw [z28, g28]
        have hh28 : zh_ok D cA RTg ro sz H0 t24.heap lo28 := ⟨hh24.1, hh24.2.1, l28, hh24.2.2.2⟩
        have ib28 := lsI_b hjL (v26.toInt / 1440)
        have ex28 := e28
        unfold stI at e28
        refine W.eq (g2 := F0 m 78 ls27 [.long v28]) rfl ?_
        refine lv_lstore hx hb (eX11_instantOfSkipped (78, .lstore 12, 2) (List.mem_of_getElem? (i := 41) rfl)) hl27 (by decide) rfl (fun ls29 hl29 => ?_)
        refine lv_aload_n hx hb (eX11_instantOfSkipped (80, .aload_n 0, 1) (List.mem_of_getElem? (i := 42) rfl)) rfl (lv_at hl29 5 rfl) ?_
        refine tz_get (r := 10) (k := 0) (t := (12, 0, 0)) hx hb hh28 hx10 rfl rfl (hcl10 14 0 (12, 0, 0) (by decide) rfl).1 fa24 (eX11_instantOfSkipped (81, .getfield 14, 3) (List.mem_of_getElem? (i := 43) rfl)) ?_
        refine lv_lload_n hx hb (eX11_instantOfSkipped (84, .lload_n 2, 1) (List.mem_of_getElem? (i := 44) rfl)) rfl (lv_at hl29 7 rfl) ?_
        refine lv_aload_n hx hb (eX11_instantOfSkipped (85, .aload_n 1, 1) (List.mem_of_getElem? (i := 45) rfl)) rfl (lv_at hl29 6 rfl) ?_
        refine lv_lload hx hb (eX11_instantOfSkipped (86, .lload 8, 2) (List.mem_of_getElem? (i := 46) rfl)) (lv_at hl29 2 rfl) ?_
        refine tz_rowV (As := [.long v17]) (st := [.long m0, .ref lp]) (b := zq) (C := RX10) (Ts := gT) hx hb hml hown h2 (fun _ h => h) (hX10_offsetAt l D cA ro sz H0 zq v17 zA zB ze lp L ru rF rT rr rzq hjL (by omega) (by omega)) ⟨rfl, rfl⟩ ⟨by decide, by decide⟩ ⟨by decide, by decide⟩ (tb_4 113 rfl rfl) (tb_1 20 rfl rfl) (tb_4 110 rfl rfl) (tb_4 111 rfl rfl) (tb_4 112 rfl rfl) (show yX10_offsetAt.cls ≠ "java/lang/invoke/MethodHandle" ∧ yX10_offsetAt.cls ≠ "java/lang/invoke/VarHandle" ∧ (parseMethodDescriptor yX10_offsetAt.desc).map (fun d => d.parameters.length) = some 1 by decide +kernel) zs_blindB (zs_ob hh28 rzq (show RTg[9]? = some (0, 9, 0, fsX10) from rfl) (zCX10 hKn.1)) (fun U hU hW => ⟨rfl, by rw [hU]; exact hh28.l0, ⟨zKb s U hW.alike hKn, hBQ.alike hW.alike⟩, by rw [hU]; exact jg24.2.2.1⟩) hh28.2.2.1 hl29.1 (Nat.le_of_ble_eq_true rfl) (eX11_instantOfSkipped (88, .invokevirtual 226, 3) (List.mem_of_getElem? (i := 47) rfl)) (fun r30 s30 t30 lo30 g30 f30 l30 => ?_)
        obtain ⟨v30, q30, e30, z30, c30, j30, fx30⟩ := f30
        cases q30
        rw [g30] at c30 fx30
        have fr30 : ∀ p9 : Nat, p9 ∉ [ru, fo] → t30.heap[p9]? = s.heap[p9]? := fun p9 h9 => (fx30 p9 (fun q => h9 (by rw [List.mem_singleton.mp q]; exact List.mem_cons_self))).trans (fr24 p9 h9)
        have hh30 : zh_ok D cA RTg ro sz H0 t30.heap lo30 := ⟨z30.1, z30.2.1, l30, z30.2.2.2⟩
        have kp30 := kp24.trans (c30.mono (ms' := kF) (by decide))
        have jg30 := jGo.upd hx10 c30 (by decide) j30 (by obtain ⟨zf9, cf9⟩ := jg24.2.2.2; exact ⟨zf9, (fx30 fo (l_n1 (ro_ne rfo hru (by decide)))).trans cf9⟩) jg24
        have fa30 := jg30.1
        have fb30 := jg30.2.1
        have ob30 := ofF_bd (L := L) (t := v17.toInt) jg30.2.2.1.2.2.2.2.2.2.2.2.2.2 hoA hoB
        rw [← e30] at ob30
        refine W.eq (g2 := F0 m 91 ls29 [.int v30, .long m0, .ref lp]) rfl ?_
        rw [e17] at e30
        refine ff_i2l hx hb (eX11_instantOfSkipped (91, .i2l, 1) (List.mem_of_getElem? (i := 48) rfl)) (fun v31 e31 => ?_)
        refine ff_lsub hx hb (eX11_instantOfSkipped (92, .lsub, 1) (List.mem_of_getElem? (i := 49) rfl)) (by omega) (by omega) (fun v32 e32 => ?_)
        refine lv_iload hx hb (eX11_instantOfSkipped (93, .iload 4, 2) (List.mem_of_getElem? (i := 50) rfl)) (lv_at hl29 8 rfl) ?_
        refine tz_rowV (As := [.long v32, .int s0]) (st := []) (b := lp) (C := RX5) (Ts := gT) hx hb hml hown h2 (fun _ h => h) (hX5_instantOf l D cA ro sz H0 lp v32 s0 L rl4 (by omega) (by omega) (by omega) (by omega)) ⟨rfl, rfl⟩ ⟨by decide, by decide⟩ ⟨by decide, by decide⟩ (tb_3 123 rfl rfl) (tb_1 2 rfl rfl) (tb_3 120 rfl rfl) (tb_3 121 rfl rfl) (tb_3 122 rfl rfl) (show yX5_instantOf.cls ≠ "java/lang/invoke/MethodHandle" ∧ yX5_instantOf.cls ≠ "java/lang/invoke/VarHandle" ∧ (parseMethodDescriptor yX5_instantOf.desc).map (fun d => d.parameters.length) = some 2 by decide +kernel) zs_blind (zs_ob hh30 rl4 (show RTg[4]? = some (0, 4, 0, fsX5) from rfl) (zCX5 hKn.1)) (fun U hU hW => ⟨rfl, by rw [hU]; exact hh30.l0, zKb s U hW.alike hKn, by rw [hU]; exact jg30.2.2.1.2.2.2.1⟩) hh30.2.2.1 hl29.1 (Nat.le_of_ble_eq_true rfl) (eX11_instantOfSkipped (95, .invokevirtual 173, 3) (List.mem_of_getElem? (i := 51) rfl)) (fun r33 s33 t33 lo33 g33 f33 l33 => ?_)
        obtain ⟨z33, v33, q33, e33⟩ := f33
        cases q33
        rw [z33, g33]
        have hh33 : zh_ok D cA RTg ro sz H0 t30.heap lo33 := ⟨hh30.1, hh30.2.1, l33, hh30.2.2.2⟩
        have ib33 := lsI_b hjL (v32.toInt / 1440)
        have ex33 := e33
        unfold stI at e33
        refine W.eq (g2 := F0 m 98 ls29 [.long v33]) rfl ?_
        refine lv_lstore hx hb (eX11_instantOfSkipped (98, .lstore 14, 2) (List.mem_of_getElem? (i := 52) rfl)) hl29 (by decide) rfl (fun ls34 hl34 => ?_)
        have hA9 : v28.toInt = stI L (m0.toInt - ofF L ze rr (zbF L ze rr tc.toInt - 1)) + s0.toInt := by rw [ex28, show v26.toInt = m0.toInt - ofF L ze rr (zbF L ze rr tc.toInt - 1) by omega]
        have hB9 : v33.toInt = stI L (m0.toInt - ofF L ze rr (zbF L ze rr tc.toInt)) + s0.toInt := by rw [ex33, show v32.toInt = m0.toInt - ofF L ze rr (zbF L ze rr tc.toInt) by omega]
        refine lv_lload hx hb (eX11_instantOfSkipped (100, .lload 12, 2) (List.mem_of_getElem? (i := 53) rfl)) (lv_at hl34 1 rfl) ?_
        refine lv_lload hx hb (eX11_instantOfSkipped (102, .lload 8, 2) (List.mem_of_getElem? (i := 54) rfl)) (lv_at hl34 3 rfl) ?_
        refine ff_lcmp hx hb (eX11_instantOfSkipped (104, .lcmp, 1) (List.mem_of_getElem? (i := 55) rfl)) (fun v35 e35 => ?_)
        refine ff_if_lt hx hb (eX11_instantOfSkipped (105, .ifCond .lt 28, 3) (List.mem_of_getElem? (i := 56) rfl)) (tgt := 133) rfl (fun c36 => ?_) (fun c36 => ?_)
        · skip
          refine lv_lload hx hb (eX11_instantOfSkipped (133, .lload 8, 2) (List.mem_of_getElem? (i := 68) rfl)) (lv_at hl34 3 rfl) ?_
          refine lv_lstore hx hb (eX11_instantOfSkipped (135, .lstore 5, 2) (List.mem_of_getElem? (i := 69) rfl)) hl34 (by decide) rfl (fun ls37 hl37 => ?_)
          refine ff_iinc (k := 5) hx hb (eX11_instantOfSkipped (137, .iinc 7 1, 3) (List.mem_of_getElem? (i := 70) rfl)) hl37 rfl (by decide) (by decide) (by decide) (by omega) (by omega) (fun v38 e38 ls38 hl38 => ?_)
          refine lv_goto hx hb (eX11_instantOfSkipped (140, .goto (-114), 3) (List.mem_of_getElem? (i := 71) rfl)) (tgt := 26) rfl ?_
          have hno9 : ¬ skC L ze rr m0.toInt s0.toInt (zbF L ze rr tc.toInt) := fun q9 => by have q8 := q9.1; have q7 := q9.2; omega
          exact ih (i + 1) v38 v17 ls38 _ _ (by omega) (by omega) (by omega) (by rw [e17, ← hF]; exact (skF_on hne9 hno9).symm) hh33 kp30 jg30 fr30 (lv_sub hl38 [0, 1, 6, 7, 8, 9] rfl)
        · skip
          refine lv_lload hx hb (eX11_instantOfSkipped (108, .lload 14, 2) (List.mem_of_getElem? (i := 57) rfl)) (lv_at hl34 0 rfl) ?_
          refine lv_lload hx hb (eX11_instantOfSkipped (110, .lload 8, 2) (List.mem_of_getElem? (i := 58) rfl)) (lv_at hl34 3 rfl) ?_
          refine ff_lcmp hx hb (eX11_instantOfSkipped (112, .lcmp, 1) (List.mem_of_getElem? (i := 59) rfl)) (fun v39 e39 => ?_)
          refine ff_if_ge hx hb (eX11_instantOfSkipped (113, .ifCond .ge 20, 3) (List.mem_of_getElem? (i := 60) rfl)) (tgt := 133) rfl (fun c40 => ?_) (fun c40 => ?_)
          · skip
            refine lv_lload hx hb (eX11_instantOfSkipped (133, .lload 8, 2) (List.mem_of_getElem? (i := 68) rfl)) (lv_at hl34 3 rfl) ?_
            refine lv_lstore hx hb (eX11_instantOfSkipped (135, .lstore 5, 2) (List.mem_of_getElem? (i := 69) rfl)) hl34 (by decide) rfl (fun ls41 hl41 => ?_)
            refine ff_iinc (k := 5) hx hb (eX11_instantOfSkipped (137, .iinc 7 1, 3) (List.mem_of_getElem? (i := 70) rfl)) hl41 rfl (by decide) (by decide) (by decide) (by omega) (by omega) (fun v42 e42 ls42 hl42 => ?_)
            refine lv_goto hx hb (eX11_instantOfSkipped (140, .goto (-114), 3) (List.mem_of_getElem? (i := 71) rfl)) (tgt := 26) rfl ?_
            have hno9 : ¬ skC L ze rr m0.toInt s0.toInt (zbF L ze rr tc.toInt) := fun q9 => by have q8 := q9.1; have q7 := q9.2; omega
            exact ih (i + 1) v42 v17 ls42 _ _ (by omega) (by omega) (by omega) (by rw [e17, ← hF]; exact (skF_on hne9 hno9).symm) hh33 kp30 jg30 fr30 (lv_sub hl42 [0, 1, 6, 7, 8, 9] rfl)
          · skip
            have hc9 : skC L ze rr m0.toInt s0.toInt (zbF L ze rr tc.toInt) := ⟨by omega, by omega⟩
            refine lv_lload hx hb (eX11_instantOfSkipped (116, .lload 10, 2) (List.mem_of_getElem? (i := 61) rfl)) (lv_at hl34 2 rfl) ?_
            refine zu_S (vs := [.long v26]) (rest := []) hx hb hml hown hts0 zu_BT (hX2_holdsMinute l v26) ⟨rfl, rfl⟩ ⟨by decide, by decide⟩ ⟨by decide, by decide⟩ (tb_3 108 rfl rfl) (tb_1 13 rfl rfl) (tb_3 106 rfl rfl) (tb_3 107 rfl rfl) (show yX2_holdsMinute.cls ≠ "java/lang/invoke/MethodHandle" ∧ yX2_holdsMinute.cls ≠ "java/lang/invoke/VarHandle" ∧ (parseMethodDescriptor yX2_holdsMinute.desc).map (fun d => d.parameters.length) = some 1 by decide +kernel) rfl (fun _ _ _ => trivial) hl34.1 (Nat.le_of_ble_eq_true rfl) (eX11_instantOfSkipped (118, .invokestatic 165, 3) (List.mem_of_getElem? (i := 62) rfl)) (fun w43 f43 => ?_)
            obtain ⟨v43, rfl, e43⟩ := f43
            refine ff_if_eq hx hb (eX11_instantOfSkipped (121, .ifCond .eq 8, 3) (List.mem_of_getElem? (i := 63) rfl)) (tgt := 129) rfl (fun c44 => ?_) (fun c44 => ?_)
            · skip
              refine ff_ldc2 (n := (-9223372036854775808)) hx hb hown h2 (clX11_ok 62 (-9223372036854775808) (List.mem_of_getElem? (i := 0) rfl)) (eX11_instantOfSkipped (129, .ldc2_w 62, 3) (List.mem_of_getElem? (i := 66) rfl)) (fun v45 e45 => ?_)
              exact W.lret hx hb hr (fun t ht hW => ⟨_, rfl, by rw [← hF, skF_yes hne9 hc9]; unfold skV; have h8 : v26.toInt = m0.toInt - ofF L ze rr (zbF L ze rr tc.toInt - 1) := (by omega); rw [← h8] at hA9 ⊢; rcases e43 with h9 | h9; (rw [if_pos (show mIn v26.toInt from h9.2)]; first | omega | (exfalso; omega)); (rw [if_neg (show ¬ mIn v26.toInt from h9.2)]; unfold NONEI; first | omega | (exfalso; omega)), by rw [ht]; exact hh33.l0, by rw [ht]; exact kp30, by rw [ht]; exact jg30, by rw [ht]; exact fr30⟩) hh33.2.2.1 (eX11_instantOfSkipped (132, .lreturn, 1) (List.mem_of_getElem? (i := 67) rfl))
            · skip
              refine lv_lload hx hb (eX11_instantOfSkipped (124, .lload 12, 2) (List.mem_of_getElem? (i := 64) rfl)) (lv_at hl34 1 rfl) ?_
              refine lv_goto hx hb (eX11_instantOfSkipped (126, .goto 6, 3) (List.mem_of_getElem? (i := 65) rfl)) (tgt := 132) rfl ?_
              exact W.lret hx hb hr (fun t ht hW => ⟨_, rfl, by rw [← hF, skF_yes hne9 hc9]; unfold skV; have h8 : v26.toInt = m0.toInt - ofF L ze rr (zbF L ze rr tc.toInt - 1) := (by omega); rw [← h8] at hA9 ⊢; rcases e43 with h9 | h9; (rw [if_pos (show mIn v26.toInt from h9.2)]; first | omega | (exfalso; omega)); (rw [if_neg (show ¬ mIn v26.toInt from h9.2)]; unfold NONEI; first | omega | (exfalso; omega)), by rw [ht]; exact hh33.l0, by rw [ht]; exact kp30, by rw [ht]; exact jg30, by rw [ht]; exact fr30⟩) hh33.2.2.1 (eX11_instantOfSkipped (132, .lreturn, 1) (List.mem_of_getElem? (i := 67) rfl))
      · skip
        refine ff_ldc2 (n := (-9223372036854775808)) hx hb hown h2 (clX11_ok 62 (-9223372036854775808) (List.mem_of_getElem? (i := 0) rfl)) (eX11_instantOfSkipped (50, .ldc2_w 62, 3) (List.mem_of_getElem? (i := 25) rfl)) (fun v46 e46 => ?_)
        exact W.lret hx hb hr (fun t ht hW => ⟨_, rfl, by rw [← hF, skF_no (by rw [← e17]; unfold NONEI; omega)]; unfold NONEI; omega, by rw [ht]; exact hh17.l0, by rw [ht]; exact kp17, by rw [ht]; exact jg17, by rw [ht]; exact fr17⟩) hh17.2.2.1 (eX11_instantOfSkipped (53, .lreturn, 1) (List.mem_of_getElem? (i := 26) rfl))
  exact loop 120 0 v10 v8 ls11 _ _ (by omega) (by omega) (by omega) (by rw [show v8.toInt = stI L (m0.toInt - 1440) - 1 by omega]) hh6 kp0 hJ fr0 (lv_sub hl11 [0, 1, 2, 3, 4, 5] rfl)
set_option maxRecDepth 100000 in
set_option maxHeartbeats 4000000 in
theorem hX11_goOnE (l : Launch) (D : va_G) (cA : Nat → ClassId) (ro : Nat → Option Nat) (sz : Nat) (H0 : Heap) (x : Nat) (zq : Nat) (t0 : Int64) (mo : Int32) (dy : Int32) (fo zA zB : Nat) (ze : zE) (lp : Nat) (L : List Int) (ru rF rT : Nat) (rr : rU) (hx10 : ro x = some 10) (rfo : ro fo = some 19) (rzq : ro zq = some 9) (hjl : jL L) (hoA : oOK ze.1) (hoB9 : ∀ c ∈ ze.2, oOK c.2 ∧ -31700000000000 ≤ c.1 ∧ c.1 ≤ 31700000000000) (ht1 : -31900000000000 ≤ t0.toInt) (ht2 : t0.toInt ≤ 31900000000000) (htk : tOK t0.toInt L) (hM : mOK (lmM L ze rr t0.toInt)) (hmo : 0 ≤ mo.toInt) (hdy : 0 ≤ dy.toInt) (hl60 : ze.2.length ≤ 60) (hT : ∀ c ∈ ze.2, tOK c.1 L) (hsr : srt ze.2) : Met l yX11_goOn (gW yX11_goOn cX11_goOn 15 (some .long)) { frames := 5, cells := 0, slots := 0, locals := 142 } (zs_PB D cA ro sz H0 (fun H => jGo D cA ro H x fo zq zA zB ze lp L ru rF rT rr) [.ref x, .ref zq, .long t0, .int mo, .int dy]) (go_QP D cA ro sz H0 x fo zq zA zB ze lp L ru rF rT rr (fun r => goR L ze rr t0.toInt mo.toInt dy.toInt r)) 0 0 (zy_fr sz) := by
  refine zy_ofW (cc := cX11_goOn) (maxL := 15) (ret := (some .long)) (by decide +kernel) rfl ?_
  intro p e s m args below meth c s1 B hml hv
  obtain ⟨rfl, hh, ⟨hKn, hBQ⟩, hJ⟩ := hv
  have hx := B.exec
  have hb := B.bytes
  have hr := B.returns
  have hlk := B.notSynchronized
  have hts0 := atoms_spec (ws := gW yX11_goOn cX11_goOn 15 (some .long)) B.pre
  have h2 : ∀ w ∈ gT, w.before ([.ref x, .ref zq, .long t0, .int mo, .int dy] : List Value).toArray s = true := fun w hw => hts0 w (List.mem_cons_of_mem _ hw)
  have hown : s.vm.findClass RX11 = some m.cls := findClass_of_methodNamed B.named
  have hl := lv_entry [.ref x, .ref zq, .long t0, .int mo, .int dy] (n := 15) (Nat.le_of_ble_eq_true rfl)
  rw [lg_entry_eq]
  generalize (lg_sl [.ref x, .ref zq, .long t0, .int mo, .int dy] ++ List.replicate (15 - (lg_sl [.ref x, .ref zq, .long t0, .int mo, .int dy]).length) Slot.unset).toArray = ls at hl ⊢
  have b_t0 := zn_i64 t0
  have b_mo := zn_i32 mo
  have b_dy := zn_i32 dy
  have hD := zD_all h2 hKn.1
  have hcl10 := fun (idx k : Nat) (t : zt_T) (h : (idx, 10, k) ∈ gfX11) (hk : fsX11[k]? = some t) => zf_clause (ro := ro) (ms := kF) h2 hown hKn.1 gfX11_ok (by decide +kernel) idx 10 k 10 0 fsX11 t h rfl hk
  have kp0 : zc_kept D RTg ro kF s.heap s.heap := zc_kept.refl
  obtain ⟨fx0, fx8, hzr, zf0, cf0⟩ := id hJ
  have rl4 := hzr.2.2.1
  have hru := hzr.2.2.2.2.2.1
  have hjL := hjl.2.1
  have hoB : ∀ c ∈ ze.2, oOK c.2 := fun c hc => (hoB9 c hc).1
  have fr0 : ∀ p9 : Nat, p9 ∉ [ru, fo] → s.heap[p9]? = s.heap[p9]? := fun _ _ => rfl
  have hWr : rW rr := hzr.2.2.2.2.2.2.2.2.2.2
  refine lv_aload_n hx hb (eX11_goOn (0, .aload_n 0, 1) (List.mem_of_getElem? (i := 0) rfl)) rfl (lv_at hl 0 rfl) ?_
  refine tz_get (r := 10) (k := 0) (t := (12, 0, 0)) hx hb hh hx10 rfl rfl (hcl10 14 0 (12, 0, 0) (by decide) rfl).1 fx0 (eX11_goOn (1, .getfield 14, 3) (List.mem_of_getElem? (i := 1) rfl)) ?_
  refine lv_lload_n hx hb (eX11_goOn (4, .lload_n 2, 1) (List.mem_of_getElem? (i := 2) rfl)) rfl (lv_at hl 2 rfl) ?_
  refine tz_rowV (As := [.long t0]) (st := []) (b := lp) (C := RX5) (Ts := gT) hx hb hml hown h2 (fun _ h => h) (hX5_minuteAt l D cA ro sz H0 lp t0 L rl4 (by omega) (by omega)) ⟨rfl, rfl⟩ ⟨by decide, by decide⟩ ⟨by decide, by decide⟩ (tb_3 151 rfl rfl) (tb_1 2 rfl rfl) (tb_3 148 rfl rfl) (tb_3 149 rfl rfl) (tb_3 150 rfl rfl) (show yX5_minuteAt.cls ≠ "java/lang/invoke/MethodHandle" ∧ yX5_minuteAt.cls ≠ "java/lang/invoke/VarHandle" ∧ (parseMethodDescriptor yX5_minuteAt.desc).map (fun d => d.parameters.length) = some 1 by decide +kernel) zs_blind (zs_ob hh rl4 (show RTg[4]? = some (0, 4, 0, fsX5) from rfl) (zCX5 hKn.1)) (fun U hU hW => ⟨rfl, by rw [hU]; exact hh.l0, zKb s U hW.alike hKn, by rw [hU]; exact hJ.2.2.1.2.2.2.1⟩) hh.2.2.1 hl.1 (Nat.le_of_ble_eq_true rfl) (eX11_goOn (5, .invokevirtual 179, 3) (List.mem_of_getElem? (i := 3) rfl)) (fun r1 s1 t1 lo1 g1 f1 l1 => ?_)
  obtain ⟨z1, v1, q1, e1⟩ := f1
  cases q1
  rw [z1, g1]
  have hh1 : zh_ok D cA RTg ro sz H0 s.heap lo1 := ⟨hh.1, hh.2.1, l1, hh.2.2.2⟩
  have hmm1 := mtI_eq hjL e1
  have hmb1 := mtI_bd hjL (t := t0.toInt) (by omega) (by omega)
  rw [← hmm1] at hmb1
  refine W.eq (g2 := F0 m 8 ls [.long v1]) rfl ?_
  refine lv_aload_n hx hb (eX11_goOn (8, .aload_n 1, 1) (List.mem_of_getElem? (i := 4) rfl)) rfl (lv_at hl 1 rfl) ?_
  refine lv_lload_n hx hb (eX11_goOn (9, .lload_n 2, 1) (List.mem_of_getElem? (i := 5) rfl)) rfl (lv_at hl 2 rfl) ?_
  refine tz_rowV (As := [.long t0]) (st := [.long v1]) (b := zq) (C := RX10) (Ts := gT) hx hb hml hown h2 (fun _ h => h) (hX10_offsetAt l D cA ro sz H0 zq t0 zA zB ze lp L ru rF rT rr rzq hjL (by omega) (by omega)) ⟨rfl, rfl⟩ ⟨by decide, by decide⟩ ⟨by decide, by decide⟩ (tb_4 113 rfl rfl) (tb_1 20 rfl rfl) (tb_4 110 rfl rfl) (tb_4 111 rfl rfl) (tb_4 112 rfl rfl) (show yX10_offsetAt.cls ≠ "java/lang/invoke/MethodHandle" ∧ yX10_offsetAt.cls ≠ "java/lang/invoke/VarHandle" ∧ (parseMethodDescriptor yX10_offsetAt.desc).map (fun d => d.parameters.length) = some 1 by decide +kernel) zs_blindB (zs_ob hh1 rzq (show RTg[9]? = some (0, 9, 0, fsX10) from rfl) (zCX10 hKn.1)) (fun U hU hW => ⟨rfl, by rw [hU]; exact hh1.l0, ⟨zKb s U hW.alike hKn, hBQ.alike hW.alike⟩, by rw [hU]; exact hJ.2.2.1⟩) hh1.2.2.1 hl.1 (Nat.le_of_ble_eq_true rfl) (eX11_goOn (10, .invokevirtual 226, 3) (List.mem_of_getElem? (i := 6) rfl)) (fun r2 s2 t2 lo2 g2 f2 l2 => ?_)
  obtain ⟨v2, q2, e2, z2, c2, j2, fx2⟩ := f2
  cases q2
  rw [g2] at c2 fx2
  have fr2 : ∀ p9 : Nat, p9 ∉ [ru, fo] → t2.heap[p9]? = s.heap[p9]? := fun p9 h9 => (fx2 p9 (fun q => h9 (by rw [List.mem_singleton.mp q]; exact List.mem_cons_self))).trans (fr0 p9 h9)
  have hh2 : zh_ok D cA RTg ro sz H0 t2.heap lo2 := ⟨z2.1, z2.2.1, l2, z2.2.2.2⟩
  have kp2 := kp0.trans (c2.mono (ms' := kF) (by decide))
  have jg2 := jGo.upd hx10 c2 (by decide) j2 (by obtain ⟨zf9, cf9⟩ := hJ.2.2.2; exact ⟨zf9, (fx2 fo (l_n1 (ro_ne rfo hru (by decide)))).trans cf9⟩) hJ
  have fa2 := jg2.1
  have fb2 := jg2.2.1
  have ob2 := ofF_bd (L := L) (t := t0.toInt) jg2.2.2.1.2.2.2.2.2.2.2.2.2.2 hoA hoB
  rw [← e2] at ob2
  refine W.eq (g2 := F0 m 13 ls [.int v2, .long v1]) rfl ?_
  refine ff_i2l hx hb (eX11_goOn (13, .i2l, 1) (List.mem_of_getElem? (i := 7) rfl)) (fun v3 e3 => ?_)
  refine ff_ladd hx hb (eX11_goOn (14, .ladd, 1) (List.mem_of_getElem? (i := 8) rfl)) (by omega) (by omega) (fun v4 e4 => ?_)
  refine lv_lstore hx hb (eX11_goOn (15, .lstore 6, 2) (List.mem_of_getElem? (i := 9) rfl)) hl (by decide) rfl (fun ls5 hl5 => ?_)
  have hlm : v4.toInt = lmM L ze rr t0.toInt := by unfold lmM; omega
  refine lv_lload hx hb (eX11_goOn (17, .lload 6, 2) (List.mem_of_getElem? (i := 10) rfl)) (lv_at hl5 0 rfl) ?_
  refine ff_ldc2 (n := 1440) hx hb hown h2 (clX11_ok 328 1440 (List.mem_of_getElem? (i := 2) rfl)) (eX11_goOn (19, .ldc2_w 328, 3) (List.mem_of_getElem? (i := 11) rfl)) (fun v6 e6 => ?_)
  refine zu_S (vs := [.long v4, .long v6]) (rest := []) hx hb hml hown hts0 zu_BT (hJ9_fd1440 l v4 v6 (by omega) (by omega) (by omega)) ⟨rfl, rfl⟩ ⟨by decide, by decide⟩ ⟨by decide, by decide⟩ (tb_3 39 rfl rfl) (tb_1 18 rfl rfl) (tb_6 22 rfl rfl) (tb_3 38 rfl rfl) (show yJ9_floorDiv_f86c9.cls ≠ "java/lang/invoke/MethodHandle" ∧ yJ9_floorDiv_f86c9.cls ≠ "java/lang/invoke/VarHandle" ∧ (parseMethodDescriptor yJ9_floorDiv_f86c9.desc).map (fun d => d.parameters.length) = some 2 by decide +kernel) rfl (fun _ _ _ => trivial) hl5.1 (Nat.le_of_ble_eq_true rfl) (eX11_goOn (22, .invokestatic 330, 3) (List.mem_of_getElem? (i := 12) rfl)) (fun w7 f7 => ?_)
  obtain ⟨v7, rfl, e7⟩ := f7
  refine lv_lstore hx hb (eX11_goOn (25, .lstore 8, 2) (List.mem_of_getElem? (i := 13) rfl)) hl5 (by decide) rfl (fun ls8 hl8 => ?_)
  refine lv_lload hx hb (eX11_goOn (27, .lload 8, 2) (List.mem_of_getElem? (i := 14) rfl)) (lv_at hl8 0 rfl) ?_
  refine lv_iload hx hb (eX11_goOn (29, .iload 4, 2) (List.mem_of_getElem? (i := 15) rfl)) (lv_at hl8 5 rfl) ?_
  refine zu_S (vs := [.long v7, .int mo]) (rest := []) hx hb hml hown hts0 zBM_B (hX2_monthsLater l cA v7 mo) ⟨rfl, rfl⟩ ⟨by decide, by decide⟩ ⟨by decide, by decide⟩ (tb_3 30 rfl rfl) (tb_1 13 rfl rfl) (tb_3 28 rfl rfl) (tb_3 29 rfl rfl) (show yX2_monthsLater.cls ≠ "java/lang/invoke/MethodHandle" ∧ yX2_monthsLater.cls ≠ "java/lang/invoke/VarHandle" ∧ (parseMethodDescriptor yX2_monthsLater.desc).map (fun d => d.parameters.length) = some 2 by decide +kernel) rfl (fun U hU hW => (hBQ.alike hW.alike).bm (D := D) (ro := ro) (by rw [hU]; exact hh2.l0)) hl8.1 (Nat.le_of_ble_eq_true rfl) (eX11_goOn (31, .invokestatic 138, 3) (List.mem_of_getElem? (i := 16) rfl)) (fun w9 f9 => ?_)
  obtain ⟨v9, rfl, e9⟩ := f9
  rw [show v7.toInt = lmM L ze rr t0.toInt / 1440 by omega] at e9
  have eb9 : (-370000000 ≤ v9.toInt ∧ v9.toInt ≤ 370000000) ∨ v9.toInt = -9223372036854775808 := by rcases e9 with h | h; exact Or.inl h.2.2; exact Or.inr h.1
  refine lv_lstore hx hb (eX11_goOn (34, .lstore 10, 2) (List.mem_of_getElem? (i := 17) rfl)) hl8 (by decide) rfl (fun ls10 hl10 => ?_)
  refine lv_lload hx hb (eX11_goOn (36, .lload 10, 2) (List.mem_of_getElem? (i := 18) rfl)) (lv_at hl10 0 rfl) ?_
  refine ff_ldc2 (n := (-9223372036854775808)) hx hb hown h2 (clX11_ok 62 (-9223372036854775808) (List.mem_of_getElem? (i := 0) rfl)) (eX11_goOn (38, .ldc2_w 62, 3) (List.mem_of_getElem? (i := 19) rfl)) (fun v11 e11 => ?_)
  refine ff_lcmp hx hb (eX11_goOn (41, .lcmp, 1) (List.mem_of_getElem? (i := 20) rfl)) (fun v12 e12 => ?_)
  refine ff_if_eq hx hb (eX11_goOn (42, .ifCond .eq 15, 3) (List.mem_of_getElem? (i := 21) rfl)) (tgt := 57) rfl (fun c13 => ?_) (fun c13 => ?_)
  · skip
    refine ff_ldc2 (n := (-9223372036854775808)) hx hb hown h2 (clX11_ok 62 (-9223372036854775808) (List.mem_of_getElem? (i := 0) rfl)) (eX11_goOn (57, .ldc2_w 62, 3) (List.mem_of_getElem? (i := 28) rfl)) (fun v14 e14 => ?_)
    exact W.lret hx hb hr (fun t ht hW => ⟨_, rfl, Or.inl ⟨by rcases e9 with h | h; (exfalso; omega); exact h.2, by unfold NONEI; omega⟩, by rw [ht]; exact hh2.l0, by rw [ht]; exact kp2, by rw [ht]; exact jg2, by rw [ht]; exact fr2⟩) hh2.2.2.1 (eX11_goOn (60, .lreturn, 1) (List.mem_of_getElem? (i := 29) rfl))
  · skip
    obtain ⟨hv9, hg9, hb9⟩ : mtV (lmM L ze rr t0.toInt / 1440) mo.toInt ∧ mtG (lmM L ze rr t0.toInt / 1440) mo.toInt v9.toInt ∧ (-370000000 ≤ v9.toInt ∧ v9.toInt ≤ 370000000) := by rcases e9 with h | h; exact ⟨h.1, h.2.1, h.2.2⟩; exfalso; omega
    refine lv_lload hx hb (eX11_goOn (45, .lload 10, 2) (List.mem_of_getElem? (i := 22) rfl)) (lv_at hl10 0 rfl) ?_
    refine lv_iload hx hb (eX11_goOn (47, .iload 5, 2) (List.mem_of_getElem? (i := 23) rfl)) (lv_at hl10 7 rfl) ?_
    refine ff_i2l hx hb (eX11_goOn (49, .i2l, 1) (List.mem_of_getElem? (i := 24) rfl)) (fun v15 e15 => ?_)
    refine ff_ladd hx hb (eX11_goOn (50, .ladd, 1) (List.mem_of_getElem? (i := 25) rfl)) (by omega) (by omega) (fun v16 e16 => ?_)
    refine zu_S (vs := [.long v16]) (rest := []) hx hb hml hown hts0 zu_BT (hX2_holds l v16) ⟨rfl, rfl⟩ ⟨by decide, by decide⟩ ⟨by decide, by decide⟩ (tb_2 212 rfl rfl) (tb_1 13 rfl rfl) (tb_2 210 rfl rfl) (tb_2 211 rfl rfl) (show yX2_holds.cls ≠ "java/lang/invoke/MethodHandle" ∧ yX2_holds.cls ≠ "java/lang/invoke/VarHandle" ∧ (parseMethodDescriptor yX2_holds.desc).map (fun d => d.parameters.length) = some 1 by decide +kernel) rfl (fun _ _ _ => trivial) hl10.1 (Nat.le_of_ble_eq_true rfl) (eX11_goOn (51, .invokestatic 94, 3) (List.mem_of_getElem? (i := 26) rfl)) (fun w17 f17 => ?_)
    obtain ⟨v17, rfl, e17⟩ := f17
    refine ff_if_ne hx hb (eX11_goOn (54, .ifCond .ne 7, 3) (List.mem_of_getElem? (i := 27) rfl)) (tgt := 61) rfl (fun c18 => ?_) (fun c18 => ?_)
    · skip
      have hdk : dOK (v9.toInt + dy.toInt) := by unfold dOK; omega
      refine lv_lload hx hb (eX11_goOn (61, .lload 10, 2) (List.mem_of_getElem? (i := 30) rfl)) (lv_at hl10 0 rfl) ?_
      refine lv_iload hx hb (eX11_goOn (63, .iload 5, 2) (List.mem_of_getElem? (i := 31) rfl)) (lv_at hl10 7 rfl) ?_
      refine ff_i2l hx hb (eX11_goOn (65, .i2l, 1) (List.mem_of_getElem? (i := 32) rfl)) (fun v19 e19 => ?_)
      refine ff_ladd hx hb (eX11_goOn (66, .ladd, 1) (List.mem_of_getElem? (i := 33) rfl)) (by omega) (by omega) (fun v20 e20 => ?_)
      refine ff_ldc2 (n := 1440) hx hb hown h2 (clX11_ok 328 1440 (List.mem_of_getElem? (i := 2) rfl)) (eX11_goOn (67, .ldc2_w 328, 3) (List.mem_of_getElem? (i := 34) rfl)) (fun v21 e21 => ?_)
      refine ff_lmulR hx hb (eX11_goOn (70, .lmul, 1) (List.mem_of_getElem? (i := 35) rfl)) (e21) (by omega) (by omega) (fun v22 e22 => ?_)
      refine lv_lload hx hb (eX11_goOn (71, .lload 6, 2) (List.mem_of_getElem? (i := 36) rfl)) (lv_at hl10 2 rfl) ?_
      refine lv_lload hx hb (eX11_goOn (73, .lload 8, 2) (List.mem_of_getElem? (i := 37) rfl)) (lv_at hl10 1 rfl) ?_
      refine ff_ldc2 (n := 1440) hx hb hown h2 (clX11_ok 328 1440 (List.mem_of_getElem? (i := 2) rfl)) (eX11_goOn (75, .ldc2_w 328, 3) (List.mem_of_getElem? (i := 38) rfl)) (fun v23 e23 => ?_)
      refine ff_lmulR hx hb (eX11_goOn (78, .lmul, 1) (List.mem_of_getElem? (i := 39) rfl)) (e23) (by omega) (by omega) (fun v24 e24 => ?_)
      refine ff_lsub hx hb (eX11_goOn (79, .lsub, 1) (List.mem_of_getElem? (i := 40) rfl)) (by omega) (by omega) (fun v25 e25 => ?_)
      refine ff_ladd hx hb (eX11_goOn (80, .ladd, 1) (List.mem_of_getElem? (i := 41) rfl)) (by omega) (by omega) (fun v26 e26 => ?_)
      refine lv_lstore hx hb (eX11_goOn (81, .lstore 12, 2) (List.mem_of_getElem? (i := 42) rfl)) hl10 (by decide) rfl (fun ls27 hl27 => ?_)
      have hgl : v26.toInt = (v9.toInt + dy.toInt) * 1440 + (lmM L ze rr t0.toInt - lmM L ze rr t0.toInt / 1440 * 1440) := by omega
      have hgb : -526984793280 ≤ v26.toInt ∧ v26.toInt ≤ 524913079679 := by unfold dOK at hdk; omega
      refine lv_aload_n hx hb (eX11_goOn (83, .aload_n 0, 1) (List.mem_of_getElem? (i := 43) rfl)) rfl (lv_at hl27 4 rfl) ?_
      refine tz_get (r := 10) (k := 0) (t := (12, 0, 0)) hx hb hh2 hx10 rfl rfl (hcl10 14 0 (12, 0, 0) (by decide) rfl).1 fa2 (eX11_goOn (84, .getfield 14, 3) (List.mem_of_getElem? (i := 44) rfl)) ?_
      refine lv_lload_n hx hb (eX11_goOn (87, .lload_n 2, 1) (List.mem_of_getElem? (i := 45) rfl)) rfl (lv_at hl27 6 rfl) ?_
      refine tz_rowV (As := [.long t0]) (st := []) (b := lp) (C := RX5) (Ts := gT) hx hb hml hown h2 (fun _ h => h) (hX5_secondAt l D cA ro sz H0 lp t0 L rl4 (by omega) (by omega)) ⟨rfl, rfl⟩ ⟨by decide, by decide⟩ ⟨by decide, by decide⟩ (tb_3 158 rfl rfl) (tb_1 2 rfl rfl) (tb_3 155 rfl rfl) (tb_3 156 rfl rfl) (tb_3 157 rfl rfl) (show yX5_secondAt.cls ≠ "java/lang/invoke/MethodHandle" ∧ yX5_secondAt.cls ≠ "java/lang/invoke/VarHandle" ∧ (parseMethodDescriptor yX5_secondAt.desc).map (fun d => d.parameters.length) = some 1 by decide +kernel) zs_blind (zs_ob hh2 rl4 (show RTg[4]? = some (0, 4, 0, fsX5) from rfl) (zCX5 hKn.1)) (fun U hU hW => ⟨rfl, by rw [hU]; exact hh2.l0, zKb s U hW.alike hKn, by rw [hU]; exact jg2.2.2.1.2.2.2.1⟩) hh2.2.2.1 hl27.1 (Nat.le_of_ble_eq_true rfl) (eX11_goOn (88, .invokevirtual 183, 3) (List.mem_of_getElem? (i := 46) rfl)) (fun r28 s28 t28 lo28 g28 f28 l28 => ?_)
      obtain ⟨z28, v28, q28, e28⟩ := f28
      cases q28
      rw [z28, g28]
      have hh28 : zh_ok D cA RTg ro sz H0 t2.heap lo28 := ⟨hh2.1, hh2.2.1, l28, hh2.2.2.2⟩
      obtain ⟨M28, rd28, se28⟩ := e28
      have sx28 := sec60 hjl.1 rd28
      have sb28 : 0 ≤ v28.toInt ∧ v28.toInt ≤ 60 := by omega
      have hse : v28.toInt = seI L t0.toInt := by unfold seI; rw [← mtI_eq hjL rd28]; exact se28
      clear sx28 se28 rd28
      refine W.eq (g2 := F0 m 91 ls27 [.int v28]) rfl ?_
      refine lv_istore hx hb (eX11_goOn (91, .istore 14, 2) (List.mem_of_getElem? (i := 47) rfl)) hl27 (by decide) rfl (fun ls29 hl29 => ?_)
      refine lv_iload hx hb (eX11_goOn (93, .iload 14, 2) (List.mem_of_getElem? (i := 48) rfl)) (lv_at hl29 0 rfl) ?_
      refine ff_bipush hx hb (eX11_goOn (95, .bipush 60, 2) (List.mem_of_getElem? (i := 49) rfl)) (by decide) (by decide) (fun v30 e30 => ?_)
      refine ff_icmp_ne hx hb (eX11_goOn (97, .if_icmp .ne 22, 3) (List.mem_of_getElem? (i := 50) rfl)) (tgt := 119) rfl (fun c31 => ?_) (fun c31 => ?_)
      · skip
        refine lv_aload_n hx hb (eX11_goOn (119, .aload_n 1, 1) (List.mem_of_getElem? (i := 60) rfl)) rfl (lv_at hl29 6 rfl) ?_
        refine lv_lload hx hb (eX11_goOn (120, .lload 12, 2) (List.mem_of_getElem? (i := 61) rfl)) (lv_at hl29 1 rfl) ?_
        refine lv_iload hx hb (eX11_goOn (122, .iload 14, 2) (List.mem_of_getElem? (i := 62) rfl)) (lv_at hl29 0 rfl) ?_
        refine lv_aload_n hx hb (eX11_goOn (124, .aload_n 0, 1) (List.mem_of_getElem? (i := 63) rfl)) rfl (lv_at hl29 5 rfl) ?_
        refine tz_get (r := 10) (k := 8) (t := (42, 0, 0)) hx hb hh28 hx10 rfl rfl (hcl10 70 8 (42, 0, 0) (by decide) rfl).1 fb2 (eX11_goOn (125, .getfield 70, 3) (List.mem_of_getElem? (i := 64) rfl)) ?_
        refine tz_rowV (As := [.long v26, .int v28, .ref fo]) (st := []) (b := zq) (C := RX10) (Ts := gT) hx hb hml hown h2 (fun _ h => h) (hX10_collect l D cA ro sz H0 zq v26 v28 fo zA zB ze lp L ru rF rT rr rzq hjL rfo (by omega) (by omega) (by omega) (by omega) hoA hoB) ⟨rfl, rfl⟩ ⟨by decide, by decide⟩ ⟨by decide, by decide⟩ (tb_4 156 rfl rfl) (tb_1 20 rfl rfl) (tb_4 153 rfl rfl) (tb_4 154 rfl rfl) (tb_4 155 rfl rfl) (show yX10_collect.cls ≠ "java/lang/invoke/MethodHandle" ∧ yX10_collect.cls ≠ "java/lang/invoke/VarHandle" ∧ (parseMethodDescriptor yX10_collect.desc).map (fun d => d.parameters.length) = some 3 by decide +kernel) zs_blindB (zs_ob hh28 rzq (show RTg[9]? = some (0, 9, 0, fsX10) from rfl) (zCX10 hKn.1)) (fun U hU hW => ⟨rfl, by rw [hU]; exact hh28.l0, ⟨zKb s U hW.alike hKn, hBQ.alike hW.alike⟩, by rw [hU]; exact (show _ ∧ _ from ⟨jg2.2.2.1, jg2.2.2.2⟩)⟩) hh28.2.2.1 hl29.1 (Nat.le_of_ble_eq_true rfl) (eX11_goOn (128, .invokevirtual 231, 3) (List.mem_of_getElem? (i := 65) rfl)) (fun r32 s32 t32 lo32 g32 f32 l32 => ?_)
        obtain ⟨v32, q32, e32, z32, c32, j32, ⟨zf32, cf32, jn32⟩, fx32⟩ := f32
        cases q32
        rw [g32] at c32 fx32
        have fr32 : ∀ p9 : Nat, p9 ∉ [ru, fo] → t32.heap[p9]? = s.heap[p9]? := fun p9 h9 => (fx32 p9 (fun q => h9 (by rcases List.mem_cons.mp q with q | q; (rw [q]; exact List.mem_cons_self); (rw [List.mem_singleton.mp q]; exact (List.mem_cons_of_mem _ List.mem_cons_self))))).trans (fr2 p9 h9)
        have hh32 : zh_ok D cA RTg ro sz H0 t32.heap lo32 := ⟨z32.1, z32.2.1, l32, z32.2.2.2⟩
        have kp32 := kp2.trans (c32.mono (ms' := kF) (by decide))
        have jg32 := jGo.upd hx10 c32 (by decide) j32 ⟨zf32, cf32⟩ jg2
        have fa32 := jg32.1
        have fb32 := jg32.2.1
        refine W.eq (g2 := F0 m 131 ls29 [.int v32]) rfl ?_
        refine ff_if_le hx hb (eX11_goOn (131, .ifCond .le 10, 3) (List.mem_of_getElem? (i := 66) rfl)) (tgt := 141) rfl (fun c33 => ?_) (fun c33 => ?_)
        · skip
          have hcs := cl_self (L := L) (e := ze) (r := rr) (t := t0.toInt) hjL hjl.1 hWr htk
          rw [hse, hgl] at e32
          have hlo : -526984791840 ≤ v26.toInt := by rcases go_lo hM hmo hdy hg9 with ⟨-, -, q9⟩ | q9; (exfalso; rw [q9] at e32; omega); omega
          refine lv_aload_n hx hb (eX11_goOn (141, .aload_n 0, 1) (List.mem_of_getElem? (i := 72) rfl)) rfl (lv_at hl29 5 rfl) ?_
          refine lv_aload_n hx hb (eX11_goOn (142, .aload_n 1, 1) (List.mem_of_getElem? (i := 73) rfl)) rfl (lv_at hl29 6 rfl) ?_
          refine lv_lload hx hb (eX11_goOn (143, .lload 12, 2) (List.mem_of_getElem? (i := 74) rfl)) (lv_at hl29 1 rfl) ?_
          refine lv_iload hx hb (eX11_goOn (145, .iload 14, 2) (List.mem_of_getElem? (i := 75) rfl)) (lv_at hl29 0 rfl) ?_
          refine tz_rowV (As := [.ref zq, .long v26, .int v28]) (st := []) (b := x) (C := RX11) (Ts := gT) hx hb hml hown h2 (fun _ h => h) (hX11_instantOfSkippedE l D cA ro sz H0 x zq v26 v28 fo zA zB ze lp L ru rF rT rr hx10 rfo rzq hjl hoA hoB9 (by omega) (by omega) (by omega) (by omega)) ⟨rfl, rfl⟩ ⟨by decide, by decide⟩ ⟨by decide, by decide⟩ (tb_6 100 rfl rfl) (tb_1 1 rfl rfl) (tb_6 97 rfl rfl) (tb_6 99 rfl rfl) (tb_0 3 rfl rfl) (show yX11_instantOfSkipped.cls ≠ "java/lang/invoke/MethodHandle" ∧ yX11_instantOfSkipped.cls ≠ "java/lang/invoke/VarHandle" ∧ (parseMethodDescriptor yX11_instantOfSkipped.desc).map (fun d => d.parameters.length) = some 3 by decide +kernel) zs_blindB (zs_ob hh32 hx10 (show RTg[10]? = some (0, 10, 0, fsX11) from rfl) (zCX11 hKn.1)) (fun U hU hW => ⟨rfl, by rw [hU]; exact hh32.l0, ⟨zKb s U hW.alike hKn, hBQ.alike hW.alike⟩, by rw [hU]; exact jg32⟩) hh32.2.2.1 hl29.1 (Nat.le_of_ble_eq_true rfl) (eX11_goOn (147, .invokevirtual 400, 3) (List.mem_of_getElem? (i := 76) rfl)) (fun r34 s34 t34 lo34 g34 f34 l34 => ?_)
          obtain ⟨v34, q34, e34, z34, c34, j34, fx34⟩ := f34
          cases q34
          rw [g34] at c34 fx34
          have fr34 : ∀ p9 : Nat, p9 ∉ [ru, fo] → t34.heap[p9]? = s.heap[p9]? := fun p9 h9 => (fx34 p9 (fun q => h9 (by rcases List.mem_cons.mp q with q | q; (rw [q]; exact List.mem_cons_self); (rw [List.mem_singleton.mp q]; exact (List.mem_cons_of_mem _ List.mem_cons_self))))).trans (fr32 p9 h9)
          have hh34 : zh_ok D cA RTg ro sz H0 t34.heap lo34 := ⟨z34.1, z34.2.1, l34, z34.2.2.2⟩
          have kp34 := kp32.trans (c34.mono (ms' := kF) (by decide))
          have fa34 := j34.1
          have fb34 := j34.2.1
          refine W.eq (g2 := F0 m 150 ls29 [.long v34]) rfl ?_
          exact W.lret hx hb hr (fun t ht hW => ⟨_, rfl, Or.inr ⟨hv9, _, hg9, Or.inr ⟨hdk, by rw [← hgl, ← hse]; exact Or.inr ⟨by rw [hse, hgl]; exact (by omega), Or.inr ⟨by omega, by rw [e34]; exact sk_cls hjL hWr hsr hoB9 hT hl60 hoA hlo (by omega) (by omega) (by omega)⟩⟩⟩⟩, by rw [ht]; exact hh34.l0, by rw [ht]; exact kp34, by rw [ht]; exact j34, by rw [ht]; exact fr34⟩) hh34.2.2.1 (eX11_goOn (150, .lreturn, 1) (List.mem_of_getElem? (i := 77) rfl))
        · skip
          refine lv_aload_n hx hb (eX11_goOn (134, .aload_n 0, 1) (List.mem_of_getElem? (i := 67) rfl)) rfl (lv_at hl29 5 rfl) ?_
          refine tz_get (r := 10) (k := 8) (t := (42, 0, 0)) hx hb hh32 hx10 rfl rfl (hcl10 70 8 (42, 0, 0) (by decide) rfl).1 fb32 (eX11_goOn (135, .getfield 70, 3) (List.mem_of_getElem? (i := 68) rfl)) ?_
          refine ff_iconst hx hb (eX11_goOn (138, .iconst 0, 1) (List.mem_of_getElem? (i := 69) rfl)) (by decide) (by decide) (fun v35 e35 => ?_)
          obtain ⟨xv, hzx, hAx⟩ := jn32 0 (by omega)
          refine tz_lald hx hb (zAr hKn.1 1 (by decide)) cf32 (by omega) (by omega) (eX11_goOn (139, .laload, 1) (List.mem_of_getElem? (i := 70) rfl)) ?_
          rw [show v35.toNatClampNeg = 0 by show v35.toInt.toNat = 0; omega, hzx]
          exact W.lret hx hb hr (fun t ht hW => ⟨_, rfl, Or.inr ⟨hv9, _, hg9, Or.inr ⟨hdk, by rw [← hgl, ← hse]; exact Or.inl hAx⟩⟩, by rw [ht]; exact hh32.l0, by rw [ht]; exact kp32, by rw [ht]; exact jg32, by rw [ht]; exact fr32⟩) hh32.2.2.1 (eX11_goOn (140, .lreturn, 1) (List.mem_of_getElem? (i := 71) rfl))
      · skip
        refine lv_aload_n hx hb (eX11_goOn (100, .aload_n 1, 1) (List.mem_of_getElem? (i := 51) rfl)) rfl (lv_at hl29 6 rfl) ?_
        refine lv_lload hx hb (eX11_goOn (101, .lload 12, 2) (List.mem_of_getElem? (i := 52) rfl)) (lv_at hl29 1 rfl) ?_
        refine lv_iload hx hb (eX11_goOn (103, .iload 14, 2) (List.mem_of_getElem? (i := 53) rfl)) (lv_at hl29 0 rfl) ?_
        refine lv_aload_n hx hb (eX11_goOn (105, .aload_n 0, 1) (List.mem_of_getElem? (i := 54) rfl)) rfl (lv_at hl29 5 rfl) ?_
        refine tz_get (r := 10) (k := 8) (t := (42, 0, 0)) hx hb hh28 hx10 rfl rfl (hcl10 70 8 (42, 0, 0) (by decide) rfl).1 fb2 (eX11_goOn (106, .getfield 70, 3) (List.mem_of_getElem? (i := 55) rfl)) ?_
        refine tz_rowV (As := [.long v26, .int v28, .ref fo]) (st := []) (b := zq) (C := RX10) (Ts := gT) hx hb hml hown h2 (fun _ h => h) (hX10_collect l D cA ro sz H0 zq v26 v28 fo zA zB ze lp L ru rF rT rr rzq hjL rfo (by omega) (by omega) (by omega) (by omega) hoA hoB) ⟨rfl, rfl⟩ ⟨by decide, by decide⟩ ⟨by decide, by decide⟩ (tb_4 156 rfl rfl) (tb_1 20 rfl rfl) (tb_4 153 rfl rfl) (tb_4 154 rfl rfl) (tb_4 155 rfl rfl) (show yX10_collect.cls ≠ "java/lang/invoke/MethodHandle" ∧ yX10_collect.cls ≠ "java/lang/invoke/VarHandle" ∧ (parseMethodDescriptor yX10_collect.desc).map (fun d => d.parameters.length) = some 3 by decide +kernel) zs_blindB (zs_ob hh28 rzq (show RTg[9]? = some (0, 9, 0, fsX10) from rfl) (zCX10 hKn.1)) (fun U hU hW => ⟨rfl, by rw [hU]; exact hh28.l0, ⟨zKb s U hW.alike hKn, hBQ.alike hW.alike⟩, by rw [hU]; exact (show _ ∧ _ from ⟨jg2.2.2.1, jg2.2.2.2⟩)⟩) hh28.2.2.1 hl29.1 (Nat.le_of_ble_eq_true rfl) (eX11_goOn (109, .invokevirtual 231, 3) (List.mem_of_getElem? (i := 56) rfl)) (fun r36 s36 t36 lo36 g36 f36 l36 => ?_)
        obtain ⟨v36, q36, e36, z36, c36, j36, ⟨zf36, cf36, jn36⟩, fx36⟩ := f36
        cases q36
        rw [g36] at c36 fx36
        have fr36 : ∀ p9 : Nat, p9 ∉ [ru, fo] → t36.heap[p9]? = s.heap[p9]? := fun p9 h9 => (fx36 p9 (fun q => h9 (by rcases List.mem_cons.mp q with q | q; (rw [q]; exact List.mem_cons_self); (rw [List.mem_singleton.mp q]; exact (List.mem_cons_of_mem _ List.mem_cons_self))))).trans (fr2 p9 h9)
        have hh36 : zh_ok D cA RTg ro sz H0 t36.heap lo36 := ⟨z36.1, z36.2.1, l36, z36.2.2.2⟩
        have kp36 := kp2.trans (c36.mono (ms' := kF) (by decide))
        have jg36 := jGo.upd hx10 c36 (by decide) j36 ⟨zf36, cf36⟩ jg2
        have fa36 := jg36.1
        have fb36 := jg36.2.1
        refine W.eq (g2 := F0 m 112 ls29 [.int v36]) rfl ?_
        refine ff_if_ne hx hb (eX11_goOn (112, .ifCond .ne 7, 3) (List.mem_of_getElem? (i := 57) rfl)) (tgt := 119) rfl (fun c37 => ?_) (fun c37 => ?_)
        · skip
          refine lv_aload_n hx hb (eX11_goOn (119, .aload_n 1, 1) (List.mem_of_getElem? (i := 60) rfl)) rfl (lv_at hl29 6 rfl) ?_
          refine lv_lload hx hb (eX11_goOn (120, .lload 12, 2) (List.mem_of_getElem? (i := 61) rfl)) (lv_at hl29 1 rfl) ?_
          refine lv_iload hx hb (eX11_goOn (122, .iload 14, 2) (List.mem_of_getElem? (i := 62) rfl)) (lv_at hl29 0 rfl) ?_
          refine lv_aload_n hx hb (eX11_goOn (124, .aload_n 0, 1) (List.mem_of_getElem? (i := 63) rfl)) rfl (lv_at hl29 5 rfl) ?_
          refine tz_get (r := 10) (k := 8) (t := (42, 0, 0)) hx hb hh36 hx10 rfl rfl (hcl10 70 8 (42, 0, 0) (by decide) rfl).1 fb36 (eX11_goOn (125, .getfield 70, 3) (List.mem_of_getElem? (i := 64) rfl)) ?_
          refine tz_rowV (As := [.long v26, .int v28, .ref fo]) (st := []) (b := zq) (C := RX10) (Ts := gT) hx hb hml hown h2 (fun _ h => h) (hX10_collect l D cA ro sz H0 zq v26 v28 fo zA zB ze lp L ru rF rT rr rzq hjL rfo (by omega) (by omega) (by omega) (by omega) hoA hoB) ⟨rfl, rfl⟩ ⟨by decide, by decide⟩ ⟨by decide, by decide⟩ (tb_4 156 rfl rfl) (tb_1 20 rfl rfl) (tb_4 153 rfl rfl) (tb_4 154 rfl rfl) (tb_4 155 rfl rfl) (show yX10_collect.cls ≠ "java/lang/invoke/MethodHandle" ∧ yX10_collect.cls ≠ "java/lang/invoke/VarHandle" ∧ (parseMethodDescriptor yX10_collect.desc).map (fun d => d.parameters.length) = some 3 by decide +kernel) zs_blindB (zs_ob hh36 rzq (show RTg[9]? = some (0, 9, 0, fsX10) from rfl) (zCX10 hKn.1)) (fun U hU hW => ⟨rfl, by rw [hU]; exact hh36.l0, ⟨zKb s U hW.alike hKn, hBQ.alike hW.alike⟩, by rw [hU]; exact (show _ ∧ _ from ⟨jg36.2.2.1, jg36.2.2.2⟩)⟩) hh36.2.2.1 hl29.1 (Nat.le_of_ble_eq_true rfl) (eX11_goOn (128, .invokevirtual 231, 3) (List.mem_of_getElem? (i := 65) rfl)) (fun r38 s38 t38 lo38 g38 f38 l38 => ?_)
          obtain ⟨v38, q38, e38, z38, c38, j38, ⟨zf38, cf38, jn38⟩, fx38⟩ := f38
          cases q38
          rw [g38] at c38 fx38
          have fr38 : ∀ p9 : Nat, p9 ∉ [ru, fo] → t38.heap[p9]? = s.heap[p9]? := fun p9 h9 => (fx38 p9 (fun q => h9 (by rcases List.mem_cons.mp q with q | q; (rw [q]; exact List.mem_cons_self); (rw [List.mem_singleton.mp q]; exact (List.mem_cons_of_mem _ List.mem_cons_self))))).trans (fr36 p9 h9)
          have hh38 : zh_ok D cA RTg ro sz H0 t38.heap lo38 := ⟨z38.1, z38.2.1, l38, z38.2.2.2⟩
          have kp38 := kp36.trans (c38.mono (ms' := kF) (by decide))
          have jg38 := jGo.upd hx10 c38 (by decide) j38 ⟨zf38, cf38⟩ jg36
          have fa38 := jg38.1
          have fb38 := jg38.2.1
          refine W.eq (g2 := F0 m 131 ls29 [.int v38]) rfl ?_
          refine ff_if_le hx hb (eX11_goOn (131, .ifCond .le 10, 3) (List.mem_of_getElem? (i := 66) rfl)) (tgt := 141) rfl (fun c39 => ?_) (fun c39 => ?_)
          · skip
            have hcs := cl_self (L := L) (e := ze) (r := rr) (t := t0.toInt) hjL hjl.1 hWr htk
            rw [hse, hgl] at e38
            rw [hse, hgl] at e36
            exfalso
            omega
          · skip
            refine lv_aload_n hx hb (eX11_goOn (134, .aload_n 0, 1) (List.mem_of_getElem? (i := 67) rfl)) rfl (lv_at hl29 5 rfl) ?_
            refine tz_get (r := 10) (k := 8) (t := (42, 0, 0)) hx hb hh38 hx10 rfl rfl (hcl10 70 8 (42, 0, 0) (by decide) rfl).1 fb38 (eX11_goOn (135, .getfield 70, 3) (List.mem_of_getElem? (i := 68) rfl)) ?_
            refine ff_iconst hx hb (eX11_goOn (138, .iconst 0, 1) (List.mem_of_getElem? (i := 69) rfl)) (by decide) (by decide) (fun v40 e40 => ?_)
            obtain ⟨xv, hzx, hAx⟩ := jn38 0 (by omega)
            refine tz_lald hx hb (zAr hKn.1 1 (by decide)) cf38 (by omega) (by omega) (eX11_goOn (139, .laload, 1) (List.mem_of_getElem? (i := 70) rfl)) ?_
            rw [show v40.toNatClampNeg = 0 by show v40.toInt.toNat = 0; omega, hzx]
            exact W.lret hx hb hr (fun t ht hW => ⟨_, rfl, Or.inr ⟨hv9, _, hg9, Or.inr ⟨hdk, by rw [← hgl, ← hse]; exact Or.inl hAx⟩⟩, by rw [ht]; exact hh38.l0, by rw [ht]; exact kp38, by rw [ht]; exact jg38, by rw [ht]; exact fr38⟩) hh38.2.2.1 (eX11_goOn (140, .lreturn, 1) (List.mem_of_getElem? (i := 71) rfl))
        · skip
          refine ff_bipush hx hb (eX11_goOn (115, .bipush 59, 2) (List.mem_of_getElem? (i := 58) rfl)) (by decide) (by decide) (fun v41 e41 => ?_)
          refine lv_istore hx hb (eX11_goOn (117, .istore 14, 2) (List.mem_of_getElem? (i := 59) rfl)) hl29 (by decide) rfl (fun ls42 hl42 => ?_)
          have h59 : v41.toInt = 59 := by omega
          refine lv_aload_n hx hb (eX11_goOn (119, .aload_n 1, 1) (List.mem_of_getElem? (i := 60) rfl)) rfl (lv_at hl42 6 rfl) ?_
          refine lv_lload hx hb (eX11_goOn (120, .lload 12, 2) (List.mem_of_getElem? (i := 61) rfl)) (lv_at hl42 1 rfl) ?_
          refine lv_iload hx hb (eX11_goOn (122, .iload 14, 2) (List.mem_of_getElem? (i := 62) rfl)) (lv_at hl42 0 rfl) ?_
          refine lv_aload_n hx hb (eX11_goOn (124, .aload_n 0, 1) (List.mem_of_getElem? (i := 63) rfl)) rfl (lv_at hl42 5 rfl) ?_
          refine tz_get (r := 10) (k := 8) (t := (42, 0, 0)) hx hb hh36 hx10 rfl rfl (hcl10 70 8 (42, 0, 0) (by decide) rfl).1 fb36 (eX11_goOn (125, .getfield 70, 3) (List.mem_of_getElem? (i := 64) rfl)) ?_
          refine tz_rowV (As := [.long v26, .int v41, .ref fo]) (st := []) (b := zq) (C := RX10) (Ts := gT) hx hb hml hown h2 (fun _ h => h) (hX10_collect l D cA ro sz H0 zq v26 v41 fo zA zB ze lp L ru rF rT rr rzq hjL rfo (by omega) (by omega) (by omega) (by omega) hoA hoB) ⟨rfl, rfl⟩ ⟨by decide, by decide⟩ ⟨by decide, by decide⟩ (tb_4 156 rfl rfl) (tb_1 20 rfl rfl) (tb_4 153 rfl rfl) (tb_4 154 rfl rfl) (tb_4 155 rfl rfl) (show yX10_collect.cls ≠ "java/lang/invoke/MethodHandle" ∧ yX10_collect.cls ≠ "java/lang/invoke/VarHandle" ∧ (parseMethodDescriptor yX10_collect.desc).map (fun d => d.parameters.length) = some 3 by decide +kernel) zs_blindB (zs_ob hh36 rzq (show RTg[9]? = some (0, 9, 0, fsX10) from rfl) (zCX10 hKn.1)) (fun U hU hW => ⟨rfl, by rw [hU]; exact hh36.l0, ⟨zKb s U hW.alike hKn, hBQ.alike hW.alike⟩, by rw [hU]; exact (show _ ∧ _ from ⟨jg36.2.2.1, jg36.2.2.2⟩)⟩) hh36.2.2.1 hl42.1 (Nat.le_of_ble_eq_true rfl) (eX11_goOn (128, .invokevirtual 231, 3) (List.mem_of_getElem? (i := 65) rfl)) (fun r43 s43 t43 lo43 g43 f43 l43 => ?_)
          obtain ⟨v43, q43, e43, z43, c43, j43, ⟨zf43, cf43, jn43⟩, fx43⟩ := f43
          cases q43
          rw [g43] at c43 fx43
          have fr43 : ∀ p9 : Nat, p9 ∉ [ru, fo] → t43.heap[p9]? = s.heap[p9]? := fun p9 h9 => (fx43 p9 (fun q => h9 (by rcases List.mem_cons.mp q with q | q; (rw [q]; exact List.mem_cons_self); (rw [List.mem_singleton.mp q]; exact (List.mem_cons_of_mem _ List.mem_cons_self))))).trans (fr36 p9 h9)
          have hh43 : zh_ok D cA RTg ro sz H0 t43.heap lo43 := ⟨z43.1, z43.2.1, l43, z43.2.2.2⟩
          have kp43 := kp36.trans (c43.mono (ms' := kF) (by decide))
          have jg43 := jGo.upd hx10 c43 (by decide) j43 ⟨zf43, cf43⟩ jg36
          have fa43 := jg43.1
          have fb43 := jg43.2.1
          refine W.eq (g2 := F0 m 131 ls42 [.int v43]) rfl ?_
          refine ff_if_le hx hb (eX11_goOn (131, .ifCond .le 10, 3) (List.mem_of_getElem? (i := 66) rfl)) (tgt := 141) rfl (fun c44 => ?_) (fun c44 => ?_)
          · skip
            have hcs := cl_self (L := L) (e := ze) (r := rr) (t := t0.toInt) hjL hjl.1 hWr htk
            rw [hse, hgl] at e36
            rw [h59, hgl] at e43
            have hlo : -526984791840 ≤ v26.toInt := by rcases go_lo hM hmo hdy hg9 with ⟨-, -, q9⟩ | q9; (exfalso; rw [q9] at e36; omega); omega
            refine lv_aload_n hx hb (eX11_goOn (141, .aload_n 0, 1) (List.mem_of_getElem? (i := 72) rfl)) rfl (lv_at hl42 5 rfl) ?_
            refine lv_aload_n hx hb (eX11_goOn (142, .aload_n 1, 1) (List.mem_of_getElem? (i := 73) rfl)) rfl (lv_at hl42 6 rfl) ?_
            refine lv_lload hx hb (eX11_goOn (143, .lload 12, 2) (List.mem_of_getElem? (i := 74) rfl)) (lv_at hl42 1 rfl) ?_
            refine lv_iload hx hb (eX11_goOn (145, .iload 14, 2) (List.mem_of_getElem? (i := 75) rfl)) (lv_at hl42 0 rfl) ?_
            refine tz_rowV (As := [.ref zq, .long v26, .int v41]) (st := []) (b := x) (C := RX11) (Ts := gT) hx hb hml hown h2 (fun _ h => h) (hX11_instantOfSkippedE l D cA ro sz H0 x zq v26 v41 fo zA zB ze lp L ru rF rT rr hx10 rfo rzq hjl hoA hoB9 (by omega) (by omega) (by omega) (by omega)) ⟨rfl, rfl⟩ ⟨by decide, by decide⟩ ⟨by decide, by decide⟩ (tb_6 100 rfl rfl) (tb_1 1 rfl rfl) (tb_6 97 rfl rfl) (tb_6 99 rfl rfl) (tb_0 3 rfl rfl) (show yX11_instantOfSkipped.cls ≠ "java/lang/invoke/MethodHandle" ∧ yX11_instantOfSkipped.cls ≠ "java/lang/invoke/VarHandle" ∧ (parseMethodDescriptor yX11_instantOfSkipped.desc).map (fun d => d.parameters.length) = some 3 by decide +kernel) zs_blindB (zs_ob hh43 hx10 (show RTg[10]? = some (0, 10, 0, fsX11) from rfl) (zCX11 hKn.1)) (fun U hU hW => ⟨rfl, by rw [hU]; exact hh43.l0, ⟨zKb s U hW.alike hKn, hBQ.alike hW.alike⟩, by rw [hU]; exact jg43⟩) hh43.2.2.1 hl42.1 (Nat.le_of_ble_eq_true rfl) (eX11_goOn (147, .invokevirtual 400, 3) (List.mem_of_getElem? (i := 76) rfl)) (fun r45 s45 t45 lo45 g45 f45 l45 => ?_)
            obtain ⟨v45, q45, e45, z45, c45, j45, fx45⟩ := f45
            cases q45
            rw [g45] at c45 fx45
            have fr45 : ∀ p9 : Nat, p9 ∉ [ru, fo] → t45.heap[p9]? = s.heap[p9]? := fun p9 h9 => (fx45 p9 (fun q => h9 (by rcases List.mem_cons.mp q with q | q; (rw [q]; exact List.mem_cons_self); (rw [List.mem_singleton.mp q]; exact (List.mem_cons_of_mem _ List.mem_cons_self))))).trans (fr43 p9 h9)
            have hh45 : zh_ok D cA RTg ro sz H0 t45.heap lo45 := ⟨z45.1, z45.2.1, l45, z45.2.2.2⟩
            have kp45 := kp43.trans (c45.mono (ms' := kF) (by decide))
            have fa45 := j45.1
            have fb45 := j45.2.1
            refine W.eq (g2 := F0 m 150 ls42 [.long v45]) rfl ?_
            exact W.lret hx hb hr (fun t ht hW => ⟨_, rfl, Or.inr ⟨hv9, _, hg9, Or.inr ⟨hdk, by rw [← hgl]; exact Or.inr ⟨by rw [hgl]; exact (by omega), Or.inl ⟨by omega, Or.inr ⟨by rw [hgl]; exact (by omega), by rw [← h59]; rw [e45]; exact sk_cls hjL hWr hsr hoB9 hT hl60 hoA hlo (by omega) (by omega) (by omega)⟩⟩⟩⟩⟩, by rw [ht]; exact hh45.l0, by rw [ht]; exact kp45, by rw [ht]; exact j45, by rw [ht]; exact fr45⟩) hh45.2.2.1 (eX11_goOn (150, .lreturn, 1) (List.mem_of_getElem? (i := 77) rfl))
          · skip
            refine lv_aload_n hx hb (eX11_goOn (134, .aload_n 0, 1) (List.mem_of_getElem? (i := 67) rfl)) rfl (lv_at hl42 5 rfl) ?_
            refine tz_get (r := 10) (k := 8) (t := (42, 0, 0)) hx hb hh43 hx10 rfl rfl (hcl10 70 8 (42, 0, 0) (by decide) rfl).1 fb43 (eX11_goOn (135, .getfield 70, 3) (List.mem_of_getElem? (i := 68) rfl)) ?_
            refine ff_iconst hx hb (eX11_goOn (138, .iconst 0, 1) (List.mem_of_getElem? (i := 69) rfl)) (by decide) (by decide) (fun v46 e46 => ?_)
            obtain ⟨xv, hzx, hAx⟩ := jn43 0 (by omega)
            refine tz_lald hx hb (zAr hKn.1 1 (by decide)) cf43 (by omega) (by omega) (eX11_goOn (139, .laload, 1) (List.mem_of_getElem? (i := 70) rfl)) ?_
            rw [show v46.toNatClampNeg = 0 by show v46.toInt.toNat = 0; omega, hzx]
            exact W.lret hx hb hr (fun t ht hW => ⟨_, rfl, Or.inr ⟨hv9, _, hg9, Or.inr ⟨hdk, by rw [← hgl]; exact Or.inr ⟨by rw [← hse]; exact (by omega), Or.inl ⟨by omega, Or.inl (by rw [← h59]; exact hAx)⟩⟩⟩⟩, by rw [ht]; exact hh43.l0, by rw [ht]; exact kp43, by rw [ht]; exact jg43, by rw [ht]; exact fr43⟩) hh43.2.2.1 (eX11_goOn (140, .lreturn, 1) (List.mem_of_getElem? (i := 71) rfl))
    · skip
      refine ff_ldc2 (n := (-9223372036854775808)) hx hb hown h2 (clX11_ok 62 (-9223372036854775808) (List.mem_of_getElem? (i := 0) rfl)) (eX11_goOn (57, .ldc2_w 62, 3) (List.mem_of_getElem? (i := 28) rfl)) (fun v47 e47 => ?_)
      exact W.lret hx hb hr (fun t ht hW => ⟨_, rfl, Or.inr ⟨hv9, _, hg9, Or.inl ⟨by unfold dOK; omega, by unfold NONEI; omega⟩⟩, by rw [ht]; exact hh2.l0, by rw [ht]; exact kp2, by rw [ht]; exact jg2, by rw [ht]; exact fr2⟩) hh2.2.2.1 (eX11_goOn (60, .lreturn, 1) (List.mem_of_getElem? (i := 29) rfl))
