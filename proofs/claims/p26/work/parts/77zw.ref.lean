/-- rule: what the document says of it -/
def spRu (zi nz : Int) (T : List Int) (k r : Int) : Prop := (k = 1 ∧ ¬ (0 ≤ zi ∧ zi < nz)) ∨ (k = 0 ∧ 0 ≤ zi ∧ zi < nz ∧ r = vdF (ruF T).2)
theorem spRu_det {zi nz : Int} {T : List Int} {k r k' r' : Int} (h : spRu zi nz T k r) (g : spRu zi nz T k' r') : k = k' ∧ (k = 0 → r = r') := by
  rcases h with ⟨h1, h2⟩ | ⟨h1, h2, h3, h4⟩ <;> rcases g with ⟨g1, g2⟩ | ⟨g1, g2, g3, g4⟩
  · exact ⟨by omega, by omega⟩
  · exact absurd ⟨g2, g3⟩ h2
  · exact absurd ⟨h2, h3⟩ g2
  · exact ⟨by omega, fun _ => by rw [h4, g4]⟩
def kRr : List (Nat × Nat) := [(11, 0), (11, 29), (11, 30), (11, 31), (11, 33), (26, 0), (27, 0), (28, 0), (29, 0), (35, 0)]
theorem secG_up {T : List Int} {h0 one : Int} {r : uS} (h : -6039 ≤ one ∧ one ≤ 6039) : -6099 ≤ (secG T h0 one r).1 ∧ (secG T h0 one r).1 ≤ 6099 := by
  unfold secG
  have := tmG_up T 1 23 r
  split <;> (dsimp only; omega)
set_option maxRecDepth 100000 in
set_option maxHeartbeats 4000000 in
theorem hX12_rule (l : Launch) (D : va_G) (cA : Nat → ClassId) (ro : Nat → Option Nat) (sz : Nat) (H0 : Heap) (a : Nat) (zi : Int32) (L : List Int) (Z : List zE) (T O : List Int) (ha : ro a = some 11)  : Met l yX12_rule (gW yX12_rule cX12_rule 7 (some .long)) { frames := 4, cells := 0, slots := 0, locals := 90 } (zs_P D cA ro sz H0 (fun H => jRZ D cA ro H a L Z ∧ jRK D cA ro H a T O) [.ref a, .int zi]) (fun _ st oc t => ∃ (r : Int64) (w : Int32), oc = .returned (some (.long r)) ∧ zh_ok D cA RTg ro sz H0 t.heap [] ∧ zc_kept D RTg ro kRr st.heap t.heap ∧ zh_f D t.heap a 11 0 = .int w ∧ spRu zi.toInt (Z.length : Int) T w.toInt r.toInt) 0 0 (zy_fr sz) := by
  refine zy_ofW (cc := cX12_rule) (maxL := 7) (ret := (some .long)) (by decide +kernel) rfl ?_
  intro p e s m args below meth c s1 B hml hv
  obtain ⟨rfl, hh, hKn, hJ⟩ := hv
  have hx := B.exec
  have hb := B.bytes
  have hr := B.returns
  have hlk := B.notSynchronized
  have hts0 := atoms_spec (ws := gW yX12_rule cX12_rule 7 (some .long)) B.pre
  have h2 : ∀ w ∈ gT, w.before ([.ref a, .int zi] : List Value).toArray s = true := fun w hw => hts0 w (List.mem_cons_of_mem _ hw)
  have hown : s.vm.findClass RX12 = some m.cls := findClass_of_methodNamed B.named
  have hl := lv_entry [.ref a, .int zi] (n := 7) (Nat.le_of_ble_eq_true rfl)
  rw [lg_entry_eq]
  generalize (lg_sl [.ref a, .int zi] ++ List.replicate (7 - (lg_sl [.ref a, .int zi]).length) Slot.unset).toArray = ls at hl ⊢
  have b_zi := zn_i32 zi
  have hD := zD_all h2 hKn.1
  have hcl11 := fun (idx k : Nat) (t : zt_T) (h : (idx, 11, k) ∈ gfX12) (hk : fsX12[k]? = some t) => zf_clause (ro := ro) (ms := kRr) h2 hown hKn.1 gfX12_ok (by decide +kernel) idx 11 k 11 0 fsX12 t h rfl hk
  have kp0 : zc_kept D RTg ro kRr s.heap s.heap := zc_kept.refl
  obtain ⟨⟨-, ⟨a4, a5, a6, a7, z4, z5, z6, z7, nz, -, -, -, -, f3, hnz, -⟩, -, hzw⟩, hrt, -, hkb⟩ := id hJ
  have hT := hkb.1
  have hzl := hzw.1
  refine lv_aload_n hx hb (eX12_rule (0, .aload_n 0, 1) (List.mem_of_getElem? (i := 0) rfl)) rfl (lv_at hl 0 rfl) ?_
  refine lv_aload_n hx hb (eX12_rule (1, .aload_n 0, 1) (List.mem_of_getElem? (i := 1) rfl)) rfl (lv_at hl 0 rfl) ?_
  refine lv_iload_n hx hb (eX12_rule (2, .iload_n 1, 1) (List.mem_of_getElem? (i := 2) rfl)) rfl (lv_at hl 1 rfl) ?_
  refine tz_rowV (As := [.int zi]) (st := [.ref a]) (b := a) (C := RX12) (Ts := gT) hx hb hml hown h2 (fun _ h => h) (hX12_isZone l D cA ro sz H0 a zi nz ha) ⟨rfl, rfl⟩ ⟨by decide, by decide⟩ ⟨by decide, by decide⟩ (tb_7 162 rfl rfl) (tb_1 12 rfl rfl) (tb_7 159 rfl rfl) (tb_7 161 rfl rfl) (tb_0 15 rfl rfl) (show yX12_isZone.cls ≠ "java/lang/invoke/MethodHandle" ∧ yX12_isZone.cls ≠ "java/lang/invoke/VarHandle" ∧ (parseMethodDescriptor yX12_isZone.desc).map (fun d => d.parameters.length) = some 1 by decide +kernel) zs_blind (zs_ob hh ha (show RTg[11]? = some (0, 11, 0, fsX12) from rfl) (zCX12 hKn.1)) (fun U hU hW => ⟨rfl, by rw [hU]; exact hh.l0, zKb s U hW.alike hKn, by rw [hU]; exact f3⟩) hh.2.2.1 hl.1 (Nat.le_of_ble_eq_true rfl) (eX12_rule (3, .invokevirtual 221, 3) (List.mem_of_getElem? (i := 3) rfl)) (fun r1 s1 t1 lo1 g1 f1 l1 => ?_)
  obtain ⟨z1, v1, q1, e1⟩ := f1
  cases q1
  rw [z1, g1]
  have hh1 : zh_ok D cA RTg ro sz H0 s.heap lo1 := ⟨hh.1, hh.2.1, l1, hh.2.2.2⟩
  refine W.eq (g2 := F0 m 6 ls [.int v1, .ref a]) rfl ?_
  refine ff_if_eq hx hb (eX12_rule (6, .ifCond .eq 7, 3) (List.mem_of_getElem? (i := 4) rfl)) (tgt := 13) rfl (fun c2 => ?_) (fun c2 => ?_)
  · skip
    refine ff_iconst hx hb (eX12_rule (13, .iconst 1, 1) (List.mem_of_getElem? (i := 7) rfl)) (by decide) (by decide) (fun v3 e3 => ?_)
    refine tz_put (r := 11) (k := 0) (t := (0, 0, 2)) hx hb hD hh1 ha rfl rfl ((hcl11 85 0 (0, 0, 2) (by decide) rfl).2 (by decide)) (tz_i (by omega) (by omega)) (eX12_rule (14, .putfield 85, 3) (List.mem_of_getElem? (i := 8) rfl)) (fun H4 lo4 hh4 hf4 hk4 _ hq4 => ?_)
    have mf4_a_3 := (hk4.1 a 11 3 11 0 fsX12 ha rfl (by decide) (by decide)).trans f3
    have kp4 := kp0.trans (hk4.mono (ms' := kRr) (fun x hx => by cases List.mem_singleton.mp hx; decide))
    have jm4 := (hrt).kept ha hk4 (by decide) (by decide) (by decide)
    refine lv_aload_n hx hb (eX12_rule (17, .aload_n 0, 1) (List.mem_of_getElem? (i := 9) rfl)) rfl (lv_at hl 0 rfl) ?_
    refine tz_get (r := 11) (k := 0) (t := (0, 0, 2)) hx hb hh4 ha rfl rfl (hcl11 85 0 (0, 0, 2) (by decide) rfl).1 hf4 (eX12_rule (18, .getfield 85, 3) (List.mem_of_getElem? (i := 10) rfl)) ?_
    refine ff_if_le hx hb (eX12_rule (21, .ifCond .le 5, 3) (List.mem_of_getElem? (i := 11) rfl)) (tgt := 26) rfl (fun c5 => (by exfalso; omega)) (fun c5 => ?_)
    refine ff_lconst hx hb (eX12_rule (24, .lconst 0, 1) (List.mem_of_getElem? (i := 12) rfl)) rfl (fun v6 e6 => ?_)
    exact W.lret hx hb hr (fun t ht hW => ⟨_, _, rfl, by rw [ht]; exact hh4.l0, by rw [ht]; exact kp4, by rw [ht]; exact hf4, Or.inl ⟨by omega, by omega⟩⟩) hh4.2.2.1 (eX12_rule (25, .lreturn, 1) (List.mem_of_getElem? (i := 13) rfl))
  · skip
    refine ff_iconst hx hb (eX12_rule (9, .iconst 0, 1) (List.mem_of_getElem? (i := 5) rfl)) (by decide) (by decide) (fun v7 e7 => ?_)
    refine lv_goto hx hb (eX12_rule (10, .goto 4, 3) (List.mem_of_getElem? (i := 6) rfl)) (tgt := 14) rfl ?_
    refine tz_put (r := 11) (k := 0) (t := (0, 0, 2)) hx hb hD hh1 ha rfl rfl ((hcl11 85 0 (0, 0, 2) (by decide) rfl).2 (by decide)) (tz_i (by omega) (by omega)) (eX12_rule (14, .putfield 85, 3) (List.mem_of_getElem? (i := 8) rfl)) (fun H8 lo8 hh8 hf8 hk8 _ hq8 => ?_)
    have mf8_a_3 := (hk8.1 a 11 3 11 0 fsX12 ha rfl (by decide) (by decide)).trans f3
    have kp8 := kp0.trans (hk8.mono (ms' := kRr) (fun x hx => by cases List.mem_singleton.mp hx; decide))
    have jm8 := (hrt).kept ha hk8 (by decide) (by decide) (by decide)
    refine lv_aload_n hx hb (eX12_rule (17, .aload_n 0, 1) (List.mem_of_getElem? (i := 9) rfl)) rfl (lv_at hl 0 rfl) ?_
    refine tz_get (r := 11) (k := 0) (t := (0, 0, 2)) hx hb hh8 ha rfl rfl (hcl11 85 0 (0, 0, 2) (by decide) rfl).1 hf8 (eX12_rule (18, .getfield 85, 3) (List.mem_of_getElem? (i := 10) rfl)) ?_
    refine ff_if_le hx hb (eX12_rule (21, .ifCond .le 5, 3) (List.mem_of_getElem? (i := 11) rfl)) (tgt := 26) rfl (fun c9 => ?_) (fun c9 => (by exfalso; omega))
    refine lv_aload_n hx hb (eX12_rule (26, .aload_n 0, 1) (List.mem_of_getElem? (i := 14) rfl)) rfl (lv_at hl 0 rfl) ?_
    refine tz_rowV (As := []) (st := []) (b := a) (C := RX12) (Ts := gT) hx hb hml hown h2 (fun _ h => h) (hX12_begin_ l D cA ro sz H0 a T ha) ⟨rfl, rfl⟩ ⟨by decide, by decide⟩ ⟨by decide, by decide⟩ (tb_8 5 rfl rfl) (tb_1 12 rfl rfl) (tb_8 2 rfl rfl) (tb_8 4 rfl rfl) (tb_0 28 rfl rfl) (show yX12_begin_.cls ≠ "java/lang/invoke/MethodHandle" ∧ yX12_begin_.cls ≠ "java/lang/invoke/VarHandle" ∧ (parseMethodDescriptor yX12_begin_.desc).map (fun d => d.parameters.length) = some 0 by decide +kernel) zs_blind (zs_ob hh8 ha (show RTg[11]? = some (0, 11, 0, fsX12) from rfl) (zCX12 hKn.1)) (fun U hU hW => ⟨rfl, by rw [hU]; exact hh8.l0, zKb s U hW.alike hKn, by rw [hU]; exact jm8⟩) hh8.2.2.1 hl.1 (Nat.le_of_ble_eq_true rfl) (eX12_rule (27, .invokevirtual 346, 3) (List.mem_of_getElem? (i := 15) rfl)) (fun r10 s10 t10 lo10 g10 f10 l10 => ?_)
    obtain ⟨q10, z10, c10, j10⟩ := f10
    cases q10
    rw [g10] at c10
    have hh10 : zh_ok D cA RTg ro sz H0 t10.heap lo10 := ⟨z10.1, z10.2.1, l10, z10.2.2.2⟩
    have kp10 := kp8.trans (c10.mono (ms' := kRr) (by decide))
    have mf10_a_3 := (c10.1 a 11 3 11 0 fsX12 ha rfl (by decide) (by decide)).trans mf8_a_3
    have mf10_a_0 := (c10.1 a 11 0 11 0 fsX12 ha rfl (by decide) (by decide)).trans hf8
    refine W.eq (g2 := F0 m 30 ls []) rfl ?_
    refine lv_aload_n hx hb (eX12_rule (30, .aload_n 0, 1) (List.mem_of_getElem? (i := 16) rfl)) rfl (lv_at hl 0 rfl) ?_
    refine tz_rowV (As := []) (st := []) (b := a) (C := RX12) (Ts := gT) hx hb hml hown h2 (fun _ h => h) (hX12_ruleName l D cA ro sz H0 a T (((0, -1, 1000) : uS)) ha) ⟨rfl, rfl⟩ ⟨by decide, by decide⟩ ⟨by decide, by decide⟩ (tb_8 9 rfl rfl) (tb_1 12 rfl rfl) (tb_8 6 rfl rfl) (tb_8 8 rfl rfl) (tb_0 29 rfl rfl) (show yX12_ruleName.cls ≠ "java/lang/invoke/MethodHandle" ∧ yX12_ruleName.cls ≠ "java/lang/invoke/VarHandle" ∧ (parseMethodDescriptor yX12_ruleName.desc).map (fun d => d.parameters.length) = some 0 by decide +kernel) zs_blind (zs_ob hh10 ha (show RTg[11]? = some (0, 11, 0, fsX12) from rfl) (zCX12 hKn.1)) (fun U hU hW => ⟨rfl, by rw [hU]; exact hh10.l0, zKb s U hW.alike hKn, by rw [hU]; exact j10⟩) hh10.2.2.1 hl.1 (Nat.le_of_ble_eq_true rfl) (eX12_rule (31, .invokevirtual 348, 3) (List.mem_of_getElem? (i := 17) rfl)) (fun r11 s11 t11 lo11 g11 f11 l11 => ?_)
    obtain ⟨q11, z11, c11, j11⟩ := f11
    cases q11
    rw [g11] at c11
    have hh11 : zh_ok D cA RTg ro sz H0 t11.heap lo11 := ⟨z11.1, z11.2.1, l11, z11.2.2.2⟩
    have kp11 := kp10.trans (c11.mono (ms' := kRr) (by decide))
    generalize hx11 : nameG T (((0, -1, 1000) : uS)) = x11 at j11
    have uu11 := j11.2.2
    unfold vOK at uu11
    have mf11_a_3 := (c11.1 a 11 3 11 0 fsX12 ha rfl (by decide) (by decide)).trans mf10_a_3
    have mf11_a_0 := (c11.1 a 11 0 11 0 fsX12 ha rfl (by decide) (by decide)).trans mf10_a_0
    refine W.eq (g2 := F0 m 34 ls []) rfl ?_
    refine lv_aload_n hx hb (eX12_rule (34, .aload_n 0, 1) (List.mem_of_getElem? (i := 18) rfl)) rfl (lv_at hl 0 rfl) ?_
    refine ff_iconst hx hb (eX12_rule (35, .iconst 1, 1) (List.mem_of_getElem? (i := 19) rfl)) (by decide) (by decide) (fun v12 e12 => ?_)
    refine ff_bipush hx hb (eX12_rule (36, .bipush 23, 2) (List.mem_of_getElem? (i := 20) rfl)) (by decide) (by decide) (fun v13 e13 => ?_)
    refine tz_rowV (As := [.int v12, .int v13]) (st := []) (b := a) (C := RX12) (Ts := gT) hx hb hml hown h2 (fun _ h => h) (hX12_ruleTime l D cA ro sz H0 a v12 v13 1 23 T (x11) ha (by omega) (by omega) (by decide)) ⟨rfl, rfl⟩ ⟨by decide, by decide⟩ ⟨by decide, by decide⟩ (tb_8 39 rfl rfl) (tb_1 12 rfl rfl) (tb_8 36 rfl rfl) (tb_8 38 rfl rfl) (tb_0 35 rfl rfl) (show yX12_ruleTime.cls ≠ "java/lang/invoke/MethodHandle" ∧ yX12_ruleTime.cls ≠ "java/lang/invoke/VarHandle" ∧ (parseMethodDescriptor yX12_ruleTime.desc).map (fun d => d.parameters.length) = some 2 by decide +kernel) zs_blind (zs_ob hh11 ha (show RTg[11]? = some (0, 11, 0, fsX12) from rfl) (zCX12 hKn.1)) (fun U hU hW => ⟨rfl, by rw [hU]; exact hh11.l0, zKb s U hW.alike hKn, by rw [hU]; exact j11⟩) hh11.2.2.1 hl.1 (Nat.le_of_ble_eq_true rfl) (eX12_rule (38, .invokevirtual 342, 3) (List.mem_of_getElem? (i := 21) rfl)) (fun r14 s14 t14 lo14 g14 f14 l14 => ?_)
    obtain ⟨v14, hv14, q14, e14, fh14, eh14, z14, c14, j14⟩ := f14
    cases q14
    rw [g14] at c14
    have hh14 : zh_ok D cA RTg ro sz H0 t14.heap lo14 := ⟨z14.1, z14.2.1, l14, z14.2.2.2⟩
    have kp14 := kp11.trans (c14.mono (ms' := kRr) (by decide))
    have kf14 := tmG_up T 1 23 x11
    generalize hx14 : tmG T 1 23 x11 = x14 at j14 e14 eh14 kf14
    have uu14 := j14.2.2
    unfold vOK at uu14
    have mf14_a_3 := (c14.1 a 11 3 11 0 fsX12 ha rfl (by decide) (by decide)).trans mf11_a_3
    have mf14_a_0 := (c14.1 a 11 0 11 0 fsX12 ha rfl (by decide) (by decide)).trans mf11_a_0
    refine W.eq (g2 := F0 m 41 ls [.int v14]) rfl ?_
    refine ff_ineg hx hb (eX12_rule (41, .ineg, 1) (List.mem_of_getElem? (i := 22) rfl)) (by omega) (by omega) (fun v15 e15 => ?_)
    refine lv_istore_n hx hb (eX12_rule (42, .istore_n 2, 1) (List.mem_of_getElem? (i := 23) rfl)) rfl hl (by decide) rfl (fun ls16 hl16 => ?_)
    refine lv_aload_n hx hb (eX12_rule (43, .aload_n 0, 1) (List.mem_of_getElem? (i := 24) rfl)) rfl (lv_at hl16 1 rfl) ?_
    refine tz_get (r := 11) (k := 33) (t := (0, (-2147483648), 2147483647)) hx hb hh14 ha rfl rfl (hcl11 328 33 (0, (-2147483648), 2147483647) (by decide) rfl).1 fh14 (eX12_rule (44, .getfield 328, 3) (List.mem_of_getElem? (i := 25) rfl)) ?_
    refine lv_istore_n hx hb (eX12_rule (47, .istore_n 3, 1) (List.mem_of_getElem? (i := 26) rfl)) rfl hl16 (by decide) rfl (fun ls17 hl17 => ?_)
    have jn218 : ∀ (ot tw : Int32) (g : uS) (ls : Array Slot) (H : Heap) (lo0 : List Loc), (-6099 ≤ ot.toInt ∧ ot.toInt ≤ 6099) → (tw.toInt = 0 ∨ tw.toInt = 1) → (ruG T).2 = g → zh_f D H a 11 0 = .int v7 → zh_ok D cA RTg ro sz H0 H lo0 → zc_kept D RTg ro kRr s.heap H → jV D cA ro H a T g → lv_has ls 7 [(4, .int ot), (5, .int tw), (0, .ref a), (1, .int zi), (2, .int v15), (3, .int hv14)] → W p l e (headSpec (gW yX12_rule cX12_rule 7 (some .long)) { frames := 4, cells := 0, slots := 0, locals := 90 }).room s m ([.ref a, .int zi] : List Value).toArray below meth c H lo0 0 0 (MQ below (fun _ st oc t => ∃ (r : Int64) (w : Int32), oc = .returned (some (.long r)) ∧ zh_ok D cA RTg ro sz H0 t.heap [] ∧ zc_kept D RTg ro kRr st.heap t.heap ∧ zh_f D t.heap a 11 0 = .int w ∧ spRu zi.toInt (Z.length : Int) T w.toInt r.toInt) ([.ref a, .int zi] : List Value).toArray s 0 0 (zy_fr sz)) (F0 m 218 ls []) := by
      intro ot tw g ls H lo0 b1 b2 htot fw hh0 kpl jl hl
      have hul := jl.2.2
      unfold vOK at hul
      refine lv_aload_n hx hb (eX12_rule (218, .aload_n 0, 1) (List.mem_of_getElem? (i := 109) rfl)) rfl (lv_at hl 2 rfl) ?_
      obtain ⟨jt18, ⟨av18, fv18, bv18, f2918, f3018, f3118, hav18, hfv18, hbv18⟩, hu18⟩ := id jl
      have hw18 := hu18
      unfold vOK at hw18
      obtain ⟨tb18, n18, z18, f1218, r018, f1318, hn18, hc18, hz18⟩ := id jt18
      refine tz_get (r := 11) (k := 30) (t := (0, (-1), 120)) hx hb hh0 ha rfl rfl (hcl11 296 30 (0, (-1), 120) (by decide) rfl).1 f3018 (eX12_rule (219, .getfield 296, 3) (List.mem_of_getElem? (i := 110) rfl)) ?_
      refine ff_if_lt hx hb (eX12_rule (222, .ifCond .lt 9, 3) (List.mem_of_getElem? (i := 111) rfl)) (tgt := 231) rfl (fun c19 => ?_) (fun c19 => ?_)
      · skip
        refine lv_aload_n hx hb (eX12_rule (231, .aload_n 0, 1) (List.mem_of_getElem? (i := 116) rfl)) rfl (lv_at hl 2 rfl) ?_
        refine tz_get (r := 11) (k := 31) (t := (0, (-2147483648), 2147483647)) hx hb hh0 ha rfl rfl (hcl11 299 31 (0, (-2147483648), 2147483647) (by decide) rfl).1 f3118 (eX12_rule (232, .getfield 299, 3) (List.mem_of_getElem? (i := 117) rfl)) ?_
        refine ff_sipush hx hb (eX12_rule (235, .sipush 1000, 3) (List.mem_of_getElem? (i := 118) rfl)) (by decide) (by decide) (fun v20 e20 => ?_)
        refine ff_icmp_ge hx hb (eX12_rule (238, .if_icmp .ge 9, 3) (List.mem_of_getElem? (i := 119) rfl)) (tgt := 247) rfl (fun c21 => ?_) (fun c21 => ?_)
        · skip
          refine lv_aload_n hx hb (eX12_rule (247, .aload_n 0, 1) (List.mem_of_getElem? (i := 124) rfl)) rfl (lv_at hl 2 rfl) ?_
          obtain ⟨a22, fa22, ra22⟩ := tz_ref (k := 8) (rr := 26) hh0 ha (show RTg[11]? = some (0, 11, 0, fsX12) from rfl) rfl
          refine tz_get (r := 11) (k := 8) (t := (56, 0, 0)) hx hb hh0 ha rfl rfl (hcl11 28 8 (56, 0, 0) (by decide) rfl).1 fa22 (eX12_rule (248, .getfield 28, 3) (List.mem_of_getElem? (i := 125) rfl)) ?_
          refine lv_iload_n hx hb (eX12_rule (251, .iload_n 1, 1) (List.mem_of_getElem? (i := 126) rfl)) rfl (lv_at hl 3 rfl) ?_
          refine lv_iload hx hb (eX12_rule (252, .iload 5, 2) (List.mem_of_getElem? (i := 127) rfl)) (lv_at hl 1 rfl) ?_
          refine ff_if_eq hx hb (eX12_rule (254, .ifCond .eq 7, 3) (List.mem_of_getElem? (i := 128) rfl)) (tgt := 261) rfl (fun c23 => ?_) (fun c23 => ?_)
          · skip
            refine ff_iconst hx hb (eX12_rule (261, .iconst 1, 1) (List.mem_of_getElem? (i := 131) rfl)) (by decide) (by decide) (fun v24 e24 => ?_)
            obtain ⟨-, z25, hc25, hy25⟩ := zh_arr hh0 ra22 (show RTg[26]? = some (1, 0, 8, [(0, 0, 2)]) from rfl)
            refine tz_iast hx hb (zAr hKn.1 0 (by decide)) hh0 ra22 (show RTg[26]? = some (1, 0, 8, [(0, 0, 2)]) from rfl) hc25 hy25 (by omega) (by omega) (tz_i (by omega) (by omega)) (eX12_rule (262, .iastore, 1) (List.mem_of_getElem? (i := 132) rfl)) (fun H26 lo26 hh26 hc26 hk26 hq26 _ => ?_)
            have mf26_a_0 := (hk26.1 a 11 0 11 0 fsX12 ha rfl (by decide) (by decide)).trans fw
            have mf26_a_29 := (hk26.1 a 11 29 11 0 fsX12 ha rfl (by decide) (by decide)).trans f2918
            have mf26_a_30 := (hk26.1 a 11 30 11 0 fsX12 ha rfl (by decide) (by decide)).trans f3018
            have mf26_a_31 := (hk26.1 a 11 31 11 0 fsX12 ha rfl (by decide) (by decide)).trans f3118
            have mf26_a_13 := (hk26.1 a 11 13 11 0 fsX12 ha rfl (by decide) (by decide)).trans f1318
            have mf26_a_8 := (hk26.1 a 11 8 11 0 fsX12 ha rfl (by decide) (by decide)).trans fa22
            have kp26 := kpl.trans (hk26.mono (ms' := kRr) (fun x hx => by cases List.mem_singleton.mp hx; decide))
            have jm26 := (jl).kept ha hk26 (by decide)
            refine lv_aload_n hx hb (eX12_rule (263, .aload_n 0, 1) (List.mem_of_getElem? (i := 133) rfl)) rfl (lv_at hl 2 rfl) ?_
            obtain ⟨a27, fa27, ra27⟩ := tz_ref (k := 9) (rr := 27) hh26 ha (show RTg[11]? = some (0, 11, 0, fsX12) from rfl) rfl
            refine tz_get (r := 11) (k := 9) (t := (58, 0, 0)) hx hb hh26 ha rfl rfl (hcl11 31 9 (58, 0, 0) (by decide) rfl).1 fa27 (eX12_rule (264, .getfield 31, 3) (List.mem_of_getElem? (i := 134) rfl)) ?_
            refine lv_iload_n hx hb (eX12_rule (267, .iload_n 1, 1) (List.mem_of_getElem? (i := 135) rfl)) rfl (lv_at hl 3 rfl) ?_
            refine lv_iload_n hx hb (eX12_rule (268, .iload_n 2, 1) (List.mem_of_getElem? (i := 136) rfl)) rfl (lv_at hl 4 rfl) ?_
            obtain ⟨-, z28, hc28, hy28⟩ := zh_arr hh26 ra27 (show RTg[27]? = some (1, 0, 8, [(0, (-1000000), 1000000)]) from rfl)
            refine tz_iast hx hb (zAr hKn.1 0 (by decide)) hh26 ra27 (show RTg[27]? = some (1, 0, 8, [(0, (-1000000), 1000000)]) from rfl) hc28 hy28 (by omega) (by omega) (tz_i (by omega) (by omega)) (eX12_rule (269, .iastore, 1) (List.mem_of_getElem? (i := 137) rfl)) (fun H29 lo29 hh29 hc29 hk29 hq29 _ => ?_)
            have mf29_a_0 := (hk29.1 a 11 0 11 0 fsX12 ha rfl (by decide) (by decide)).trans mf26_a_0
            have mf29_a_29 := (hk29.1 a 11 29 11 0 fsX12 ha rfl (by decide) (by decide)).trans mf26_a_29
            have mf29_a_30 := (hk29.1 a 11 30 11 0 fsX12 ha rfl (by decide) (by decide)).trans mf26_a_30
            have mf29_a_31 := (hk29.1 a 11 31 11 0 fsX12 ha rfl (by decide) (by decide)).trans mf26_a_31
            have mf29_a_13 := (hk29.1 a 11 13 11 0 fsX12 ha rfl (by decide) (by decide)).trans mf26_a_13
            have mf29_a_8 := (hk29.1 a 11 8 11 0 fsX12 ha rfl (by decide) (by decide)).trans mf26_a_8
            have mf29_a_9 := (hk29.1 a 11 9 11 0 fsX12 ha rfl (by decide) (by decide)).trans fa27
            have kp29 := kp26.trans (hk29.mono (ms' := kRr) (fun x hx => by cases List.mem_singleton.mp hx; decide))
            have jm29 := (jm26).kept ha hk29 (by decide)
            refine lv_aload_n hx hb (eX12_rule (270, .aload_n 0, 1) (List.mem_of_getElem? (i := 138) rfl)) rfl (lv_at hl 2 rfl) ?_
            obtain ⟨a30, fa30, ra30⟩ := tz_ref (k := 10) (rr := 28) hh29 ha (show RTg[11]? = some (0, 11, 0, fsX12) from rfl) rfl
            refine tz_get (r := 11) (k := 10) (t := (60, 0, 0)) hx hb hh29 ha rfl rfl (hcl11 34 10 (60, 0, 0) (by decide) rfl).1 fa30 (eX12_rule (271, .getfield 34, 3) (List.mem_of_getElem? (i := 139) rfl)) ?_
            refine lv_iload_n hx hb (eX12_rule (274, .iload_n 1, 1) (List.mem_of_getElem? (i := 140) rfl)) rfl (lv_at hl 3 rfl) ?_
            refine lv_iload hx hb (eX12_rule (275, .iload 4, 2) (List.mem_of_getElem? (i := 141) rfl)) (lv_at hl 0 rfl) ?_
            obtain ⟨-, z31, hc31, hy31⟩ := zh_arr hh29 ra30 (show RTg[28]? = some (1, 0, 8, [(0, (-1000000), 1000000)]) from rfl)
            refine tz_iast hx hb (zAr hKn.1 0 (by decide)) hh29 ra30 (show RTg[28]? = some (1, 0, 8, [(0, (-1000000), 1000000)]) from rfl) hc31 hy31 (by omega) (by omega) (tz_i (by omega) (by omega)) (eX12_rule (277, .iastore, 1) (List.mem_of_getElem? (i := 142) rfl)) (fun H32 lo32 hh32 hc32 hk32 hq32 _ => ?_)
            have mf32_a_0 := (hk32.1 a 11 0 11 0 fsX12 ha rfl (by decide) (by decide)).trans mf29_a_0
            have mf32_a_29 := (hk32.1 a 11 29 11 0 fsX12 ha rfl (by decide) (by decide)).trans mf29_a_29
            have mf32_a_30 := (hk32.1 a 11 30 11 0 fsX12 ha rfl (by decide) (by decide)).trans mf29_a_30
            have mf32_a_31 := (hk32.1 a 11 31 11 0 fsX12 ha rfl (by decide) (by decide)).trans mf29_a_31
            have mf32_a_13 := (hk32.1 a 11 13 11 0 fsX12 ha rfl (by decide) (by decide)).trans mf29_a_13
            have mf32_a_8 := (hk32.1 a 11 8 11 0 fsX12 ha rfl (by decide) (by decide)).trans mf29_a_8
            have mf32_a_9 := (hk32.1 a 11 9 11 0 fsX12 ha rfl (by decide) (by decide)).trans mf29_a_9
            have mf32_a_10 := (hk32.1 a 11 10 11 0 fsX12 ha rfl (by decide) (by decide)).trans fa30
            have kp32 := kp29.trans (hk32.mono (ms' := kRr) (fun x hx => by cases List.mem_singleton.mp hx; decide))
            have jm32 := (jm29).kept ha hk32 (by decide)
            refine ff_iconst hx hb (eX12_rule (278, .iconst 0, 1) (List.mem_of_getElem? (i := 143) rfl)) (by decide) (by decide) (fun v33 e33 => ?_)
            refine lv_istore hx hb (eX12_rule (279, .istore 6, 2) (List.mem_of_getElem? (i := 144) rfl)) hl (by decide) rfl (fun ls34 hl34 => ?_)
            have loop : ∀ (n0 i : Nat) (iv : Int32) (ls : Array Slot) (H : Heap) (lo0 : List Loc), i + n0 = 10 → iv.toInt = (i : Int) → zh_f D H a 11 0 = .int v7 → zh_ok D cA RTg ro sz H0 H lo0 → zc_kept D RTg ro kRr s.heap H → lv_has ls 7 [(6, .int iv), (0, .ref a), (1, .int zi)] → W p l e (headSpec (gW yX12_rule cX12_rule 7 (some .long)) { frames := 4, cells := 0, slots := 0, locals := 90 }).room s m ([.ref a, .int zi] : List Value).toArray below meth c H lo0 0 0 (MQ below (fun _ st oc t => ∃ (r : Int64) (w : Int32), oc = .returned (some (.long r)) ∧ zh_ok D cA RTg ro sz H0 t.heap [] ∧ zc_kept D RTg ro kRr st.heap t.heap ∧ zh_f D t.heap a 11 0 = .int w ∧ spRu zi.toInt (Z.length : Int) T w.toInt r.toInt) ([.ref a, .int zi] : List Value).toArray s 0 0 (zy_fr sz)) (F0 m 281 ls []) := by
              intro n0
              induction n0 with
              | zero =>
                intro i iv ls H lo0 hi hiv fw hh0 kpl hl
                refine lv_iload hx hb (eX12_rule (281, .iload 6, 2) (List.mem_of_getElem? (i := 145) rfl)) (lv_at hl 0 rfl) ?_
                refine ff_bipush hx hb (eX12_rule (283, .bipush 10, 2) (List.mem_of_getElem? (i := 146) rfl)) (by decide) (by decide) (fun v35 e35 => ?_)
                refine ff_icmp_ge hx hb (eX12_rule (285, .if_icmp .ge 28, 3) (List.mem_of_getElem? (i := 147) rfl)) (tgt := 313) rfl (fun c36 => ?_) (fun c36 => (by exfalso; omega))
                refine ff_ldc2 (n := (-9223372036854775808)) hx hb hown h2 (clX12_ok 83 (-9223372036854775808) (List.mem_of_getElem? (i := 2) rfl)) (eX12_rule (313, .ldc2_w 83, 3) (List.mem_of_getElem? (i := 162) rfl)) (fun v37 e37 => ?_)
                have hvd : v37.toInt = vdG g := by unfold vdG; (first | (rw [if_pos (by omega)]; omega) | (rw [if_neg (by omega), if_pos (by omega)]; omega) | (rw [if_neg (by omega), if_neg (by omega)]; unfold NONEI; omega))
                exact W.lret hx hb hr (fun t ht hW => ⟨_, _, rfl, by rw [ht]; exact hh0.l0, by rw [ht]; exact kpl, by rw [ht]; exact fw, Or.inr ⟨by omega, by omega, by omega, by rw [(ru_same hT).1.verdict hT, htot]; exact hvd⟩⟩) hh0.2.2.1 (eX12_rule (316, .lreturn, 1) (List.mem_of_getElem? (i := 163) rfl))
              | succ n0 ih =>
                intro i iv ls H lo0 hi hiv fw hh0 kpl hl
                refine lv_iload hx hb (eX12_rule (281, .iload 6, 2) (List.mem_of_getElem? (i := 145) rfl)) (lv_at hl 0 rfl) ?_
                refine ff_bipush hx hb (eX12_rule (283, .bipush 10, 2) (List.mem_of_getElem? (i := 146) rfl)) (by decide) (by decide) (fun v38 e38 => ?_)
                refine ff_icmp_ge hx hb (eX12_rule (285, .if_icmp .ge 28, 3) (List.mem_of_getElem? (i := 147) rfl)) (tgt := 313) rfl (fun c39 => (by exfalso; omega)) (fun c39 => ?_)
                refine lv_aload_n hx hb (eX12_rule (288, .aload_n 0, 1) (List.mem_of_getElem? (i := 148) rfl)) rfl (lv_at hl 1 rfl) ?_
                obtain ⟨a40, fa40, ra40⟩ := tz_ref (k := 11) (rr := 29) hh0 ha (show RTg[11]? = some (0, 11, 0, fsX12) from rfl) rfl
                refine tz_get (r := 11) (k := 11) (t := (62, 0, 0)) hx hb hh0 ha rfl rfl (hcl11 37 11 (62, 0, 0) (by decide) rfl).1 fa40 (eX12_rule (289, .getfield 37, 3) (List.mem_of_getElem? (i := 149) rfl)) ?_
                refine ff_bipush hx hb (eX12_rule (292, .bipush 10, 2) (List.mem_of_getElem? (i := 150) rfl)) (by decide) (by decide) (fun v41 e41 => ?_)
                refine lv_iload_n hx hb (eX12_rule (294, .iload_n 1, 1) (List.mem_of_getElem? (i := 151) rfl)) rfl (lv_at hl 2 rfl) ?_
                refine ff_imulL hx hb (eX12_rule (295, .imul, 1) (List.mem_of_getElem? (i := 152) rfl)) (e41) (by omega) (by omega) (fun v42 e42 => ?_)
                refine lv_iload hx hb (eX12_rule (296, .iload 6, 2) (List.mem_of_getElem? (i := 153) rfl)) (lv_at hl 0 rfl) ?_
                refine ff_iadd hx hb (eX12_rule (298, .iadd, 1) (List.mem_of_getElem? (i := 154) rfl)) (by omega) (by omega) (fun v43 e43 => ?_)
                refine lv_aload_n hx hb (eX12_rule (299, .aload_n 0, 1) (List.mem_of_getElem? (i := 155) rfl)) rfl (lv_at hl 1 rfl) ?_
                obtain ⟨a44, fa44, ra44⟩ := tz_ref (k := 32) (rr := 35) hh0 ha (show RTg[11]? = some (0, 11, 0, fsX12) from rfl) rfl
                refine tz_get (r := 11) (k := 32) (t := (74, 0, 0)) hx hb hh0 ha rfl rfl (hcl11 56 32 (74, 0, 0) (by decide) rfl).1 fa44 (eX12_rule (300, .getfield 56, 3) (List.mem_of_getElem? (i := 156) rfl)) ?_
                refine lv_iload hx hb (eX12_rule (303, .iload 6, 2) (List.mem_of_getElem? (i := 157) rfl)) (lv_at hl 0 rfl) ?_
                obtain ⟨-, z45, hc45, hy45⟩ := zh_arr hh0 ra44 (show RTg[35]? = some (1, 0, 10, [(0, (-1000000), 1000000)]) from rfl)
                refine tz_iald hx hb (zAr hKn.1 0 (by decide)) hc45 (by omega) (by omega) (eX12_rule (305, .iaload, 1) (List.mem_of_getElem? (i := 158) rfl)) ?_
                obtain ⟨v46, hz46, l46, m46⟩ := hy45 iv.toNatClampNeg (by show iv.toInt.toNat < 10; omega)
                dsimp only at l46 m46
                rw [hz46]
                obtain ⟨-, z47, hc47, hy47⟩ := zh_arr hh0 ra40 (show RTg[29]? = some (1, 0, 80, [(0, (-1000000), 1000000)]) from rfl)
                refine tz_iast hx hb (zAr hKn.1 0 (by decide)) hh0 ra40 (show RTg[29]? = some (1, 0, 80, [(0, (-1000000), 1000000)]) from rfl) hc47 hy47 (by omega) (by omega) (tz_i (by omega) (by omega)) (eX12_rule (306, .iastore, 1) (List.mem_of_getElem? (i := 159) rfl)) (fun H48 lo48 hh48 hc48 hk48 hq48 _ => ?_)
                have mf48_a_0 := (hk48.1 a 11 0 11 0 fsX12 ha rfl (by decide) (by decide)).trans fw
                have mf48_a_11 := (hk48.1 a 11 11 11 0 fsX12 ha rfl (by decide) (by decide)).trans fa40
                have mf48_a_32 := (hk48.1 a 11 32 11 0 fsX12 ha rfl (by decide) (by decide)).trans fa44
                have mc48_a44 := (hk48.2 a44 35 0 0 10 _ ra44 rfl (by decide)).trans hc45
                have kp48 := kpl.trans (hk48.mono (ms' := kRr) (fun x hx => by cases List.mem_singleton.mp hx; decide))
                refine ff_iinc (k := 0) hx hb (eX12_rule (307, .iinc 6 1, 3) (List.mem_of_getElem? (i := 160) rfl)) hl rfl (by decide) (by decide) (by decide) (by omega) (by omega) (fun v49 e49 ls49 hl49 => ?_)
                refine lv_goto hx hb (eX12_rule (310, .goto (-29), 3) (List.mem_of_getElem? (i := 161) rfl)) (tgt := 281) rfl ?_
                exact ih (i + 1) v49 ls49 _ _ (by omega) (by omega) mf48_a_0 hh48 kp48 (lv_sub hl49 [0, 1, 2] rfl)
            exact loop 10 0 v33 ls34 _ _ (by omega) (by omega) mf32_a_0 hh32 kp32 (lv_sub hl34 [0, 3, 4] rfl)
          · skip
            refine ff_iconst hx hb (eX12_rule (257, .iconst 2, 1) (List.mem_of_getElem? (i := 129) rfl)) (by decide) (by decide) (fun v50 e50 => ?_)
            refine lv_goto hx hb (eX12_rule (258, .goto 4, 3) (List.mem_of_getElem? (i := 130) rfl)) (tgt := 262) rfl ?_
            obtain ⟨-, z51, hc51, hy51⟩ := zh_arr hh0 ra22 (show RTg[26]? = some (1, 0, 8, [(0, 0, 2)]) from rfl)
            refine tz_iast hx hb (zAr hKn.1 0 (by decide)) hh0 ra22 (show RTg[26]? = some (1, 0, 8, [(0, 0, 2)]) from rfl) hc51 hy51 (by omega) (by omega) (tz_i (by omega) (by omega)) (eX12_rule (262, .iastore, 1) (List.mem_of_getElem? (i := 132) rfl)) (fun H52 lo52 hh52 hc52 hk52 hq52 _ => ?_)
            have mf52_a_0 := (hk52.1 a 11 0 11 0 fsX12 ha rfl (by decide) (by decide)).trans fw
            have mf52_a_29 := (hk52.1 a 11 29 11 0 fsX12 ha rfl (by decide) (by decide)).trans f2918
            have mf52_a_30 := (hk52.1 a 11 30 11 0 fsX12 ha rfl (by decide) (by decide)).trans f3018
            have mf52_a_31 := (hk52.1 a 11 31 11 0 fsX12 ha rfl (by decide) (by decide)).trans f3118
            have mf52_a_13 := (hk52.1 a 11 13 11 0 fsX12 ha rfl (by decide) (by decide)).trans f1318
            have mf52_a_8 := (hk52.1 a 11 8 11 0 fsX12 ha rfl (by decide) (by decide)).trans fa22
            have kp52 := kpl.trans (hk52.mono (ms' := kRr) (fun x hx => by cases List.mem_singleton.mp hx; decide))
            have jm52 := (jl).kept ha hk52 (by decide)
            refine lv_aload_n hx hb (eX12_rule (263, .aload_n 0, 1) (List.mem_of_getElem? (i := 133) rfl)) rfl (lv_at hl 2 rfl) ?_
            obtain ⟨a53, fa53, ra53⟩ := tz_ref (k := 9) (rr := 27) hh52 ha (show RTg[11]? = some (0, 11, 0, fsX12) from rfl) rfl
            refine tz_get (r := 11) (k := 9) (t := (58, 0, 0)) hx hb hh52 ha rfl rfl (hcl11 31 9 (58, 0, 0) (by decide) rfl).1 fa53 (eX12_rule (264, .getfield 31, 3) (List.mem_of_getElem? (i := 134) rfl)) ?_
            refine lv_iload_n hx hb (eX12_rule (267, .iload_n 1, 1) (List.mem_of_getElem? (i := 135) rfl)) rfl (lv_at hl 3 rfl) ?_
            refine lv_iload_n hx hb (eX12_rule (268, .iload_n 2, 1) (List.mem_of_getElem? (i := 136) rfl)) rfl (lv_at hl 4 rfl) ?_
            obtain ⟨-, z54, hc54, hy54⟩ := zh_arr hh52 ra53 (show RTg[27]? = some (1, 0, 8, [(0, (-1000000), 1000000)]) from rfl)
            refine tz_iast hx hb (zAr hKn.1 0 (by decide)) hh52 ra53 (show RTg[27]? = some (1, 0, 8, [(0, (-1000000), 1000000)]) from rfl) hc54 hy54 (by omega) (by omega) (tz_i (by omega) (by omega)) (eX12_rule (269, .iastore, 1) (List.mem_of_getElem? (i := 137) rfl)) (fun H55 lo55 hh55 hc55 hk55 hq55 _ => ?_)
            have mf55_a_0 := (hk55.1 a 11 0 11 0 fsX12 ha rfl (by decide) (by decide)).trans mf52_a_0
            have mf55_a_29 := (hk55.1 a 11 29 11 0 fsX12 ha rfl (by decide) (by decide)).trans mf52_a_29
            have mf55_a_30 := (hk55.1 a 11 30 11 0 fsX12 ha rfl (by decide) (by decide)).trans mf52_a_30
            have mf55_a_31 := (hk55.1 a 11 31 11 0 fsX12 ha rfl (by decide) (by decide)).trans mf52_a_31
            have mf55_a_13 := (hk55.1 a 11 13 11 0 fsX12 ha rfl (by decide) (by decide)).trans mf52_a_13
            have mf55_a_8 := (hk55.1 a 11 8 11 0 fsX12 ha rfl (by decide) (by decide)).trans mf52_a_8
            have mf55_a_9 := (hk55.1 a 11 9 11 0 fsX12 ha rfl (by decide) (by decide)).trans fa53
            have kp55 := kp52.trans (hk55.mono (ms' := kRr) (fun x hx => by cases List.mem_singleton.mp hx; decide))
            have jm55 := (jm52).kept ha hk55 (by decide)
            refine lv_aload_n hx hb (eX12_rule (270, .aload_n 0, 1) (List.mem_of_getElem? (i := 138) rfl)) rfl (lv_at hl 2 rfl) ?_
            obtain ⟨a56, fa56, ra56⟩ := tz_ref (k := 10) (rr := 28) hh55 ha (show RTg[11]? = some (0, 11, 0, fsX12) from rfl) rfl
            refine tz_get (r := 11) (k := 10) (t := (60, 0, 0)) hx hb hh55 ha rfl rfl (hcl11 34 10 (60, 0, 0) (by decide) rfl).1 fa56 (eX12_rule (271, .getfield 34, 3) (List.mem_of_getElem? (i := 139) rfl)) ?_
            refine lv_iload_n hx hb (eX12_rule (274, .iload_n 1, 1) (List.mem_of_getElem? (i := 140) rfl)) rfl (lv_at hl 3 rfl) ?_
            refine lv_iload hx hb (eX12_rule (275, .iload 4, 2) (List.mem_of_getElem? (i := 141) rfl)) (lv_at hl 0 rfl) ?_
            obtain ⟨-, z57, hc57, hy57⟩ := zh_arr hh55 ra56 (show RTg[28]? = some (1, 0, 8, [(0, (-1000000), 1000000)]) from rfl)
            refine tz_iast hx hb (zAr hKn.1 0 (by decide)) hh55 ra56 (show RTg[28]? = some (1, 0, 8, [(0, (-1000000), 1000000)]) from rfl) hc57 hy57 (by omega) (by omega) (tz_i (by omega) (by omega)) (eX12_rule (277, .iastore, 1) (List.mem_of_getElem? (i := 142) rfl)) (fun H58 lo58 hh58 hc58 hk58 hq58 _ => ?_)
            have mf58_a_0 := (hk58.1 a 11 0 11 0 fsX12 ha rfl (by decide) (by decide)).trans mf55_a_0
            have mf58_a_29 := (hk58.1 a 11 29 11 0 fsX12 ha rfl (by decide) (by decide)).trans mf55_a_29
            have mf58_a_30 := (hk58.1 a 11 30 11 0 fsX12 ha rfl (by decide) (by decide)).trans mf55_a_30
            have mf58_a_31 := (hk58.1 a 11 31 11 0 fsX12 ha rfl (by decide) (by decide)).trans mf55_a_31
            have mf58_a_13 := (hk58.1 a 11 13 11 0 fsX12 ha rfl (by decide) (by decide)).trans mf55_a_13
            have mf58_a_8 := (hk58.1 a 11 8 11 0 fsX12 ha rfl (by decide) (by decide)).trans mf55_a_8
            have mf58_a_9 := (hk58.1 a 11 9 11 0 fsX12 ha rfl (by decide) (by decide)).trans mf55_a_9
            have mf58_a_10 := (hk58.1 a 11 10 11 0 fsX12 ha rfl (by decide) (by decide)).trans fa56
            have kp58 := kp55.trans (hk58.mono (ms' := kRr) (fun x hx => by cases List.mem_singleton.mp hx; decide))
            have jm58 := (jm55).kept ha hk58 (by decide)
            refine ff_iconst hx hb (eX12_rule (278, .iconst 0, 1) (List.mem_of_getElem? (i := 143) rfl)) (by decide) (by decide) (fun v59 e59 => ?_)
            refine lv_istore hx hb (eX12_rule (279, .istore 6, 2) (List.mem_of_getElem? (i := 144) rfl)) hl (by decide) rfl (fun ls60 hl60 => ?_)
            have loop : ∀ (n0 i : Nat) (iv : Int32) (ls : Array Slot) (H : Heap) (lo0 : List Loc), i + n0 = 10 → iv.toInt = (i : Int) → zh_f D H a 11 0 = .int v7 → zh_ok D cA RTg ro sz H0 H lo0 → zc_kept D RTg ro kRr s.heap H → lv_has ls 7 [(6, .int iv), (0, .ref a), (1, .int zi)] → W p l e (headSpec (gW yX12_rule cX12_rule 7 (some .long)) { frames := 4, cells := 0, slots := 0, locals := 90 }).room s m ([.ref a, .int zi] : List Value).toArray below meth c H lo0 0 0 (MQ below (fun _ st oc t => ∃ (r : Int64) (w : Int32), oc = .returned (some (.long r)) ∧ zh_ok D cA RTg ro sz H0 t.heap [] ∧ zc_kept D RTg ro kRr st.heap t.heap ∧ zh_f D t.heap a 11 0 = .int w ∧ spRu zi.toInt (Z.length : Int) T w.toInt r.toInt) ([.ref a, .int zi] : List Value).toArray s 0 0 (zy_fr sz)) (F0 m 281 ls []) := by
              intro n0
              induction n0 with
              | zero =>
                intro i iv ls H lo0 hi hiv fw hh0 kpl hl
                refine lv_iload hx hb (eX12_rule (281, .iload 6, 2) (List.mem_of_getElem? (i := 145) rfl)) (lv_at hl 0 rfl) ?_
                refine ff_bipush hx hb (eX12_rule (283, .bipush 10, 2) (List.mem_of_getElem? (i := 146) rfl)) (by decide) (by decide) (fun v61 e61 => ?_)
                refine ff_icmp_ge hx hb (eX12_rule (285, .if_icmp .ge 28, 3) (List.mem_of_getElem? (i := 147) rfl)) (tgt := 313) rfl (fun c62 => ?_) (fun c62 => (by exfalso; omega))
                refine ff_ldc2 (n := (-9223372036854775808)) hx hb hown h2 (clX12_ok 83 (-9223372036854775808) (List.mem_of_getElem? (i := 2) rfl)) (eX12_rule (313, .ldc2_w 83, 3) (List.mem_of_getElem? (i := 162) rfl)) (fun v63 e63 => ?_)
                have hvd : v63.toInt = vdG g := by unfold vdG; (first | (rw [if_pos (by omega)]; omega) | (rw [if_neg (by omega), if_pos (by omega)]; omega) | (rw [if_neg (by omega), if_neg (by omega)]; unfold NONEI; omega))
                exact W.lret hx hb hr (fun t ht hW => ⟨_, _, rfl, by rw [ht]; exact hh0.l0, by rw [ht]; exact kpl, by rw [ht]; exact fw, Or.inr ⟨by omega, by omega, by omega, by rw [(ru_same hT).1.verdict hT, htot]; exact hvd⟩⟩) hh0.2.2.1 (eX12_rule (316, .lreturn, 1) (List.mem_of_getElem? (i := 163) rfl))
              | succ n0 ih =>
                intro i iv ls H lo0 hi hiv fw hh0 kpl hl
                refine lv_iload hx hb (eX12_rule (281, .iload 6, 2) (List.mem_of_getElem? (i := 145) rfl)) (lv_at hl 0 rfl) ?_
                refine ff_bipush hx hb (eX12_rule (283, .bipush 10, 2) (List.mem_of_getElem? (i := 146) rfl)) (by decide) (by decide) (fun v64 e64 => ?_)
                refine ff_icmp_ge hx hb (eX12_rule (285, .if_icmp .ge 28, 3) (List.mem_of_getElem? (i := 147) rfl)) (tgt := 313) rfl (fun c65 => (by exfalso; omega)) (fun c65 => ?_)
                refine lv_aload_n hx hb (eX12_rule (288, .aload_n 0, 1) (List.mem_of_getElem? (i := 148) rfl)) rfl (lv_at hl 1 rfl) ?_
                obtain ⟨a66, fa66, ra66⟩ := tz_ref (k := 11) (rr := 29) hh0 ha (show RTg[11]? = some (0, 11, 0, fsX12) from rfl) rfl
                refine tz_get (r := 11) (k := 11) (t := (62, 0, 0)) hx hb hh0 ha rfl rfl (hcl11 37 11 (62, 0, 0) (by decide) rfl).1 fa66 (eX12_rule (289, .getfield 37, 3) (List.mem_of_getElem? (i := 149) rfl)) ?_
                refine ff_bipush hx hb (eX12_rule (292, .bipush 10, 2) (List.mem_of_getElem? (i := 150) rfl)) (by decide) (by decide) (fun v67 e67 => ?_)
                refine lv_iload_n hx hb (eX12_rule (294, .iload_n 1, 1) (List.mem_of_getElem? (i := 151) rfl)) rfl (lv_at hl 2 rfl) ?_
                refine ff_imulL hx hb (eX12_rule (295, .imul, 1) (List.mem_of_getElem? (i := 152) rfl)) (e67) (by omega) (by omega) (fun v68 e68 => ?_)
                refine lv_iload hx hb (eX12_rule (296, .iload 6, 2) (List.mem_of_getElem? (i := 153) rfl)) (lv_at hl 0 rfl) ?_
                refine ff_iadd hx hb (eX12_rule (298, .iadd, 1) (List.mem_of_getElem? (i := 154) rfl)) (by omega) (by omega) (fun v69 e69 => ?_)
                refine lv_aload_n hx hb (eX12_rule (299, .aload_n 0, 1) (List.mem_of_getElem? (i := 155) rfl)) rfl (lv_at hl 1 rfl) ?_
                obtain ⟨a70, fa70, ra70⟩ := tz_ref (k := 32) (rr := 35) hh0 ha (show RTg[11]? = some (0, 11, 0, fsX12) from rfl) rfl
                refine tz_get (r := 11) (k := 32) (t := (74, 0, 0)) hx hb hh0 ha rfl rfl (hcl11 56 32 (74, 0, 0) (by decide) rfl).1 fa70 (eX12_rule (300, .getfield 56, 3) (List.mem_of_getElem? (i := 156) rfl)) ?_
                refine lv_iload hx hb (eX12_rule (303, .iload 6, 2) (List.mem_of_getElem? (i := 157) rfl)) (lv_at hl 0 rfl) ?_
                obtain ⟨-, z71, hc71, hy71⟩ := zh_arr hh0 ra70 (show RTg[35]? = some (1, 0, 10, [(0, (-1000000), 1000000)]) from rfl)
                refine tz_iald hx hb (zAr hKn.1 0 (by decide)) hc71 (by omega) (by omega) (eX12_rule (305, .iaload, 1) (List.mem_of_getElem? (i := 158) rfl)) ?_
                obtain ⟨v72, hz72, l72, m72⟩ := hy71 iv.toNatClampNeg (by show iv.toInt.toNat < 10; omega)
                dsimp only at l72 m72
                rw [hz72]
                obtain ⟨-, z73, hc73, hy73⟩ := zh_arr hh0 ra66 (show RTg[29]? = some (1, 0, 80, [(0, (-1000000), 1000000)]) from rfl)
                refine tz_iast hx hb (zAr hKn.1 0 (by decide)) hh0 ra66 (show RTg[29]? = some (1, 0, 80, [(0, (-1000000), 1000000)]) from rfl) hc73 hy73 (by omega) (by omega) (tz_i (by omega) (by omega)) (eX12_rule (306, .iastore, 1) (List.mem_of_getElem? (i := 159) rfl)) (fun H74 lo74 hh74 hc74 hk74 hq74 _ => ?_)
                have mf74_a_0 := (hk74.1 a 11 0 11 0 fsX12 ha rfl (by decide) (by decide)).trans fw
                have mf74_a_11 := (hk74.1 a 11 11 11 0 fsX12 ha rfl (by decide) (by decide)).trans fa66
                have mf74_a_32 := (hk74.1 a 11 32 11 0 fsX12 ha rfl (by decide) (by decide)).trans fa70
                have mc74_a70 := (hk74.2 a70 35 0 0 10 _ ra70 rfl (by decide)).trans hc71
                have kp74 := kpl.trans (hk74.mono (ms' := kRr) (fun x hx => by cases List.mem_singleton.mp hx; decide))
                refine ff_iinc (k := 0) hx hb (eX12_rule (307, .iinc 6 1, 3) (List.mem_of_getElem? (i := 160) rfl)) hl rfl (by decide) (by decide) (by decide) (by omega) (by omega) (fun v75 e75 ls75 hl75 => ?_)
                refine lv_goto hx hb (eX12_rule (310, .goto (-29), 3) (List.mem_of_getElem? (i := 161) rfl)) (tgt := 281) rfl ?_
                exact ih (i + 1) v75 ls75 _ _ (by omega) (by omega) mf74_a_0 hh74 kp74 (lv_sub hl75 [0, 1, 2] rfl)
            exact loop 10 0 v59 ls60 _ _ (by omega) (by omega) mf58_a_0 hh58 kp58 (lv_sub hl60 [0, 3, 4] rfl)
        · skip
          refine lv_aload_n hx hb (eX12_rule (241, .aload_n 0, 1) (List.mem_of_getElem? (i := 120) rfl)) rfl (lv_at hl 2 rfl) ?_
          refine tz_get (r := 11) (k := 31) (t := (0, (-2147483648), 2147483647)) hx hb hh0 ha rfl rfl (hcl11 299 31 (0, (-2147483648), 2147483647) (by decide) rfl).1 f3118 (eX12_rule (242, .getfield 299, 3) (List.mem_of_getElem? (i := 121) rfl)) ?_
          refine ff_i2l hx hb (eX12_rule (245, .i2l, 1) (List.mem_of_getElem? (i := 122) rfl)) (fun v76 e76 => ?_)
          have hvd : v76.toInt = vdG g := by unfold vdG; (first | (rw [if_pos (by omega)]; omega) | (rw [if_neg (by omega), if_pos (by omega)]; omega) | (rw [if_neg (by omega), if_neg (by omega)]; unfold NONEI; omega))
          exact W.lret hx hb hr (fun t ht hW => ⟨_, _, rfl, by rw [ht]; exact hh0.l0, by rw [ht]; exact kpl, by rw [ht]; exact fw, Or.inr ⟨by omega, by omega, by omega, by rw [(ru_same hT).1.verdict hT, htot]; exact hvd⟩⟩) hh0.2.2.1 (eX12_rule (246, .lreturn, 1) (List.mem_of_getElem? (i := 123) rfl))
      · skip
        refine lv_aload_n hx hb (eX12_rule (225, .aload_n 0, 1) (List.mem_of_getElem? (i := 112) rfl)) rfl (lv_at hl 2 rfl) ?_
        refine tz_get (r := 11) (k := 30) (t := (0, (-1), 120)) hx hb hh0 ha rfl rfl (hcl11 296 30 (0, (-1), 120) (by decide) rfl).1 f3018 (eX12_rule (226, .getfield 296, 3) (List.mem_of_getElem? (i := 113) rfl)) ?_
        refine ff_i2l hx hb (eX12_rule (229, .i2l, 1) (List.mem_of_getElem? (i := 114) rfl)) (fun v77 e77 => ?_)
        have hvd : v77.toInt = vdG g := by unfold vdG; (first | (rw [if_pos (by omega)]; omega) | (rw [if_neg (by omega), if_pos (by omega)]; omega) | (rw [if_neg (by omega), if_neg (by omega)]; unfold NONEI; omega))
        exact W.lret hx hb hr (fun t ht hW => ⟨_, _, rfl, by rw [ht]; exact hh0.l0, by rw [ht]; exact kpl, by rw [ht]; exact fw, Or.inr ⟨by omega, by omega, by omega, by rw [(ru_same hT).1.verdict hT, htot]; exact hvd⟩⟩) hh0.2.2.1 (eX12_rule (230, .lreturn, 1) (List.mem_of_getElem? (i := 115) rfl))
    have jn174 : ∀ (ot tw : Int32) (g : uS) (ls : Array Slot) (H : Heap) (lo0 : List Loc), (-6099 ≤ ot.toInt ∧ ot.toInt ≤ 6099) → tw.toInt = 1 → (x14.2.2.1 < 0 ∧ x14.2.1 < (T.length : Int)) → (secG T x14.1.2 (-x14.1.1) (n1G T x14.2)).2 = g → zh_f D H a 11 0 = .int v7 → zh_ok D cA RTg ro sz H0 H lo0 → zc_kept D RTg ro kRr s.heap H → jV D cA ro H a T g → lv_has ls 7 [(4, .int ot), (5, .int tw), (0, .ref a), (1, .int zi), (2, .int v15), (3, .int hv14)] → W p l e (headSpec (gW yX12_rule cX12_rule 7 (some .long)) { frames := 4, cells := 0, slots := 0, locals := 90 }).room s m ([.ref a, .int zi] : List Value).toArray below meth c H lo0 0 0 (MQ below (fun _ st oc t => ∃ (r : Int64) (w : Int32), oc = .returned (some (.long r)) ∧ zh_ok D cA RTg ro sz H0 t.heap [] ∧ zc_kept D RTg ro kRr st.heap t.heap ∧ zh_f D t.heap a 11 0 = .int w ∧ spRu zi.toInt (Z.length : Int) T w.toInt r.toInt) ([.ref a, .int zi] : List Value).toArray s 0 0 (zy_fr sz)) (F0 m 174 ls []) := by
      intro ot tw g ls H lo0 b1 b2 hgd htot fw hh0 kpl jl hl
      have hul := jl.2.2
      unfold vOK at hul
      refine lv_aload_n hx hb (eX12_rule (174, .aload_n 0, 1) (List.mem_of_getElem? (i := 87) rfl)) rfl (lv_at hl 2 rfl) ?_
      refine ff_bipush hx hb (eX12_rule (175, .bipush 44, 2) (List.mem_of_getElem? (i := 88) rfl)) (by decide) (by decide) (fun v78 e78 => ?_)
      refine tz_rowV (As := [.int v78]) (st := []) (b := a) (C := RX12) (Ts := gT) hx hb hml hown h2 (fun _ h => h) (hX12_expect l D cA ro sz H0 a v78 44 T (g) ha (by omega) (by decide)) ⟨rfl, rfl⟩ ⟨by decide, by decide⟩ ⟨by decide, by decide⟩ (tb_8 35 rfl rfl) (tb_1 12 rfl rfl) (tb_8 32 rfl rfl) (tb_8 34 rfl rfl) (tb_0 34 rfl rfl) (show yX12_expect.cls ≠ "java/lang/invoke/MethodHandle" ∧ yX12_expect.cls ≠ "java/lang/invoke/VarHandle" ∧ (parseMethodDescriptor yX12_expect.desc).map (fun d => d.parameters.length) = some 1 by decide +kernel) zs_blind (zs_ob hh0 ha (show RTg[11]? = some (0, 11, 0, fsX12) from rfl) (zCX12 hKn.1)) (fun U hU hW => ⟨rfl, by rw [hU]; exact hh0.l0, zKb s U hW.alike hKn, by rw [hU]; exact jl⟩) hh0.2.2.1 hl.1 (Nat.le_of_ble_eq_true rfl) (eX12_rule (177, .invokevirtual 325, 3) (List.mem_of_getElem? (i := 89) rfl)) (fun r79 s79 t79 lo79 g79 f79 l79 => ?_)
      obtain ⟨q79, z79, c79, j79⟩ := f79
      cases q79
      rw [g79] at c79
      have hh79 : zh_ok D cA RTg ro sz H0 t79.heap lo79 := ⟨z79.1, z79.2.1, l79, z79.2.2.2⟩
      have kp79 := kpl.trans (c79.mono (ms' := kRr) (by decide))
      generalize hx79 : exG T 44 g = x79 at j79
      have uu79 := j79.2.2
      unfold vOK at uu79
      have mf79_a_0 := (c79.1 a 11 0 11 0 fsX12 ha rfl (by decide) (by decide)).trans fw
      refine W.eq (g2 := F0 m 180 ls []) rfl ?_
      refine lv_aload_n hx hb (eX12_rule (180, .aload_n 0, 1) (List.mem_of_getElem? (i := 90) rfl)) rfl (lv_at hl 2 rfl) ?_
      refine ff_iconst hx hb (eX12_rule (181, .iconst 0, 1) (List.mem_of_getElem? (i := 91) rfl)) (by decide) (by decide) (fun v80 e80 => ?_)
      refine tz_rowV (As := [.int v80]) (st := []) (b := a) (C := RX12) (Ts := gT) hx hb hml hown h2 (fun _ h => h) (hX12_ruleDate l D cA ro sz H0 a v80 T (x79) ha (by omega) (by omega)) ⟨rfl, rfl⟩ ⟨by decide, by decide⟩ ⟨by decide, by decide⟩ (tb_8 51 rfl rfl) (tb_1 12 rfl rfl) (tb_8 48 rfl rfl) (tb_8 50 rfl rfl) (tb_0 38 rfl rfl) (show yX12_ruleDate.cls ≠ "java/lang/invoke/MethodHandle" ∧ yX12_ruleDate.cls ≠ "java/lang/invoke/VarHandle" ∧ (parseMethodDescriptor yX12_ruleDate.desc).map (fun d => d.parameters.length) = some 1 by decide +kernel) zs_blind (zs_ob hh79 ha (show RTg[11]? = some (0, 11, 0, fsX12) from rfl) (zCX12 hKn.1)) (fun U hU hW => ⟨rfl, by rw [hU]; exact hh79.l0, zKb s U hW.alike hKn, by rw [hU]; exact j79⟩) hh79.2.2.1 hl.1 (Nat.le_of_ble_eq_true rfl) (eX12_rule (182, .invokevirtual 351, 3) (List.mem_of_getElem? (i := 92) rfl)) (fun r81 s81 t81 lo81 g81 f81 l81 => ?_)
      obtain ⟨q81, z81, c81, j81⟩ := f81
      cases q81
      rw [g81] at c81
      have hh81 : zh_ok D cA RTg ro sz H0 t81.heap lo81 := ⟨z81.1, z81.2.1, l81, z81.2.2.2⟩
      have kp81 := kp79.trans (c81.mono (ms' := kRr) (by decide))
      generalize hx81 : (dateG T x79).2 = x81 at j81
      have uu81 := j81.2.2
      unfold vOK at uu81
      have mf81_a_0 := (c81.1 a 11 0 11 0 fsX12 ha rfl (by decide) (by decide)).trans mf79_a_0
      refine W.eq (g2 := F0 m 185 ls []) rfl ?_
      refine lv_aload_n hx hb (eX12_rule (185, .aload_n 0, 1) (List.mem_of_getElem? (i := 93) rfl)) rfl (lv_at hl 2 rfl) ?_
      refine ff_bipush hx hb (eX12_rule (186, .bipush 44, 2) (List.mem_of_getElem? (i := 94) rfl)) (by decide) (by decide) (fun v82 e82 => ?_)
      refine tz_rowV (As := [.int v82]) (st := []) (b := a) (C := RX12) (Ts := gT) hx hb hml hown h2 (fun _ h => h) (hX12_expect l D cA ro sz H0 a v82 44 T (x81) ha (by omega) (by decide)) ⟨rfl, rfl⟩ ⟨by decide, by decide⟩ ⟨by decide, by decide⟩ (tb_8 35 rfl rfl) (tb_1 12 rfl rfl) (tb_8 32 rfl rfl) (tb_8 34 rfl rfl) (tb_0 34 rfl rfl) (show yX12_expect.cls ≠ "java/lang/invoke/MethodHandle" ∧ yX12_expect.cls ≠ "java/lang/invoke/VarHandle" ∧ (parseMethodDescriptor yX12_expect.desc).map (fun d => d.parameters.length) = some 1 by decide +kernel) zs_blind (zs_ob hh81 ha (show RTg[11]? = some (0, 11, 0, fsX12) from rfl) (zCX12 hKn.1)) (fun U hU hW => ⟨rfl, by rw [hU]; exact hh81.l0, zKb s U hW.alike hKn, by rw [hU]; exact j81⟩) hh81.2.2.1 hl.1 (Nat.le_of_ble_eq_true rfl) (eX12_rule (188, .invokevirtual 325, 3) (List.mem_of_getElem? (i := 95) rfl)) (fun r83 s83 t83 lo83 g83 f83 l83 => ?_)
      obtain ⟨q83, z83, c83, j83⟩ := f83
      cases q83
      rw [g83] at c83
      have hh83 : zh_ok D cA RTg ro sz H0 t83.heap lo83 := ⟨z83.1, z83.2.1, l83, z83.2.2.2⟩
      have kp83 := kp81.trans (c83.mono (ms' := kRr) (by decide))
      generalize hx83 : exG T 44 x81 = x83 at j83
      have uu83 := j83.2.2
      unfold vOK at uu83
      have mf83_a_0 := (c83.1 a 11 0 11 0 fsX12 ha rfl (by decide) (by decide)).trans mf81_a_0
      refine W.eq (g2 := F0 m 191 ls []) rfl ?_
      refine lv_aload_n hx hb (eX12_rule (191, .aload_n 0, 1) (List.mem_of_getElem? (i := 96) rfl)) rfl (lv_at hl 2 rfl) ?_
      refine ff_iconst hx hb (eX12_rule (192, .iconst 5, 1) (List.mem_of_getElem? (i := 97) rfl)) (by decide) (by decide) (fun v84 e84 => ?_)
      refine tz_rowV (As := [.int v84]) (st := []) (b := a) (C := RX12) (Ts := gT) hx hb hml hown h2 (fun _ h => h) (hX12_ruleDate l D cA ro sz H0 a v84 T (x83) ha (by omega) (by omega)) ⟨rfl, rfl⟩ ⟨by decide, by decide⟩ ⟨by decide, by decide⟩ (tb_8 51 rfl rfl) (tb_1 12 rfl rfl) (tb_8 48 rfl rfl) (tb_8 50 rfl rfl) (tb_0 38 rfl rfl) (show yX12_ruleDate.cls ≠ "java/lang/invoke/MethodHandle" ∧ yX12_ruleDate.cls ≠ "java/lang/invoke/VarHandle" ∧ (parseMethodDescriptor yX12_ruleDate.desc).map (fun d => d.parameters.length) = some 1 by decide +kernel) zs_blind (zs_ob hh83 ha (show RTg[11]? = some (0, 11, 0, fsX12) from rfl) (zCX12 hKn.1)) (fun U hU hW => ⟨rfl, by rw [hU]; exact hh83.l0, zKb s U hW.alike hKn, by rw [hU]; exact j83⟩) hh83.2.2.1 hl.1 (Nat.le_of_ble_eq_true rfl) (eX12_rule (193, .invokevirtual 351, 3) (List.mem_of_getElem? (i := 98) rfl)) (fun r85 s85 t85 lo85 g85 f85 l85 => ?_)
      obtain ⟨q85, z85, c85, j85⟩ := f85
      cases q85
      rw [g85] at c85
      have hh85 : zh_ok D cA RTg ro sz H0 t85.heap lo85 := ⟨z85.1, z85.2.1, l85, z85.2.2.2⟩
      have kp85 := kp83.trans (c85.mono (ms' := kRr) (by decide))
      generalize hx85 : (dateG T x83).2 = x85 at j85
      have uu85 := j85.2.2
      unfold vOK at uu85
      have mf85_a_0 := (c85.1 a 11 0 11 0 fsX12 ha rfl (by decide) (by decide)).trans mf83_a_0
      refine W.eq (g2 := F0 m 196 ls []) rfl ?_
      refine lv_aload_n hx hb (eX12_rule (196, .aload_n 0, 1) (List.mem_of_getElem? (i := 99) rfl)) rfl (lv_at hl 2 rfl) ?_
      refine tz_rowV (As := []) (st := []) (b := a) (C := RX12) (Ts := gT) hx hb hml hown h2 (fun _ h => h) (hX12_isGood l D cA ro sz H0 a T (x85) ha) ⟨rfl, rfl⟩ ⟨by decide, by decide⟩ ⟨by decide, by decide⟩ (tb_8 17 rfl rfl) (tb_1 12 rfl rfl) (tb_8 14 rfl rfl) (tb_8 16 rfl rfl) (tb_0 31 rfl rfl) (show yX12_isGood.cls ≠ "java/lang/invoke/MethodHandle" ∧ yX12_isGood.cls ≠ "java/lang/invoke/VarHandle" ∧ (parseMethodDescriptor yX12_isGood.desc).map (fun d => d.parameters.length) = some 0 by decide +kernel) zs_blind (zs_ob hh85 ha (show RTg[11]? = some (0, 11, 0, fsX12) from rfl) (zCX12 hKn.1)) (fun U hU hW => ⟨rfl, by rw [hU]; exact hh85.l0, zKb s U hW.alike hKn, by rw [hU]; exact j85⟩) hh85.2.2.1 hl.1 (Nat.le_of_ble_eq_true rfl) (eX12_rule (197, .invokevirtual 305, 3) (List.mem_of_getElem? (i := 100) rfl)) (fun r86 s86 t86 lo86 g86 f86 l86 => ?_)
      obtain ⟨z86, v86, q86, e86⟩ := f86
      cases q86
      rw [z86, g86]
      have hh86 : zh_ok D cA RTg ro sz H0 t85.heap lo86 := ⟨hh85.1, hh85.2.1, l86, hh85.2.2.2⟩
      refine W.eq (g2 := F0 m 200 ls [.int v86]) rfl ?_
      refine ff_if_eq hx hb (eX12_rule (200, .ifCond .eq 18, 3) (List.mem_of_getElem? (i := 101) rfl)) (tgt := 218) rfl (fun c87 => ?_) (fun c87 => ?_)
      · skip
        have h8 : (ruG T).2 = (ru2G T x14.1.2 (-x14.1.1) x14.2).2 := by unfold ruG; dsimp only; rw [hx11, hx14, if_pos hgd]
        have h218 : (ruG T).2 = x85 := by rw [h8]; unfold ru2G; dsimp only; rw [htot, hx79, hx81, hx83, hx85]; unfold neG; rw [if_neg (by omega)]
        exact jn218 ot tw x85 ls _ _ (by omega) (by omega) h218 mf85_a_0 hh86 kp85 j85 (lv_sub hl [0, 1, 2, 3, 4, 5] rfl)
      · skip
        refine lv_aload_n hx hb (eX12_rule (203, .aload_n 0, 1) (List.mem_of_getElem? (i := 102) rfl)) rfl (lv_at hl 2 rfl) ?_
        obtain ⟨jt88, ⟨av88, fv88, bv88, f2988, f3088, f3188, hav88, hfv88, hbv88⟩, hu88⟩ := id j85
        have hw88 := hu88
        unfold vOK at hw88
        obtain ⟨tb88, n88, z88, f1288, r088, f1388, hn88, hc88, hz88⟩ := id jt88
        refine tz_get (r := 11) (k := 29) (t := (0, 0, 120)) hx hb hh86 ha rfl rfl (hcl11 293 29 (0, 0, 120) (by decide) rfl).1 f2988 (eX12_rule (204, .getfield 293, 3) (List.mem_of_getElem? (i := 103) rfl)) ?_
        refine lv_aload_n hx hb (eX12_rule (207, .aload_n 0, 1) (List.mem_of_getElem? (i := 104) rfl)) rfl (lv_at hl 2 rfl) ?_
        refine tz_get (r := 11) (k := 13) (t := (0, 0, 120)) hx hb hh86 ha rfl rfl (hcl11 302 13 (0, 0, 120) (by decide) rfl).1 f1388 (eX12_rule (208, .getfield 302, 3) (List.mem_of_getElem? (i := 105) rfl)) ?_
        refine ff_icmp_ge hx hb (eX12_rule (211, .if_icmp .ge 7, 3) (List.mem_of_getElem? (i := 106) rfl)) (tgt := 218) rfl (fun c89 => ?_) (fun c89 => ?_)
        · skip
          have h8 : (ruG T).2 = (ru2G T x14.1.2 (-x14.1.1) x14.2).2 := by unfold ruG; dsimp only; rw [hx11, hx14, if_pos hgd]
          have h218 : (ruG T).2 = x85 := by rw [h8]; unfold ru2G; dsimp only; rw [htot, hx79, hx81, hx83, hx85]; unfold neG; rw [if_neg (by omega)]
          exact jn218 ot tw x85 ls _ _ (by omega) (by omega) h218 mf85_a_0 hh86 kp85 j85 (lv_sub hl [0, 1, 2, 3, 4, 5] rfl)
        · skip
          refine lv_aload_n hx hb (eX12_rule (214, .aload_n 0, 1) (List.mem_of_getElem? (i := 107) rfl)) rfl (lv_at hl 2 rfl) ?_
          refine tz_rowV (As := []) (st := []) (b := a) (C := RX12) (Ts := gT) hx hb hml hown h2 (fun _ h => h) (hX12_fail l D cA ro sz H0 a T (x85) ha) ⟨rfl, rfl⟩ ⟨by decide, by decide⟩ ⟨by decide, by decide⟩ (tb_8 31 rfl rfl) (tb_1 12 rfl rfl) (tb_8 28 rfl rfl) (tb_8 30 rfl rfl) (tb_0 33 rfl rfl) (show yX12_fail.cls ≠ "java/lang/invoke/MethodHandle" ∧ yX12_fail.cls ≠ "java/lang/invoke/VarHandle" ∧ (parseMethodDescriptor yX12_fail.desc).map (fun d => d.parameters.length) = some 0 by decide +kernel) zs_blind (zs_ob hh86 ha (show RTg[11]? = some (0, 11, 0, fsX12) from rfl) (zCX12 hKn.1)) (fun U hU hW => ⟨rfl, by rw [hU]; exact hh86.l0, zKb s U hW.alike hKn, by rw [hU]; exact j85⟩) hh86.2.2.1 hl.1 (Nat.le_of_ble_eq_true rfl) (eX12_rule (215, .invokevirtual 316, 3) (List.mem_of_getElem? (i := 108) rfl)) (fun r90 s90 t90 lo90 g90 f90 l90 => ?_)
          obtain ⟨q90, z90, c90, j90⟩ := f90
          cases q90
          rw [g90] at c90
          have hh90 : zh_ok D cA RTg ro sz H0 t90.heap lo90 := ⟨z90.1, z90.2.1, l90, z90.2.2.2⟩
          have kp90 := kp85.trans (c90.mono (ms' := kRr) (by decide))
          generalize hx90 : flG x85 = x90 at j90
          have uu90 := j90.2.2
          unfold vOK at uu90
          have mf90_a_0 := (c90.1 a 11 0 11 0 fsX12 ha rfl (by decide) (by decide)).trans mf85_a_0
          have mf90_a_13 := (c90.1 a 11 13 11 0 fsX12 ha rfl (by decide) (by decide)).trans f1388
          refine W.eq (g2 := F0 m 218 ls []) rfl ?_
          have h8 : (ruG T).2 = (ru2G T x14.1.2 (-x14.1.1) x14.2).2 := by unfold ruG; dsimp only; rw [hx11, hx14, if_pos hgd]
          have h218 : (ruG T).2 = x90 := by rw [h8]; unfold ru2G; dsimp only; rw [htot, hx79, hx81, hx83, hx85]; unfold neG; rw [if_pos ⟨by omega, by omega⟩, hx90]
          exact jn218 ot tw x90 ls _ _ (by omega) (by omega) h218 mf90_a_0 hh90 kp90 j90 (lv_sub hl [0, 1, 2, 3, 4, 5] rfl)
    have jn104 : ∀ (ot tw : Int32) (g : uS) (ls : Array Slot) (H : Heap) (lo0 : List Loc), tw.toInt = 1 → (x14.2.2.1 < 0 ∧ x14.2.1 < (T.length : Int)) → n1G T x14.2 = nameG T g → zh_f D H a 11 0 = .int v7 → zh_ok D cA RTg ro sz H0 H lo0 → zc_kept D RTg ro kRr s.heap H → jV D cA ro H a T g → lv_has ls 7 [(4, .int ot), (5, .int tw), (0, .ref a), (1, .int zi), (2, .int v15), (3, .int hv14)] → W p l e (headSpec (gW yX12_rule cX12_rule 7 (some .long)) { frames := 4, cells := 0, slots := 0, locals := 90 }).room s m ([.ref a, .int zi] : List Value).toArray below meth c H lo0 0 0 (MQ below (fun _ st oc t => ∃ (r : Int64) (w : Int32), oc = .returned (some (.long r)) ∧ zh_ok D cA RTg ro sz H0 t.heap [] ∧ zc_kept D RTg ro kRr st.heap t.heap ∧ zh_f D t.heap a 11 0 = .int w ∧ spRu zi.toInt (Z.length : Int) T w.toInt r.toInt) ([.ref a, .int zi] : List Value).toArray s 0 0 (zy_fr sz)) (F0 m 104 ls []) := by
      intro ot tw g ls H lo0 b2 hgd htot fw hh0 kpl jl hl
      have hul := jl.2.2
      unfold vOK at hul
      refine lv_aload_n hx hb (eX12_rule (104, .aload_n 0, 1) (List.mem_of_getElem? (i := 53) rfl)) rfl (lv_at hl 2 rfl) ?_
      refine tz_rowV (As := []) (st := []) (b := a) (C := RX12) (Ts := gT) hx hb hml hown h2 (fun _ h => h) (hX12_ruleName l D cA ro sz H0 a T (g) ha) ⟨rfl, rfl⟩ ⟨by decide, by decide⟩ ⟨by decide, by decide⟩ (tb_8 9 rfl rfl) (tb_1 12 rfl rfl) (tb_8 6 rfl rfl) (tb_8 8 rfl rfl) (tb_0 29 rfl rfl) (show yX12_ruleName.cls ≠ "java/lang/invoke/MethodHandle" ∧ yX12_ruleName.cls ≠ "java/lang/invoke/VarHandle" ∧ (parseMethodDescriptor yX12_ruleName.desc).map (fun d => d.parameters.length) = some 0 by decide +kernel) zs_blind (zs_ob hh0 ha (show RTg[11]? = some (0, 11, 0, fsX12) from rfl) (zCX12 hKn.1)) (fun U hU hW => ⟨rfl, by rw [hU]; exact hh0.l0, zKb s U hW.alike hKn, by rw [hU]; exact jl⟩) hh0.2.2.1 hl.1 (Nat.le_of_ble_eq_true rfl) (eX12_rule (105, .invokevirtual 348, 3) (List.mem_of_getElem? (i := 54) rfl)) (fun r91 s91 t91 lo91 g91 f91 l91 => ?_)
      obtain ⟨q91, z91, c91, j91⟩ := f91
      cases q91
      rw [g91] at c91
      have hh91 : zh_ok D cA RTg ro sz H0 t91.heap lo91 := ⟨z91.1, z91.2.1, l91, z91.2.2.2⟩
      have kp91 := kpl.trans (c91.mono (ms' := kRr) (by decide))
      generalize hx91 : nameG T g = x91 at j91
      have uu91 := j91.2.2
      unfold vOK at uu91
      have mf91_a_0 := (c91.1 a 11 0 11 0 fsX12 ha rfl (by decide) (by decide)).trans fw
      refine W.eq (g2 := F0 m 108 ls []) rfl ?_
      refine lv_aload_n hx hb (eX12_rule (108, .aload_n 0, 1) (List.mem_of_getElem? (i := 55) rfl)) rfl (lv_at hl 2 rfl) ?_
      refine tz_rowV (As := []) (st := []) (b := a) (C := RX12) (Ts := gT) hx hb hml hown h2 (fun _ h => h) (hX12_isGood l D cA ro sz H0 a T (x91) ha) ⟨rfl, rfl⟩ ⟨by decide, by decide⟩ ⟨by decide, by decide⟩ (tb_8 17 rfl rfl) (tb_1 12 rfl rfl) (tb_8 14 rfl rfl) (tb_8 16 rfl rfl) (tb_0 31 rfl rfl) (show yX12_isGood.cls ≠ "java/lang/invoke/MethodHandle" ∧ yX12_isGood.cls ≠ "java/lang/invoke/VarHandle" ∧ (parseMethodDescriptor yX12_isGood.desc).map (fun d => d.parameters.length) = some 0 by decide +kernel) zs_blind (zs_ob hh91 ha (show RTg[11]? = some (0, 11, 0, fsX12) from rfl) (zCX12 hKn.1)) (fun U hU hW => ⟨rfl, by rw [hU]; exact hh91.l0, zKb s U hW.alike hKn, by rw [hU]; exact j91⟩) hh91.2.2.1 hl.1 (Nat.le_of_ble_eq_true rfl) (eX12_rule (109, .invokevirtual 305, 3) (List.mem_of_getElem? (i := 56) rfl)) (fun r92 s92 t92 lo92 g92 f92 l92 => ?_)
      obtain ⟨z92, v92, q92, e92⟩ := f92
      cases q92
      rw [z92, g92]
      have hh92 : zh_ok D cA RTg ro sz H0 t91.heap lo92 := ⟨hh91.1, hh91.2.1, l92, hh91.2.2.2⟩
      refine W.eq (g2 := F0 m 112 ls [.int v92]) rfl ?_
      refine ff_if_eq hx hb (eX12_rule (112, .ifCond .eq 25, 3) (List.mem_of_getElem? (i := 57) rfl)) (tgt := 137) rfl (fun c93 => ?_) (fun c93 => ?_)
      · skip
        refine lv_iload_n hx hb (eX12_rule (137, .iload_n 2, 1) (List.mem_of_getElem? (i := 69) rfl)) rfl (lv_at hl 4 rfl) ?_
        refine ff_bipush hx hb (eX12_rule (138, .bipush 60, 2) (List.mem_of_getElem? (i := 70) rfl)) (by decide) (by decide) (fun v94 e94 => ?_)
        refine ff_iadd hx hb (eX12_rule (140, .iadd, 1) (List.mem_of_getElem? (i := 71) rfl)) (by omega) (by omega) (fun v95 e95 => ?_)
        refine lv_istore hx hb (eX12_rule (141, .istore 4, 2) (List.mem_of_getElem? (i := 72) rfl)) hl (by decide) rfl (fun ls96 hl96 => ?_)
        refine lv_aload_n hx hb (eX12_rule (143, .aload_n 0, 1) (List.mem_of_getElem? (i := 73) rfl)) rfl (lv_at hl96 2 rfl) ?_
        refine tz_rowV (As := []) (st := []) (b := a) (C := RX12) (Ts := gT) hx hb hml hown h2 (fun _ h => h) (hX12_isGood l D cA ro sz H0 a T (x91) ha) ⟨rfl, rfl⟩ ⟨by decide, by decide⟩ ⟨by decide, by decide⟩ (tb_8 17 rfl rfl) (tb_1 12 rfl rfl) (tb_8 14 rfl rfl) (tb_8 16 rfl rfl) (tb_0 31 rfl rfl) (show yX12_isGood.cls ≠ "java/lang/invoke/MethodHandle" ∧ yX12_isGood.cls ≠ "java/lang/invoke/VarHandle" ∧ (parseMethodDescriptor yX12_isGood.desc).map (fun d => d.parameters.length) = some 0 by decide +kernel) zs_blind (zs_ob hh92 ha (show RTg[11]? = some (0, 11, 0, fsX12) from rfl) (zCX12 hKn.1)) (fun U hU hW => ⟨rfl, by rw [hU]; exact hh92.l0, zKb s U hW.alike hKn, by rw [hU]; exact j91⟩) hh92.2.2.1 hl96.1 (Nat.le_of_ble_eq_true rfl) (eX12_rule (144, .invokevirtual 305, 3) (List.mem_of_getElem? (i := 74) rfl)) (fun r97 s97 t97 lo97 g97 f97 l97 => ?_)
        obtain ⟨z97, v97, q97, e97⟩ := f97
        cases q97
        rw [z97, g97]
        have hh97 : zh_ok D cA RTg ro sz H0 t91.heap lo97 := ⟨hh92.1, hh92.2.1, l97, hh92.2.2.2⟩
        refine W.eq (g2 := F0 m 147 ls96 [.int v97]) rfl ?_
        refine ff_if_eq hx hb (eX12_rule (147, .ifCond .eq 27, 3) (List.mem_of_getElem? (i := 75) rfl)) (tgt := 174) rfl (fun c98 => ?_) (fun c98 => ?_)
        · skip
          exact jn174 v95 tw x91 ls96 _ _ (by omega) (by omega) hgd (by rw [htot, hx91]; unfold secG; rw [if_neg (by omega)]; dsimp only; rw [show -x14.1.1 = v15.toInt by omega]; rw [if_neg (fun q => by have q1 := q.1; have q2 := q.2.1; omega)]) mf91_a_0 hh97 kp91 j91 (lv_sub hl96 [0, 1, 2, 3, 4, 5] rfl)
        · skip
          refine lv_aload_n hx hb (eX12_rule (150, .aload_n 0, 1) (List.mem_of_getElem? (i := 76) rfl)) rfl (lv_at hl96 2 rfl) ?_
          obtain ⟨jt99, ⟨av99, fv99, bv99, f2999, f3099, f3199, hav99, hfv99, hbv99⟩, hu99⟩ := id j91
          have hw99 := hu99
          unfold vOK at hw99
          obtain ⟨tb99, n99, z99, f1299, r099, f1399, hn99, hc99, hz99⟩ := id jt99
          refine tz_get (r := 11) (k := 31) (t := (0, (-2147483648), 2147483647)) hx hb hh97 ha rfl rfl (hcl11 299 31 (0, (-2147483648), 2147483647) (by decide) rfl).1 f3199 (eX12_rule (151, .getfield 299, 3) (List.mem_of_getElem? (i := 77) rfl)) ?_
          refine ff_sipush hx hb (eX12_rule (154, .sipush 1000, 3) (List.mem_of_getElem? (i := 78) rfl)) (by decide) (by decide) (fun v100 e100 => ?_)
          refine ff_icmp_ne hx hb (eX12_rule (157, .if_icmp .ne 17, 3) (List.mem_of_getElem? (i := 79) rfl)) (tgt := 174) rfl (fun c101 => ?_) (fun c101 => ?_)
          · skip
            exact jn174 v95 tw x91 ls96 _ _ (by omega) (by omega) hgd (by rw [htot, hx91]; unfold secG; rw [if_neg (by omega)]; dsimp only; rw [show -x14.1.1 = v15.toInt by omega]; rw [if_neg (fun q => by have q1 := q.1; have q2 := q.2.1; omega)]) mf91_a_0 hh97 kp91 j91 (lv_sub hl96 [0, 1, 2, 3, 4, 5] rfl)
          · skip
            refine lv_iload hx hb (eX12_rule (160, .iload 4, 2) (List.mem_of_getElem? (i := 80) rfl)) (lv_at hl96 0 rfl) ?_
            refine ff_i2l hx hb (eX12_rule (162, .i2l, 1) (List.mem_of_getElem? (i := 81) rfl)) (fun v102 e102 => ?_)
            refine zu_S (vs := [.long v102]) (rest := []) hx hb hml hown hts0 zu_BT (hX12_isOffset l v102) ⟨rfl, rfl⟩ ⟨by decide, by decide⟩ ⟨by decide, by decide⟩ (tb_7 153 rfl rfl) (tb_1 12 rfl rfl) (tb_7 151 rfl rfl) (tb_7 152 rfl rfl) (show yX12_isOffset.cls ≠ "java/lang/invoke/MethodHandle" ∧ yX12_isOffset.cls ≠ "java/lang/invoke/VarHandle" ∧ (parseMethodDescriptor yX12_isOffset.desc).map (fun d => d.parameters.length) = some 1 by decide +kernel) rfl (fun _ _ _ => trivial) hl96.1 (Nat.le_of_ble_eq_true rfl) (eX12_rule (163, .invokestatic 218, 3) (List.mem_of_getElem? (i := 82) rfl)) (fun w103 f103 => ?_)
            obtain ⟨v103, rfl, e103⟩ := f103
            refine ff_if_ne hx hb (eX12_rule (166, .ifCond .ne 8, 3) (List.mem_of_getElem? (i := 83) rfl)) (tgt := 174) rfl (fun c104 => ?_) (fun c104 => ?_)
            · have hio : oInG (v15.toInt + 60) := by unfold oInG; omega
              exact jn174 v95 tw x91 ls96 _ _ (by omega) (by omega) hgd (by rw [htot, hx91]; unfold secG; rw [if_neg (by omega)]; dsimp only; rw [show -x14.1.1 = v15.toInt by omega]; rw [if_neg (fun q => q.2.2 hio)]) mf91_a_0 hh97 kp91 j91 (lv_sub hl96 [0, 1, 2, 3, 4, 5] rfl)
            · have hno : ¬ oInG (v15.toInt + 60) := by unfold oInG; omega
              refine lv_aload_n hx hb (eX12_rule (169, .aload_n 0, 1) (List.mem_of_getElem? (i := 84) rfl)) rfl (lv_at hl96 2 rfl) ?_
              refine lv_iload_n hx hb (eX12_rule (170, .iload_n 3, 1) (List.mem_of_getElem? (i := 85) rfl)) rfl (lv_at hl96 5 rfl) ?_
              refine tz_rowV (As := [.int hv14]) (st := []) (b := a) (C := RX12) (Ts := gT) hx hb hml hown h2 (fun _ h => h) (hX12_bad l D cA ro sz H0 a hv14 (x14.1.2) T (x91) ha (by omega)) ⟨rfl, rfl⟩ ⟨by decide, by decide⟩ ⟨by decide, by decide⟩ (tb_8 47 rfl rfl) (tb_1 12 rfl rfl) (tb_8 44 rfl rfl) (tb_8 46 rfl rfl) (tb_0 37 rfl rfl) (show yX12_bad.cls ≠ "java/lang/invoke/MethodHandle" ∧ yX12_bad.cls ≠ "java/lang/invoke/VarHandle" ∧ (parseMethodDescriptor yX12_bad.desc).map (fun d => d.parameters.length) = some 1 by decide +kernel) zs_blind (zs_ob hh97 ha (show RTg[11]? = some (0, 11, 0, fsX12) from rfl) (zCX12 hKn.1)) (fun U hU hW => ⟨rfl, by rw [hU]; exact hh97.l0, zKb s U hW.alike hKn, by rw [hU]; exact j91⟩) hh97.2.2.1 hl96.1 (Nat.le_of_ble_eq_true rfl) (eX12_rule (171, .invokevirtual 335, 3) (List.mem_of_getElem? (i := 86) rfl)) (fun r105 s105 t105 lo105 g105 f105 l105 => ?_)
              obtain ⟨q105, z105, c105, j105⟩ := f105
              cases q105
              rw [g105] at c105
              have hh105 : zh_ok D cA RTg ro sz H0 t105.heap lo105 := ⟨z105.1, z105.2.1, l105, z105.2.2.2⟩
              have kp105 := kp91.trans (c105.mono (ms' := kRr) (by decide))
              generalize hx105 : bdG (x14.1.2) x91 = x105 at j105
              have uu105 := j105.2.2
              unfold vOK at uu105
              have mf105_a_0 := (c105.1 a 11 0 11 0 fsX12 ha rfl (by decide) (by decide)).trans mf91_a_0
              have mf105_a_13 := (c105.1 a 11 13 11 0 fsX12 ha rfl (by decide) (by decide)).trans f1399
              refine W.eq (g2 := F0 m 174 ls96 []) rfl ?_
              exact jn174 v95 tw x105 ls96 _ _ (by omega) (by omega) hgd (by rw [htot, hx91]; unfold secG; rw [if_neg (by omega)]; dsimp only; rw [show -x14.1.1 = v15.toInt by omega]; rw [if_pos ⟨by omega, by omega, hno⟩, hx105]) mf105_a_0 hh105 kp105 j105 (lv_sub hl96 [0, 1, 2, 3, 4, 5] rfl)
      · skip
        refine lv_aload_n hx hb (eX12_rule (115, .aload_n 0, 1) (List.mem_of_getElem? (i := 58) rfl)) rfl (lv_at hl 2 rfl) ?_
        refine tz_rowV (As := []) (st := []) (b := a) (C := RX12) (Ts := gT) hx hb hml hown h2 (fun _ h => h) (hX12_sign l D cA ro sz H0 a T (x91) ha) ⟨rfl, rfl⟩ ⟨by decide, by decide⟩ ⟨by decide, by decide⟩ (tb_8 21 rfl rfl) (tb_1 12 rfl rfl) (tb_8 18 rfl rfl) (tb_8 20 rfl rfl) (tb_0 32 rfl rfl) (show yX12_sign.cls ≠ "java/lang/invoke/MethodHandle" ∧ yX12_sign.cls ≠ "java/lang/invoke/VarHandle" ∧ (parseMethodDescriptor yX12_sign.desc).map (fun d => d.parameters.length) = some 0 by decide +kernel) zs_blind (zs_ob hh92 ha (show RTg[11]? = some (0, 11, 0, fsX12) from rfl) (zCX12 hKn.1)) (fun U hU hW => ⟨rfl, by rw [hU]; exact hh92.l0, zKb s U hW.alike hKn, by rw [hU]; exact j91⟩) hh92.2.2.1 hl.1 (Nat.le_of_ble_eq_true rfl) (eX12_rule (116, .invokevirtual 309, 3) (List.mem_of_getElem? (i := 59) rfl)) (fun r106 s106 t106 lo106 g106 f106 l106 => ?_)
        obtain ⟨z106, v106, q106, e106⟩ := f106
        cases q106
        rw [z106, g106]
        have hh106 : zh_ok D cA RTg ro sz H0 t91.heap lo106 := ⟨hh92.1, hh92.2.1, l106, hh92.2.2.2⟩
        refine W.eq (g2 := F0 m 119 ls [.int v106]) rfl ?_
        refine ff_bipush hx hb (eX12_rule (119, .bipush 44, 2) (List.mem_of_getElem? (i := 60) rfl)) (by decide) (by decide) (fun v107 e107 => ?_)
        refine ff_icmp_eq hx hb (eX12_rule (121, .if_icmp .eq 16, 3) (List.mem_of_getElem? (i := 61) rfl)) (tgt := 137) rfl (fun c108 => ?_) (fun c108 => ?_)
        · skip
          refine lv_iload_n hx hb (eX12_rule (137, .iload_n 2, 1) (List.mem_of_getElem? (i := 69) rfl)) rfl (lv_at hl 4 rfl) ?_
          refine ff_bipush hx hb (eX12_rule (138, .bipush 60, 2) (List.mem_of_getElem? (i := 70) rfl)) (by decide) (by decide) (fun v109 e109 => ?_)
          refine ff_iadd hx hb (eX12_rule (140, .iadd, 1) (List.mem_of_getElem? (i := 71) rfl)) (by omega) (by omega) (fun v110 e110 => ?_)
          refine lv_istore hx hb (eX12_rule (141, .istore 4, 2) (List.mem_of_getElem? (i := 72) rfl)) hl (by decide) rfl (fun ls111 hl111 => ?_)
          refine lv_aload_n hx hb (eX12_rule (143, .aload_n 0, 1) (List.mem_of_getElem? (i := 73) rfl)) rfl (lv_at hl111 2 rfl) ?_
          refine tz_rowV (As := []) (st := []) (b := a) (C := RX12) (Ts := gT) hx hb hml hown h2 (fun _ h => h) (hX12_isGood l D cA ro sz H0 a T (x91) ha) ⟨rfl, rfl⟩ ⟨by decide, by decide⟩ ⟨by decide, by decide⟩ (tb_8 17 rfl rfl) (tb_1 12 rfl rfl) (tb_8 14 rfl rfl) (tb_8 16 rfl rfl) (tb_0 31 rfl rfl) (show yX12_isGood.cls ≠ "java/lang/invoke/MethodHandle" ∧ yX12_isGood.cls ≠ "java/lang/invoke/VarHandle" ∧ (parseMethodDescriptor yX12_isGood.desc).map (fun d => d.parameters.length) = some 0 by decide +kernel) zs_blind (zs_ob hh106 ha (show RTg[11]? = some (0, 11, 0, fsX12) from rfl) (zCX12 hKn.1)) (fun U hU hW => ⟨rfl, by rw [hU]; exact hh106.l0, zKb s U hW.alike hKn, by rw [hU]; exact j91⟩) hh106.2.2.1 hl111.1 (Nat.le_of_ble_eq_true rfl) (eX12_rule (144, .invokevirtual 305, 3) (List.mem_of_getElem? (i := 74) rfl)) (fun r112 s112 t112 lo112 g112 f112 l112 => ?_)
          obtain ⟨z112, v112, q112, e112⟩ := f112
          cases q112
          rw [z112, g112]
          have hh112 : zh_ok D cA RTg ro sz H0 t91.heap lo112 := ⟨hh106.1, hh106.2.1, l112, hh106.2.2.2⟩
          refine W.eq (g2 := F0 m 147 ls111 [.int v112]) rfl ?_
          refine ff_if_eq hx hb (eX12_rule (147, .ifCond .eq 27, 3) (List.mem_of_getElem? (i := 75) rfl)) (tgt := 174) rfl (fun c113 => ?_) (fun c113 => ?_)
          · skip
            exact jn174 v110 tw x91 ls111 _ _ (by omega) (by omega) hgd (by rw [htot, hx91]; unfold secG; rw [if_neg (by omega)]; dsimp only; rw [show -x14.1.1 = v15.toInt by omega]; rw [if_neg (fun q => by have q1 := q.1; have q2 := q.2.1; omega)]) mf91_a_0 hh112 kp91 j91 (lv_sub hl111 [0, 1, 2, 3, 4, 5] rfl)
          · skip
            refine lv_aload_n hx hb (eX12_rule (150, .aload_n 0, 1) (List.mem_of_getElem? (i := 76) rfl)) rfl (lv_at hl111 2 rfl) ?_
            obtain ⟨jt114, ⟨av114, fv114, bv114, f29114, f30114, f31114, hav114, hfv114, hbv114⟩, hu114⟩ := id j91
            have hw114 := hu114
            unfold vOK at hw114
            obtain ⟨tb114, n114, z114, f12114, r0114, f13114, hn114, hc114, hz114⟩ := id jt114
            refine tz_get (r := 11) (k := 31) (t := (0, (-2147483648), 2147483647)) hx hb hh112 ha rfl rfl (hcl11 299 31 (0, (-2147483648), 2147483647) (by decide) rfl).1 f31114 (eX12_rule (151, .getfield 299, 3) (List.mem_of_getElem? (i := 77) rfl)) ?_
            refine ff_sipush hx hb (eX12_rule (154, .sipush 1000, 3) (List.mem_of_getElem? (i := 78) rfl)) (by decide) (by decide) (fun v115 e115 => ?_)
            refine ff_icmp_ne hx hb (eX12_rule (157, .if_icmp .ne 17, 3) (List.mem_of_getElem? (i := 79) rfl)) (tgt := 174) rfl (fun c116 => ?_) (fun c116 => ?_)
            · skip
              exact jn174 v110 tw x91 ls111 _ _ (by omega) (by omega) hgd (by rw [htot, hx91]; unfold secG; rw [if_neg (by omega)]; dsimp only; rw [show -x14.1.1 = v15.toInt by omega]; rw [if_neg (fun q => by have q1 := q.1; have q2 := q.2.1; omega)]) mf91_a_0 hh112 kp91 j91 (lv_sub hl111 [0, 1, 2, 3, 4, 5] rfl)
            · skip
              refine lv_iload hx hb (eX12_rule (160, .iload 4, 2) (List.mem_of_getElem? (i := 80) rfl)) (lv_at hl111 0 rfl) ?_
              refine ff_i2l hx hb (eX12_rule (162, .i2l, 1) (List.mem_of_getElem? (i := 81) rfl)) (fun v117 e117 => ?_)
              refine zu_S (vs := [.long v117]) (rest := []) hx hb hml hown hts0 zu_BT (hX12_isOffset l v117) ⟨rfl, rfl⟩ ⟨by decide, by decide⟩ ⟨by decide, by decide⟩ (tb_7 153 rfl rfl) (tb_1 12 rfl rfl) (tb_7 151 rfl rfl) (tb_7 152 rfl rfl) (show yX12_isOffset.cls ≠ "java/lang/invoke/MethodHandle" ∧ yX12_isOffset.cls ≠ "java/lang/invoke/VarHandle" ∧ (parseMethodDescriptor yX12_isOffset.desc).map (fun d => d.parameters.length) = some 1 by decide +kernel) rfl (fun _ _ _ => trivial) hl111.1 (Nat.le_of_ble_eq_true rfl) (eX12_rule (163, .invokestatic 218, 3) (List.mem_of_getElem? (i := 82) rfl)) (fun w118 f118 => ?_)
              obtain ⟨v118, rfl, e118⟩ := f118
              refine ff_if_ne hx hb (eX12_rule (166, .ifCond .ne 8, 3) (List.mem_of_getElem? (i := 83) rfl)) (tgt := 174) rfl (fun c119 => ?_) (fun c119 => ?_)
              · have hio : oInG (v15.toInt + 60) := by unfold oInG; omega
                exact jn174 v110 tw x91 ls111 _ _ (by omega) (by omega) hgd (by rw [htot, hx91]; unfold secG; rw [if_neg (by omega)]; dsimp only; rw [show -x14.1.1 = v15.toInt by omega]; rw [if_neg (fun q => q.2.2 hio)]) mf91_a_0 hh112 kp91 j91 (lv_sub hl111 [0, 1, 2, 3, 4, 5] rfl)
              · have hno : ¬ oInG (v15.toInt + 60) := by unfold oInG; omega
                refine lv_aload_n hx hb (eX12_rule (169, .aload_n 0, 1) (List.mem_of_getElem? (i := 84) rfl)) rfl (lv_at hl111 2 rfl) ?_
                refine lv_iload_n hx hb (eX12_rule (170, .iload_n 3, 1) (List.mem_of_getElem? (i := 85) rfl)) rfl (lv_at hl111 5 rfl) ?_
                refine tz_rowV (As := [.int hv14]) (st := []) (b := a) (C := RX12) (Ts := gT) hx hb hml hown h2 (fun _ h => h) (hX12_bad l D cA ro sz H0 a hv14 (x14.1.2) T (x91) ha (by omega)) ⟨rfl, rfl⟩ ⟨by decide, by decide⟩ ⟨by decide, by decide⟩ (tb_8 47 rfl rfl) (tb_1 12 rfl rfl) (tb_8 44 rfl rfl) (tb_8 46 rfl rfl) (tb_0 37 rfl rfl) (show yX12_bad.cls ≠ "java/lang/invoke/MethodHandle" ∧ yX12_bad.cls ≠ "java/lang/invoke/VarHandle" ∧ (parseMethodDescriptor yX12_bad.desc).map (fun d => d.parameters.length) = some 1 by decide +kernel) zs_blind (zs_ob hh112 ha (show RTg[11]? = some (0, 11, 0, fsX12) from rfl) (zCX12 hKn.1)) (fun U hU hW => ⟨rfl, by rw [hU]; exact hh112.l0, zKb s U hW.alike hKn, by rw [hU]; exact j91⟩) hh112.2.2.1 hl111.1 (Nat.le_of_ble_eq_true rfl) (eX12_rule (171, .invokevirtual 335, 3) (List.mem_of_getElem? (i := 86) rfl)) (fun r120 s120 t120 lo120 g120 f120 l120 => ?_)
                obtain ⟨q120, z120, c120, j120⟩ := f120
                cases q120
                rw [g120] at c120
                have hh120 : zh_ok D cA RTg ro sz H0 t120.heap lo120 := ⟨z120.1, z120.2.1, l120, z120.2.2.2⟩
                have kp120 := kp91.trans (c120.mono (ms' := kRr) (by decide))
                generalize hx120 : bdG (x14.1.2) x91 = x120 at j120
                have uu120 := j120.2.2
                unfold vOK at uu120
                have mf120_a_0 := (c120.1 a 11 0 11 0 fsX12 ha rfl (by decide) (by decide)).trans mf91_a_0
                have mf120_a_13 := (c120.1 a 11 13 11 0 fsX12 ha rfl (by decide) (by decide)).trans f13114
                refine W.eq (g2 := F0 m 174 ls111 []) rfl ?_
                exact jn174 v110 tw x120 ls111 _ _ (by omega) (by omega) hgd (by rw [htot, hx91]; unfold secG; rw [if_neg (by omega)]; dsimp only; rw [show -x14.1.1 = v15.toInt by omega]; rw [if_pos ⟨by omega, by omega, hno⟩, hx120]) mf120_a_0 hh120 kp120 j120 (lv_sub hl111 [0, 1, 2, 3, 4, 5] rfl)
        · skip
          refine lv_aload_n hx hb (eX12_rule (124, .aload_n 0, 1) (List.mem_of_getElem? (i := 62) rfl)) rfl (lv_at hl 2 rfl) ?_
          refine ff_iconst hx hb (eX12_rule (125, .iconst 1, 1) (List.mem_of_getElem? (i := 63) rfl)) (by decide) (by decide) (fun v121 e121 => ?_)
          refine ff_bipush hx hb (eX12_rule (126, .bipush 23, 2) (List.mem_of_getElem? (i := 64) rfl)) (by decide) (by decide) (fun v122 e122 => ?_)
          refine tz_rowV (As := [.int v121, .int v122]) (st := []) (b := a) (C := RX12) (Ts := gT) hx hb hml hown h2 (fun _ h => h) (hX12_ruleTime l D cA ro sz H0 a v121 v122 1 23 T (x91) ha (by omega) (by omega) (by decide)) ⟨rfl, rfl⟩ ⟨by decide, by decide⟩ ⟨by decide, by decide⟩ (tb_8 39 rfl rfl) (tb_1 12 rfl rfl) (tb_8 36 rfl rfl) (tb_8 38 rfl rfl) (tb_0 35 rfl rfl) (show yX12_ruleTime.cls ≠ "java/lang/invoke/MethodHandle" ∧ yX12_ruleTime.cls ≠ "java/lang/invoke/VarHandle" ∧ (parseMethodDescriptor yX12_ruleTime.desc).map (fun d => d.parameters.length) = some 2 by decide +kernel) zs_blind (zs_ob hh106 ha (show RTg[11]? = some (0, 11, 0, fsX12) from rfl) (zCX12 hKn.1)) (fun U hU hW => ⟨rfl, by rw [hU]; exact hh106.l0, zKb s U hW.alike hKn, by rw [hU]; exact j91⟩) hh106.2.2.1 hl.1 (Nat.le_of_ble_eq_true rfl) (eX12_rule (128, .invokevirtual 342, 3) (List.mem_of_getElem? (i := 65) rfl)) (fun r123 s123 t123 lo123 g123 f123 l123 => ?_)
          obtain ⟨v123, hv123, q123, e123, fh123, eh123, z123, c123, j123⟩ := f123
          cases q123
          rw [g123] at c123
          have hh123 : zh_ok D cA RTg ro sz H0 t123.heap lo123 := ⟨z123.1, z123.2.1, l123, z123.2.2.2⟩
          have kp123 := kp91.trans (c123.mono (ms' := kRr) (by decide))
          have kf123 := tmG_up T 1 23 x91
          generalize hx123 : tmG T 1 23 x91 = x123 at j123 e123 eh123 kf123
          have uu123 := j123.2.2
          unfold vOK at uu123
          have mf123_a_0 := (c123.1 a 11 0 11 0 fsX12 ha rfl (by decide) (by decide)).trans mf91_a_0
          refine W.eq (g2 := F0 m 131 ls [.int v123]) rfl ?_
          refine ff_ineg hx hb (eX12_rule (131, .ineg, 1) (List.mem_of_getElem? (i := 66) rfl)) (by omega) (by omega) (fun v124 e124 => ?_)
          refine lv_istore hx hb (eX12_rule (132, .istore 4, 2) (List.mem_of_getElem? (i := 67) rfl)) hl (by decide) rfl (fun ls125 hl125 => ?_)
          refine lv_goto hx hb (eX12_rule (134, .goto 40, 3) (List.mem_of_getElem? (i := 68) rfl)) (tgt := 174) rfl ?_
          exact jn174 v124 tw x123.2 ls125 _ _ (by omega) (by omega) hgd (by rw [htot, hx91]; unfold secG; rw [if_pos ⟨by omega, by omega⟩, hx123]) mf123_a_0 hh123 kp123 j123 (lv_sub hl125 [0, 1, 2, 3, 4, 5] rfl)
    refine ff_iconst hx hb (eX12_rule (48, .iconst 0, 1) (List.mem_of_getElem? (i := 27) rfl)) (by decide) (by decide) (fun v126 e126 => ?_)
    refine lv_istore hx hb (eX12_rule (49, .istore 4, 2) (List.mem_of_getElem? (i := 28) rfl)) hl17 (by decide) rfl (fun ls127 hl127 => ?_)
    refine lv_aload_n hx hb (eX12_rule (51, .aload_n 0, 1) (List.mem_of_getElem? (i := 29) rfl)) rfl (lv_at hl127 3 rfl) ?_
    refine tz_rowV (As := []) (st := []) (b := a) (C := RX12) (Ts := gT) hx hb hml hown h2 (fun _ h => h) (hX12_isGood l D cA ro sz H0 a T (x14.2) ha) ⟨rfl, rfl⟩ ⟨by decide, by decide⟩ ⟨by decide, by decide⟩ (tb_8 17 rfl rfl) (tb_1 12 rfl rfl) (tb_8 14 rfl rfl) (tb_8 16 rfl rfl) (tb_0 31 rfl rfl) (show yX12_isGood.cls ≠ "java/lang/invoke/MethodHandle" ∧ yX12_isGood.cls ≠ "java/lang/invoke/VarHandle" ∧ (parseMethodDescriptor yX12_isGood.desc).map (fun d => d.parameters.length) = some 0 by decide +kernel) zs_blind (zs_ob hh14 ha (show RTg[11]? = some (0, 11, 0, fsX12) from rfl) (zCX12 hKn.1)) (fun U hU hW => ⟨rfl, by rw [hU]; exact hh14.l0, zKb s U hW.alike hKn, by rw [hU]; exact j14⟩) hh14.2.2.1 hl127.1 (Nat.le_of_ble_eq_true rfl) (eX12_rule (52, .invokevirtual 305, 3) (List.mem_of_getElem? (i := 30) rfl)) (fun r128 s128 t128 lo128 g128 f128 l128 => ?_)
    obtain ⟨z128, v128, q128, e128⟩ := f128
    cases q128
    rw [z128, g128]
    have hh128 : zh_ok D cA RTg ro sz H0 t14.heap lo128 := ⟨hh14.1, hh14.2.1, l128, hh14.2.2.2⟩
    refine W.eq (g2 := F0 m 55 ls127 [.int v128]) rfl ?_
    refine ff_if_eq hx hb (eX12_rule (55, .ifCond .eq 18, 3) (List.mem_of_getElem? (i := 31) rfl)) (tgt := 73) rfl (fun c129 => ?_) (fun c129 => ?_)
    · skip
      refine ff_iconst hx hb (eX12_rule (73, .iconst 0, 1) (List.mem_of_getElem? (i := 39) rfl)) (by decide) (by decide) (fun v130 e130 => ?_)
      refine lv_istore hx hb (eX12_rule (74, .istore 5, 2) (List.mem_of_getElem? (i := 40) rfl)) hl127 (by decide) rfl (fun ls131 hl131 => ?_)
      refine lv_iload hx hb (eX12_rule (76, .iload 5, 2) (List.mem_of_getElem? (i := 41) rfl)) (lv_at hl131 0 rfl) ?_
      refine ff_if_eq hx hb (eX12_rule (78, .ifCond .eq 140, 3) (List.mem_of_getElem? (i := 42) rfl)) (tgt := 218) rfl (fun c132 => ?_) (fun c132 => (by exfalso; omega))
      have h218 : (ruG T).2 = x14.2 := by unfold ruG; dsimp only; rw [hx11, hx14, if_neg (by omega)]
      exact jn218 v126 v130 x14.2 ls131 _ _ (by omega) (by omega) h218 mf14_a_0 hh128 kp14 j14 (lv_sub hl131 [1, 0, 4, 5, 3, 2] rfl)
    · skip
      refine lv_aload_n hx hb (eX12_rule (58, .aload_n 0, 1) (List.mem_of_getElem? (i := 32) rfl)) rfl (lv_at hl127 3 rfl) ?_
      obtain ⟨jt133, ⟨av133, fv133, bv133, f29133, f30133, f31133, hav133, hfv133, hbv133⟩, hu133⟩ := id j14
      have hw133 := hu133
      unfold vOK at hw133
      obtain ⟨tb133, n133, z133, f12133, r0133, f13133, hn133, hc133, hz133⟩ := id jt133
      refine tz_get (r := 11) (k := 29) (t := (0, 0, 120)) hx hb hh128 ha rfl rfl (hcl11 293 29 (0, 0, 120) (by decide) rfl).1 f29133 (eX12_rule (59, .getfield 293, 3) (List.mem_of_getElem? (i := 33) rfl)) ?_
      refine lv_aload_n hx hb (eX12_rule (62, .aload_n 0, 1) (List.mem_of_getElem? (i := 34) rfl)) rfl (lv_at hl127 3 rfl) ?_
      refine tz_get (r := 11) (k := 13) (t := (0, 0, 120)) hx hb hh128 ha rfl rfl (hcl11 302 13 (0, 0, 120) (by decide) rfl).1 f13133 (eX12_rule (63, .getfield 302, 3) (List.mem_of_getElem? (i := 35) rfl)) ?_
      refine ff_icmp_ge hx hb (eX12_rule (66, .if_icmp .ge 7, 3) (List.mem_of_getElem? (i := 36) rfl)) (tgt := 73) rfl (fun c134 => ?_) (fun c134 => ?_)
      · skip
        refine ff_iconst hx hb (eX12_rule (73, .iconst 0, 1) (List.mem_of_getElem? (i := 39) rfl)) (by decide) (by decide) (fun v135 e135 => ?_)
        refine lv_istore hx hb (eX12_rule (74, .istore 5, 2) (List.mem_of_getElem? (i := 40) rfl)) hl127 (by decide) rfl (fun ls136 hl136 => ?_)
        refine lv_iload hx hb (eX12_rule (76, .iload 5, 2) (List.mem_of_getElem? (i := 41) rfl)) (lv_at hl136 0 rfl) ?_
        refine ff_if_eq hx hb (eX12_rule (78, .ifCond .eq 140, 3) (List.mem_of_getElem? (i := 42) rfl)) (tgt := 218) rfl (fun c137 => ?_) (fun c137 => (by exfalso; omega))
        have h218 : (ruG T).2 = x14.2 := by unfold ruG; dsimp only; rw [hx11, hx14, if_neg (by omega)]
        exact jn218 v126 v135 x14.2 ls136 _ _ (by omega) (by omega) h218 mf14_a_0 hh128 kp14 j14 (lv_sub hl136 [1, 0, 4, 5, 3, 2] rfl)
      · skip
        refine ff_iconst hx hb (eX12_rule (69, .iconst 1, 1) (List.mem_of_getElem? (i := 37) rfl)) (by decide) (by decide) (fun v138 e138 => ?_)
        refine lv_goto hx hb (eX12_rule (70, .goto 4, 3) (List.mem_of_getElem? (i := 38) rfl)) (tgt := 74) rfl ?_
        refine lv_istore hx hb (eX12_rule (74, .istore 5, 2) (List.mem_of_getElem? (i := 40) rfl)) hl127 (by decide) rfl (fun ls139 hl139 => ?_)
        refine lv_iload hx hb (eX12_rule (76, .iload 5, 2) (List.mem_of_getElem? (i := 41) rfl)) (lv_at hl139 0 rfl) ?_
        refine ff_if_eq hx hb (eX12_rule (78, .ifCond .eq 140, 3) (List.mem_of_getElem? (i := 42) rfl)) (tgt := 218) rfl (fun c140 => (by exfalso; omega)) (fun c140 => ?_)
        refine lv_aload_n hx hb (eX12_rule (81, .aload_n 0, 1) (List.mem_of_getElem? (i := 43) rfl)) rfl (lv_at hl139 4 rfl) ?_
        refine tz_rowV (As := []) (st := []) (b := a) (C := RX12) (Ts := gT) hx hb hml hown h2 (fun _ h => h) (hX12_sign l D cA ro sz H0 a T (x14.2) ha) ⟨rfl, rfl⟩ ⟨by decide, by decide⟩ ⟨by decide, by decide⟩ (tb_8 21 rfl rfl) (tb_1 12 rfl rfl) (tb_8 18 rfl rfl) (tb_8 20 rfl rfl) (tb_0 32 rfl rfl) (show yX12_sign.cls ≠ "java/lang/invoke/MethodHandle" ∧ yX12_sign.cls ≠ "java/lang/invoke/VarHandle" ∧ (parseMethodDescriptor yX12_sign.desc).map (fun d => d.parameters.length) = some 0 by decide +kernel) zs_blind (zs_ob hh128 ha (show RTg[11]? = some (0, 11, 0, fsX12) from rfl) (zCX12 hKn.1)) (fun U hU hW => ⟨rfl, by rw [hU]; exact hh128.l0, zKb s U hW.alike hKn, by rw [hU]; exact j14⟩) hh128.2.2.1 hl139.1 (Nat.le_of_ble_eq_true rfl) (eX12_rule (82, .invokevirtual 309, 3) (List.mem_of_getElem? (i := 44) rfl)) (fun r141 s141 t141 lo141 g141 f141 l141 => ?_)
        obtain ⟨z141, v141, q141, e141⟩ := f141
        cases q141
        rw [z141, g141]
        have hh141 : zh_ok D cA RTg ro sz H0 t14.heap lo141 := ⟨hh128.1, hh128.2.1, l141, hh128.2.2.2⟩
        refine W.eq (g2 := F0 m 85 ls139 [.int v141]) rfl ?_
        refine zu_S (vs := [.int v141]) (rest := []) hx hb hml hown hts0 zu_BT (hX12_isLetter l v141) ⟨rfl, rfl⟩ ⟨by decide, by decide⟩ ⟨by decide, by decide⟩ (tb_8 24 rfl rfl) (tb_1 12 rfl rfl) (tb_8 22 rfl rfl) (tb_8 23 rfl rfl) (show yX12_isLetter.cls ≠ "java/lang/invoke/MethodHandle" ∧ yX12_isLetter.cls ≠ "java/lang/invoke/VarHandle" ∧ (parseMethodDescriptor yX12_isLetter.desc).map (fun d => d.parameters.length) = some 1 by decide +kernel) rfl (fun _ _ _ => trivial) hl139.1 (Nat.le_of_ble_eq_true rfl) (eX12_rule (85, .invokestatic 322, 3) (List.mem_of_getElem? (i := 45) rfl)) (fun w142 f142 => ?_)
        obtain ⟨v142, rfl, e142⟩ := f142
        refine ff_if_ne hx hb (eX12_rule (88, .ifCond .ne 16, 3) (List.mem_of_getElem? (i := 46) rfl)) (tgt := 104) rfl (fun c143 => ?_) (fun c143 => ?_)
        · have hnl : isT (byI T x14.2.1) := by rcases e142 with h | h; rw [← e141]; exact h.2; exfalso; omega
          exact jn104 v126 v138 x14.2 ls139 _ _ (by omega) (by omega) (by unfold n1G; rw [if_neg (fun q => q.1 hnl)]) mf14_a_0 hh141 kp14 j14 (lv_sub hl139 [1, 0, 4, 5, 3, 2] rfl)
        · have hnl : ¬ isT (byI T x14.2.1) := by rcases e142 with h | h; exfalso; omega; rw [← e141]; exact h.2
          refine lv_aload_n hx hb (eX12_rule (91, .aload_n 0, 1) (List.mem_of_getElem? (i := 47) rfl)) rfl (lv_at hl139 4 rfl) ?_
          refine tz_rowV (As := []) (st := []) (b := a) (C := RX12) (Ts := gT) hx hb hml hown h2 (fun _ h => h) (hX12_sign l D cA ro sz H0 a T (x14.2) ha) ⟨rfl, rfl⟩ ⟨by decide, by decide⟩ ⟨by decide, by decide⟩ (tb_8 21 rfl rfl) (tb_1 12 rfl rfl) (tb_8 18 rfl rfl) (tb_8 20 rfl rfl) (tb_0 32 rfl rfl) (show yX12_sign.cls ≠ "java/lang/invoke/MethodHandle" ∧ yX12_sign.cls ≠ "java/lang/invoke/VarHandle" ∧ (parseMethodDescriptor yX12_sign.desc).map (fun d => d.parameters.length) = some 0 by decide +kernel) zs_blind (zs_ob hh141 ha (show RTg[11]? = some (0, 11, 0, fsX12) from rfl) (zCX12 hKn.1)) (fun U hU hW => ⟨rfl, by rw [hU]; exact hh141.l0, zKb s U hW.alike hKn, by rw [hU]; exact j14⟩) hh141.2.2.1 hl139.1 (Nat.le_of_ble_eq_true rfl) (eX12_rule (92, .invokevirtual 309, 3) (List.mem_of_getElem? (i := 48) rfl)) (fun r144 s144 t144 lo144 g144 f144 l144 => ?_)
          obtain ⟨z144, v144, q144, e144⟩ := f144
          cases q144
          rw [z144, g144]
          have hh144 : zh_ok D cA RTg ro sz H0 t14.heap lo144 := ⟨hh141.1, hh141.2.1, l144, hh141.2.2.2⟩
          refine W.eq (g2 := F0 m 95 ls139 [.int v144]) rfl ?_
          refine ff_bipush hx hb (eX12_rule (95, .bipush 60, 2) (List.mem_of_getElem? (i := 49) rfl)) (by decide) (by decide) (fun v145 e145 => ?_)
          refine ff_icmp_eq hx hb (eX12_rule (97, .if_icmp .eq 7, 3) (List.mem_of_getElem? (i := 50) rfl)) (tgt := 104) rfl (fun c146 => ?_) (fun c146 => ?_)
          · skip
            exact jn104 v126 v138 x14.2 ls139 _ _ (by omega) (by omega) (by unfold n1G; rw [if_neg (fun q => q.2 (by omega))]) mf14_a_0 hh144 kp14 j14 (lv_sub hl139 [1, 0, 4, 5, 3, 2] rfl)
          · skip
            refine lv_aload_n hx hb (eX12_rule (100, .aload_n 0, 1) (List.mem_of_getElem? (i := 51) rfl)) rfl (lv_at hl139 4 rfl) ?_
            refine tz_rowV (As := []) (st := []) (b := a) (C := RX12) (Ts := gT) hx hb hml hown h2 (fun _ h => h) (hX12_fail l D cA ro sz H0 a T (x14.2) ha) ⟨rfl, rfl⟩ ⟨by decide, by decide⟩ ⟨by decide, by decide⟩ (tb_8 31 rfl rfl) (tb_1 12 rfl rfl) (tb_8 28 rfl rfl) (tb_8 30 rfl rfl) (tb_0 33 rfl rfl) (show yX12_fail.cls ≠ "java/lang/invoke/MethodHandle" ∧ yX12_fail.cls ≠ "java/lang/invoke/VarHandle" ∧ (parseMethodDescriptor yX12_fail.desc).map (fun d => d.parameters.length) = some 0 by decide +kernel) zs_blind (zs_ob hh144 ha (show RTg[11]? = some (0, 11, 0, fsX12) from rfl) (zCX12 hKn.1)) (fun U hU hW => ⟨rfl, by rw [hU]; exact hh144.l0, zKb s U hW.alike hKn, by rw [hU]; exact j14⟩) hh144.2.2.1 hl139.1 (Nat.le_of_ble_eq_true rfl) (eX12_rule (101, .invokevirtual 316, 3) (List.mem_of_getElem? (i := 52) rfl)) (fun r147 s147 t147 lo147 g147 f147 l147 => ?_)
            obtain ⟨q147, z147, c147, j147⟩ := f147
            cases q147
            rw [g147] at c147
            have hh147 : zh_ok D cA RTg ro sz H0 t147.heap lo147 := ⟨z147.1, z147.2.1, l147, z147.2.2.2⟩
            have kp147 := kp14.trans (c147.mono (ms' := kRr) (by decide))
            generalize hx147 : flG x14.2 = x147 at j147
            have uu147 := j147.2.2
            unfold vOK at uu147
            have mf147_a_3 := (c147.1 a 11 3 11 0 fsX12 ha rfl (by decide) (by decide)).trans mf14_a_3
            have mf147_a_0 := (c147.1 a 11 0 11 0 fsX12 ha rfl (by decide) (by decide)).trans mf14_a_0
            have mf147_a_33 := (c147.1 a 11 33 11 0 fsX12 ha rfl (by decide) (by decide)).trans fh14
            have mf147_a_13 := (c147.1 a 11 13 11 0 fsX12 ha rfl (by decide) (by decide)).trans f13133
            refine W.eq (g2 := F0 m 104 ls139 []) rfl ?_
            exact jn104 v126 v138 x147 ls139 _ _ (by omega) (by omega) (by unfold n1G; rw [if_pos ⟨hnl, by omega⟩, hx147]) mf147_a_0 hh147 kp147 j147 (lv_sub hl139 [1, 0, 4, 5, 3, 2] rfl)
