def lkM : List (Nat × Nat) := [(11, 29), (11, 30), (11, 31), (11, 38), (11, 39)]
/-- bounds of the words -/
def gBq (g : fN) : Prop := (∀ k, k < 32 → -999999999 ≤ g k ∧ g k ≤ 999999999) ∧ (-999999 ≤ g 2 ∧ g 2 ≤ 999999) ∧ (-1 ≤ g 1 ∧ g 1 ≤ 5)
theorem hX12_isDayG (l : Launch) (D : va_G) (cA : Nat → ClassId) (ro : Nat → Option Nat) (sz : Nat) (H0 : Heap) (a : Nat) (nn : Int64) (J : Heap → Prop) (ha : ro a = some 11) : Met l yX12_isDay (gW yX12_isDay cX12_isDay 3 (some .boolean)) { frames := 1, cells := 0, slots := 0, locals := 25 } (zs_P D cA ro sz H0 J [.ref a, .long nn]) (zg_idQ nn.toInt) 0 0 (zy_fr sz) := met_weak (hX12_isDay l D cA ro sz H0 a nn ha) (fun _ _ h => ⟨h.1, h.2.1, h.2.2.1⟩)
set_option maxRecDepth 100000 in
set_option maxHeartbeats 4000000 in
theorem hX12_lookAtDate (l : Launch) (D : va_G) (cA : Nat → ClassId) (ro : Nat → Option Nat) (sz : Nat) (H0 : Heap) (a : Nat)  (T : List Int) (sg : uS) (n : Nat) (g h : fN) (ha : ro a = some 11) (hn1 : n ≤ 1) (hT : (T.length : Int) ≤ 120) (hgB : gBq g) : Met l yX12_lookAtDate (gW yX12_lookAtDate cX12_lookAtDate 8 none) { frames := 4, cells := 0, slots := 0, locals := 100 } (zs_P D cA ro sz H0 (fun H => jV D cA ro H a T sg ∧ jG D cA ro H a n g h) [.ref a]) (fun _ st oc t => oc = .returned none ∧ zh_ok D cA RTg ro sz H0 t.heap [] ∧ zc_kept D RTg ro lkM st.heap t.heap ∧ jV D cA ro t.heap a T (sg.1, sg.2.1, ldb g sg.2.2) ∧ jG D cA ro t.heap a n g h ∧ ∃ (hv : Int32) (dv : Int64), zh_f D t.heap a 11 39 = .int hv ∧ hv.toInt = ldHx g ∧ zh_f D t.heap a 11 38 = .long dv ∧ (hv.toInt = 1 → dv.toInt = ldD g)) 0 0 (zy_fr sz) := by
  refine zy_ofW (cc := cX12_lookAtDate) (maxL := 8) (ret := none) (by decide +kernel) rfl ?_
  intro p e s m args below meth c s1 B hml hv
  obtain ⟨rfl, hh, hKn, hJ⟩ := hv
  have hx := B.exec
  have hb := B.bytes
  have hr := B.returns
  have hlk := B.notSynchronized
  have hts0 := atoms_spec (ws := gW yX12_lookAtDate cX12_lookAtDate 8 none) B.pre
  have h2 : ∀ w ∈ gT, w.before ([.ref a] : List Value).toArray s = true := fun w hw => hts0 w (List.mem_cons_of_mem _ hw)
  have hown : s.vm.findClass RX12 = some m.cls := findClass_of_methodNamed B.named
  have hl := lv_entry [.ref a] (n := 8) (Nat.le_of_ble_eq_true rfl)
  rw [lg_entry_eq]
  generalize (lg_sl [.ref a] ++ List.replicate (8 - (lg_sl [.ref a]).length) Slot.unset).toArray = ls at hl ⊢
  have hD := zD_all h2 hKn.1
  have hcl11 := fun (idx k : Nat) (t : zt_T) (h : (idx, 11, k) ∈ gfX12) (hk : fsX12[k]? = some t) => zf_clause (ro := ro) (ms := lkM) h2 hown hKn.1 gfX12_ok (by decide +kernel) idx 11 k 11 0 fsX12 t h rfl hk
  have kp0 : zc_kept D RTg ro lkM s.heap s.heap := zc_kept.refl
  obtain ⟨jv0, jg0⟩ := hJ
  have hu := jv0.2.2
  unfold vOK at hu
  have hbb := byI_bd T sg.1
  have hb1 := hgB.2.2
  have hb2 := hgB.2.1
  have hw3 := hgB.1 3 (by decide)
  have hw4 := hgB.1 4 (by decide)
  have hw5 := hgB.1 5 (by decide)
  have hw6 := hgB.1 6 (by decide)
  have hw7 := hgB.1 7 (by decide)
  have hmlb := mlI_bd (g 2) (g 4)
  have hnf := nu_first (g 2)
  have hyb := ysI_bd (y := g 2) (by omega) (by omega)
  refine lv_aload_n hx hb (eX12_lookAtDate (0, .aload_n 0, 1) (List.mem_of_getElem? (i := 0) rfl)) rfl (lv_at hl 0 rfl) ?_
  refine ff_iconst hx hb (eX12_lookAtDate (1, .iconst 0, 1) (List.mem_of_getElem? (i := 1) rfl)) (by decide) (by decide) (fun v1 e1 => ?_)
  refine tz_put (r := 11) (k := 39) (t := (0, 0, 1)) hx hb hD hh ha rfl rfl ((hcl11 404 39 (0, 0, 1) (by decide) rfl).2 (by decide)) (tz_i (by omega) (by omega)) (eX12_lookAtDate (2, .putfield 404, 3) (List.mem_of_getElem? (i := 2) rfl)) (fun H2 lo2 hh2 hf2 hk2 _ hq2 => ?_)
  have kp2 := kp0.trans (hk2.mono (ms' := lkM) (fun x hx => by cases List.mem_singleton.mp hx; decide))
  have jv2 := jv0.kept ha hk2 (by decide)
  have jg2 := jg0.kept ha hk2 (by decide)
  have jn292 : ∀ (dv : Int64) (hv : Int32) (ls : Array Slot) (H : Heap) (lo0 : List Loc), zh_ok D cA RTg ro sz H0 H lo0 → zc_kept D RTg ro lkM s.heap H → jV D cA ro H a T sg → jG D cA ro H a n g h → zh_f D H a 11 38 = .long dv → zh_f D H a 11 39 = .int hv → hv.toInt = 0 → dv.toInt = ldD g → ldb g sg.2.2 = lde g sg.2.2 → ldHx g = ldh g → lv_has ls 8 [(0, .ref a)] → W p l e (headSpec (gW yX12_lookAtDate cX12_lookAtDate 8 none) { frames := 4, cells := 0, slots := 0, locals := 100 }).room s m ([.ref a] : List Value).toArray below meth c H lo0 0 0 (MQ below (fun _ st oc t => oc = .returned none ∧ zh_ok D cA RTg ro sz H0 t.heap [] ∧ zc_kept D RTg ro lkM st.heap t.heap ∧ jV D cA ro t.heap a T (sg.1, sg.2.1, ldb g sg.2.2) ∧ jG D cA ro t.heap a n g h ∧ ∃ (hv : Int32) (dv : Int64), zh_f D t.heap a 11 39 = .int hv ∧ hv.toInt = ldHx g ∧ zh_f D t.heap a 11 38 = .long dv ∧ (hv.toInt = 1 → dv.toInt = ldD g)) ([.ref a] : List Value).toArray s 0 0 (zy_fr sz)) (F0 m 292 ls []) := by
    intro dv hv ls H lo0 hh0 kpl jl jgl f38 f39 hhv hdv hbq hhq hl
    refine lv_aload_n hx hb (eX12_lookAtDate (292, .aload_n 0, 1) (List.mem_of_getElem? (i := 162) rfl)) rfl (lv_at hl 0 rfl) ?_
    refine lv_aload_n hx hb (eX12_lookAtDate (293, .aload_n 0, 1) (List.mem_of_getElem? (i := 163) rfl)) rfl (lv_at hl 0 rfl) ?_
    refine tz_get (r := 11) (k := 38) (t := (1, (-9223372036854775808), 9223372036854775807)) hx hb hh0 ha rfl rfl (hcl11 407 38 (1, (-9223372036854775808), 9223372036854775807) (by decide) rfl).1 f38 (eX12_lookAtDate (294, .getfield 407, 3) (List.mem_of_getElem? (i := 164) rfl)) ?_
    refine tz_rowV (As := [.long dv]) (st := []) (b := a) (C := RX12) (Ts := gT) hx hb hml hown h2 (fun _ h => h) (hX12_isDayG l D cA ro sz H0 a dv (fun _ => True) ha) ⟨rfl, rfl⟩ ⟨by decide, by decide⟩ ⟨by decide, by decide⟩ (tb_7 62 rfl rfl) (tb_1 12 rfl rfl) (tb_7 59 rfl rfl) (tb_7 61 rfl rfl) (tb_0 4 rfl rfl) (show yX12_isDay.cls ≠ "java/lang/invoke/MethodHandle" ∧ yX12_isDay.cls ≠ "java/lang/invoke/VarHandle" ∧ (parseMethodDescriptor yX12_isDay.desc).map (fun d => d.parameters.length) = some 1 by decide +kernel) zs_blind (zs_ob hh0 ha (show RTg[11]? = some (0, 11, 0, fsX12) from rfl) (zCX12 hKn.1)) (fun U hU hW => ⟨rfl, by rw [hU]; exact hh0.l0, zKb s U hW.alike hKn, by rw [hU]; exact trivial⟩) hh0.2.2.1 hl.1 (Nat.le_of_ble_eq_true rfl) (eX12_lookAtDate (297, .invokevirtual 159, 3) (List.mem_of_getElem? (i := 165) rfl)) (fun r3 s3 t3 lo3 g3 f3 l3 => ?_)
    obtain ⟨z3, v3, q3, e3⟩ := f3
    cases q3
    rw [z3, g3]
    have hh3 : zh_ok D cA RTg ro sz H0 H lo3 := ⟨hh0.1, hh0.2.1, l3, hh0.2.2.2⟩
    refine W.eq (g2 := F0 m 300 ls [.int v3]) rfl ?_
    refine ff_if_ne hx hb (eX12_lookAtDate (300, .ifCond .ne 14, 3) (List.mem_of_getElem? (i := 166) rfl)) (tgt := 314) rfl (fun c4 => ?_) (fun c4 => ?_)
    · skip
      have d5 : -365961662 ≤ ldD g ∧ ldD g ≤ 364522971 := by omega
      refine lv_aload_n hx hb (eX12_lookAtDate (314, .aload_n 0, 1) (List.mem_of_getElem? (i := 174) rfl)) rfl (lv_at hl 0 rfl) ?_
      refine ff_iconst hx hb (eX12_lookAtDate (315, .iconst 1, 1) (List.mem_of_getElem? (i := 175) rfl)) (by decide) (by decide) (fun v6 e6 => ?_)
      refine tz_put (r := 11) (k := 39) (t := (0, 0, 1)) hx hb hD hh3 ha rfl rfl ((hcl11 404 39 (0, 0, 1) (by decide) rfl).2 (by decide)) (tz_i (by omega) (by omega)) (eX12_lookAtDate (316, .putfield 404, 3) (List.mem_of_getElem? (i := 176) rfl)) (fun H7 lo7 hh7 hf7 hk7 _ hq7 => ?_)
      have mf7_a_38 := (hk7.1 a 11 38 11 0 fsX12 ha rfl (by decide) (by decide)).trans f38
      have kp7 := kpl.trans (hk7.mono (ms' := lkM) (fun x hx => by cases List.mem_singleton.mp hx; decide))
      have jv7 := jl.kept ha hk7 (by decide)
      have jg7 := jgl.kept ha hk7 (by decide)
      have hfin : ((sg.1, sg.2.1, ldb g sg.2.2) : uS) = sg := by rw [hbq]; simp only [lde, if_pos d5] <;> rfl
      have hfh : ldHx g = 1 := by rw [hhq]; simp only [ldh, if_pos d5]
      exact W.vret hx hb hr (fun t ht hW => ⟨rfl, by rw [ht]; exact hh7.l0, by rw [ht]; exact kp7, by rw [ht, hfin]; exact jv7, by rw [ht]; exact jg7, _, _, by rw [ht]; exact hf7, by rw [hfh]; omega, by rw [ht]; exact mf7_a_38, fun _ => hdv⟩) hh7.2.2.1 (eX12_lookAtDate (319, .return_, 1) (List.mem_of_getElem? (i := 177) rfl))
    · skip
      have d8 : ¬ (-365961662 ≤ ldD g ∧ ldD g ≤ 364522971) := by omega
      refine lv_aload_n hx hb (eX12_lookAtDate (303, .aload_n 0, 1) (List.mem_of_getElem? (i := 167) rfl)) rfl (lv_at hl 0 rfl) ?_
      refine lv_aload_n hx hb (eX12_lookAtDate (304, .aload_n 0, 1) (List.mem_of_getElem? (i := 168) rfl)) rfl (lv_at hl 0 rfl) ?_
      refine ff_iconst hx hb (eX12_lookAtDate (305, .iconst 3, 1) (List.mem_of_getElem? (i := 169) rfl)) (by decide) (by decide) (fun v9 e9 => ?_)
      refine tz_rowV (As := [.int v9]) (st := [.ref a]) (b := a) (C := RX12) (Ts := gT) hx hb hml hown h2 (fun _ h => h) (hX12_get l D cA ro sz H0 a v9 3 n g h ha hn1 (by omega) (by decide)) ⟨rfl, rfl⟩ ⟨by decide, by decide⟩ ⟨by decide, by decide⟩ (tb_8 94 rfl rfl) (tb_1 12 rfl rfl) (tb_8 91 rfl rfl) (tb_8 93 rfl rfl) (tb_0 47 rfl rfl) (show yX12_get.cls ≠ "java/lang/invoke/MethodHandle" ∧ yX12_get.cls ≠ "java/lang/invoke/VarHandle" ∧ (parseMethodDescriptor yX12_get.desc).map (fun d => d.parameters.length) = some 1 by decide +kernel) zs_blind (zs_ob hh3 ha (show RTg[11]? = some (0, 11, 0, fsX12) from rfl) (zCX12 hKn.1)) (fun U hU hW => ⟨rfl, by rw [hU]; exact hh3.l0, zKb s U hW.alike hKn, by rw [hU]; exact jgl⟩) hh3.2.2.1 hl.1 (Nat.le_of_ble_eq_true rfl) (eX12_lookAtDate (306, .invokevirtual 361, 3) (List.mem_of_getElem? (i := 170) rfl)) (fun r10 s10 t10 lo10 g10 f10 l10 => ?_)
      obtain ⟨z10, v10, q10, e10⟩ := f10
      cases q10
      rw [z10, g10]
      have hh10 : zh_ok D cA RTg ro sz H0 H lo10 := ⟨hh3.1, hh3.2.1, l10, hh3.2.2.2⟩
      refine W.eq (g2 := F0 m 309 ls [.long v10, .ref a]) rfl ?_
      refine ff_l2i hx hb (eX12_lookAtDate (309, .l2i, 1) (List.mem_of_getElem? (i := 171) rfl)) (by omega) (by omega) (fun v11 e11 => ?_)
      refine tz_rowV (As := [.int v11]) (st := []) (b := a) (C := RX12) (Ts := gT) hx hb hml hown h2 (fun _ h => h) (hX12_bad l D cA ro sz H0 a v11 (g 3) T (sg) ha (by omega)) ⟨rfl, rfl⟩ ⟨by decide, by decide⟩ ⟨by decide, by decide⟩ (tb_8 47 rfl rfl) (tb_1 12 rfl rfl) (tb_8 44 rfl rfl) (tb_8 46 rfl rfl) (tb_0 37 rfl rfl) (show yX12_bad.cls ≠ "java/lang/invoke/MethodHandle" ∧ yX12_bad.cls ≠ "java/lang/invoke/VarHandle" ∧ (parseMethodDescriptor yX12_bad.desc).map (fun d => d.parameters.length) = some 1 by decide +kernel) zs_blind (zs_ob hh10 ha (show RTg[11]? = some (0, 11, 0, fsX12) from rfl) (zCX12 hKn.1)) (fun U hU hW => ⟨rfl, by rw [hU]; exact hh10.l0, zKb s U hW.alike hKn, by rw [hU]; exact jl⟩) hh10.2.2.1 hl.1 (Nat.le_of_ble_eq_true rfl) (eX12_lookAtDate (310, .invokevirtual 335, 3) (List.mem_of_getElem? (i := 172) rfl)) (fun r12 s12 t12 lo12 g12 f12 l12 => ?_)
      obtain ⟨q12, z12, c12, jv12⟩ := f12
      cases q12
      rw [g12] at c12
      have hh12 : zh_ok D cA RTg ro sz H0 t12.heap lo12 := ⟨z12.1, z12.2.1, l12, z12.2.2.2⟩
      have kp12 := kpl.trans (c12.mono (ms' := lkM) (by decide))
      generalize hx12 : bdG (g 3) sg = x12 at jv12
      have uu12 := jv12.2.2
      unfold vOK at uu12
      have bb12 := byI_bd T x12.1
      have jg12 := jgl.kept ha c12 (by decide)
      have mf12_38 := (c12.1 a 11 38 11 0 fsX12 ha rfl (by decide) (by decide)).trans f38
      have mf12_39 := (c12.1 a 11 39 11 0 fsX12 ha rfl (by decide) (by decide)).trans f39
      refine W.eq (g2 := F0 m 313 ls []) rfl ?_
      have hfin : ((sg.1, sg.2.1, ldb g sg.2.2) : uS) = x12 := by rw [hbq]; rw [← hx12]; simp only [lde, if_neg d8] <;> rfl
      have hfh : ldHx g = 0 := by rw [hhq]; simp only [ldh, if_neg d8]
      exact W.vret hx hb hr (fun t ht hW => ⟨rfl, by rw [ht]; exact hh12.l0, by rw [ht]; exact kp12, by rw [ht, hfin]; exact jv12, by rw [ht]; exact jg12, _, _, by rw [ht]; exact mf12_39, by rw [hfh]; omega, by rw [ht]; exact mf12_38, fun _ => hdv⟩) hh12.2.2.1 (eX12_lookAtDate (313, .return_, 1) (List.mem_of_getElem? (i := 173) rfl))
  refine lv_aload_n hx hb (eX12_lookAtDate (5, .aload_n 0, 1) (List.mem_of_getElem? (i := 3) rfl)) rfl (lv_at hl 0 rfl) ?_
  refine ff_iconst hx hb (eX12_lookAtDate (6, .iconst 1, 1) (List.mem_of_getElem? (i := 4) rfl)) (by decide) (by decide) (fun v13 e13 => ?_)
  refine tz_rowV (As := [.int v13]) (st := []) (b := a) (C := RX12) (Ts := gT) hx hb hml hown h2 (fun _ h => h) (hX12_get l D cA ro sz H0 a v13 1 n g h ha hn1 (by omega) (by decide)) ⟨rfl, rfl⟩ ⟨by decide, by decide⟩ ⟨by decide, by decide⟩ (tb_8 94 rfl rfl) (tb_1 12 rfl rfl) (tb_8 91 rfl rfl) (tb_8 93 rfl rfl) (tb_0 47 rfl rfl) (show yX12_get.cls ≠ "java/lang/invoke/MethodHandle" ∧ yX12_get.cls ≠ "java/lang/invoke/VarHandle" ∧ (parseMethodDescriptor yX12_get.desc).map (fun d => d.parameters.length) = some 1 by decide +kernel) zs_blind (zs_ob hh2 ha (show RTg[11]? = some (0, 11, 0, fsX12) from rfl) (zCX12 hKn.1)) (fun U hU hW => ⟨rfl, by rw [hU]; exact hh2.l0, zKb s U hW.alike hKn, by rw [hU]; exact jg2⟩) hh2.2.2.1 hl.1 (Nat.le_of_ble_eq_true rfl) (eX12_lookAtDate (7, .invokevirtual 361, 3) (List.mem_of_getElem? (i := 5) rfl)) (fun r14 s14 t14 lo14 g14 f14 l14 => ?_)
  obtain ⟨z14, v14, q14, e14⟩ := f14
  cases q14
  rw [z14, g14]
  have hh14 : zh_ok D cA RTg ro sz H0 H2 lo14 := ⟨hh2.1, hh2.2.1, l14, hh2.2.2.2⟩
  refine W.eq (g2 := F0 m 10 ls [.long v14]) rfl ?_
  refine ff_l2i hx hb (eX12_lookAtDate (10, .l2i, 1) (List.mem_of_getElem? (i := 6) rfl)) (by omega) (by omega) (fun v15 e15 => ?_)
  refine lv_istore_n hx hb (eX12_lookAtDate (11, .istore_n 1, 1) (List.mem_of_getElem? (i := 7) rfl)) rfl hl (by decide) rfl (fun ls16 hl16 => ?_)
  refine lv_iload_n hx hb (eX12_lookAtDate (12, .iload_n 1, 1) (List.mem_of_getElem? (i := 8) rfl)) rfl (lv_at hl16 0 rfl) ?_
  refine ff_if_ge hx hb (eX12_lookAtDate (13, .ifCond .ge 4, 3) (List.mem_of_getElem? (i := 9) rfl)) (tgt := 17) rfl (fun c17 => ?_) (fun c17 => ?_)
  · skip
    have d18 : ¬ (g 1 < 0) := by omega
    refine lv_aload_n hx hb (eX12_lookAtDate (17, .aload_n 0, 1) (List.mem_of_getElem? (i := 11) rfl)) rfl (lv_at hl16 1 rfl) ?_
    refine ff_iconst hx hb (eX12_lookAtDate (18, .iconst 2, 1) (List.mem_of_getElem? (i := 12) rfl)) (by decide) (by decide) (fun v19 e19 => ?_)
    refine tz_rowV (As := [.int v19]) (st := []) (b := a) (C := RX12) (Ts := gT) hx hb hml hown h2 (fun _ h => h) (hX12_get l D cA ro sz H0 a v19 2 n g h ha hn1 (by omega) (by decide)) ⟨rfl, rfl⟩ ⟨by decide, by decide⟩ ⟨by decide, by decide⟩ (tb_8 94 rfl rfl) (tb_1 12 rfl rfl) (tb_8 91 rfl rfl) (tb_8 93 rfl rfl) (tb_0 47 rfl rfl) (show yX12_get.cls ≠ "java/lang/invoke/MethodHandle" ∧ yX12_get.cls ≠ "java/lang/invoke/VarHandle" ∧ (parseMethodDescriptor yX12_get.desc).map (fun d => d.parameters.length) = some 1 by decide +kernel) zs_blind (zs_ob hh14 ha (show RTg[11]? = some (0, 11, 0, fsX12) from rfl) (zCX12 hKn.1)) (fun U hU hW => ⟨rfl, by rw [hU]; exact hh14.l0, zKb s U hW.alike hKn, by rw [hU]; exact jg2⟩) hh14.2.2.1 hl16.1 (Nat.le_of_ble_eq_true rfl) (eX12_lookAtDate (19, .invokevirtual 361, 3) (List.mem_of_getElem? (i := 13) rfl)) (fun r20 s20 t20 lo20 g20 f20 l20 => ?_)
    obtain ⟨z20, v20, q20, e20⟩ := f20
    cases q20
    rw [z20, g20]
    have hh20 : zh_ok D cA RTg ro sz H0 H2 lo20 := ⟨hh14.1, hh14.2.1, l20, hh14.2.2.2⟩
    refine W.eq (g2 := F0 m 22 ls16 [.long v20]) rfl ?_
    refine lv_lstore_n hx hb (eX12_lookAtDate (22, .lstore_n 2, 1) (List.mem_of_getElem? (i := 14) rfl)) rfl hl16 (by decide) rfl (fun ls21 hl21 => ?_)
    refine lv_aload_n hx hb (eX12_lookAtDate (23, .aload_n 0, 1) (List.mem_of_getElem? (i := 15) rfl)) rfl (lv_at hl21 2 rfl) ?_
    refine ff_iconst hx hb (eX12_lookAtDate (24, .iconst 4, 1) (List.mem_of_getElem? (i := 16) rfl)) (by decide) (by decide) (fun v22 e22 => ?_)
    refine tz_rowV (As := [.int v22]) (st := []) (b := a) (C := RX12) (Ts := gT) hx hb hml hown h2 (fun _ h => h) (hX12_get l D cA ro sz H0 a v22 4 n g h ha hn1 (by omega) (by decide)) ⟨rfl, rfl⟩ ⟨by decide, by decide⟩ ⟨by decide, by decide⟩ (tb_8 94 rfl rfl) (tb_1 12 rfl rfl) (tb_8 91 rfl rfl) (tb_8 93 rfl rfl) (tb_0 47 rfl rfl) (show yX12_get.cls ≠ "java/lang/invoke/MethodHandle" ∧ yX12_get.cls ≠ "java/lang/invoke/VarHandle" ∧ (parseMethodDescriptor yX12_get.desc).map (fun d => d.parameters.length) = some 1 by decide +kernel) zs_blind (zs_ob hh20 ha (show RTg[11]? = some (0, 11, 0, fsX12) from rfl) (zCX12 hKn.1)) (fun U hU hW => ⟨rfl, by rw [hU]; exact hh20.l0, zKb s U hW.alike hKn, by rw [hU]; exact jg2⟩) hh20.2.2.1 hl21.1 (Nat.le_of_ble_eq_true rfl) (eX12_lookAtDate (25, .invokevirtual 361, 3) (List.mem_of_getElem? (i := 17) rfl)) (fun r23 s23 t23 lo23 g23 f23 l23 => ?_)
    obtain ⟨z23, v23, q23, e23⟩ := f23
    cases q23
    rw [z23, g23]
    have hh23 : zh_ok D cA RTg ro sz H0 H2 lo23 := ⟨hh20.1, hh20.2.1, l23, hh20.2.2.2⟩
    refine W.eq (g2 := F0 m 28 ls21 [.long v23]) rfl ?_
    refine ff_l2i hx hb (eX12_lookAtDate (28, .l2i, 1) (List.mem_of_getElem? (i := 18) rfl)) (by omega) (by omega) (fun v24 e24 => ?_)
    refine lv_istore hx hb (eX12_lookAtDate (29, .istore 4, 2) (List.mem_of_getElem? (i := 19) rfl)) hl21 (by decide) rfl (fun ls25 hl25 => ?_)
    refine lv_aload_n hx hb (eX12_lookAtDate (31, .aload_n 0, 1) (List.mem_of_getElem? (i := 20) rfl)) rfl (lv_at hl25 3 rfl) ?_
    refine ff_bipush hx hb (eX12_lookAtDate (32, .bipush 6, 2) (List.mem_of_getElem? (i := 21) rfl)) (by decide) (by decide) (fun v26 e26 => ?_)
    refine tz_rowV (As := [.int v26]) (st := []) (b := a) (C := RX12) (Ts := gT) hx hb hml hown h2 (fun _ h => h) (hX12_get l D cA ro sz H0 a v26 6 n g h ha hn1 (by omega) (by decide)) ⟨rfl, rfl⟩ ⟨by decide, by decide⟩ ⟨by decide, by decide⟩ (tb_8 94 rfl rfl) (tb_1 12 rfl rfl) (tb_8 91 rfl rfl) (tb_8 93 rfl rfl) (tb_0 47 rfl rfl) (show yX12_get.cls ≠ "java/lang/invoke/MethodHandle" ∧ yX12_get.cls ≠ "java/lang/invoke/VarHandle" ∧ (parseMethodDescriptor yX12_get.desc).map (fun d => d.parameters.length) = some 1 by decide +kernel) zs_blind (zs_ob hh23 ha (show RTg[11]? = some (0, 11, 0, fsX12) from rfl) (zCX12 hKn.1)) (fun U hU hW => ⟨rfl, by rw [hU]; exact hh23.l0, zKb s U hW.alike hKn, by rw [hU]; exact jg2⟩) hh23.2.2.1 hl25.1 (Nat.le_of_ble_eq_true rfl) (eX12_lookAtDate (34, .invokevirtual 361, 3) (List.mem_of_getElem? (i := 22) rfl)) (fun r27 s27 t27 lo27 g27 f27 l27 => ?_)
    obtain ⟨z27, v27, q27, e27⟩ := f27
    cases q27
    rw [z27, g27]
    have hh27 : zh_ok D cA RTg ro sz H0 H2 lo27 := ⟨hh23.1, hh23.2.1, l27, hh23.2.2.2⟩
    refine W.eq (g2 := F0 m 37 ls25 [.long v27]) rfl ?_
    refine ff_l2i hx hb (eX12_lookAtDate (37, .l2i, 1) (List.mem_of_getElem? (i := 23) rfl)) (by omega) (by omega) (fun v28 e28 => ?_)
    refine lv_istore hx hb (eX12_lookAtDate (38, .istore 5, 2) (List.mem_of_getElem? (i := 24) rfl)) hl25 (by decide) rfl (fun ls29 hl29 => ?_)
    refine lv_aload_n hx hb (eX12_lookAtDate (40, .aload_n 0, 1) (List.mem_of_getElem? (i := 25) rfl)) rfl (lv_at hl29 4 rfl) ?_
    refine ff_iconst hx hb (eX12_lookAtDate (41, .iconst 5, 1) (List.mem_of_getElem? (i := 26) rfl)) (by decide) (by decide) (fun v30 e30 => ?_)
    refine tz_rowV (As := [.int v30]) (st := []) (b := a) (C := RX12) (Ts := gT) hx hb hml hown h2 (fun _ h => h) (hX12_get l D cA ro sz H0 a v30 5 n g h ha hn1 (by omega) (by decide)) ⟨rfl, rfl⟩ ⟨by decide, by decide⟩ ⟨by decide, by decide⟩ (tb_8 94 rfl rfl) (tb_1 12 rfl rfl) (tb_8 91 rfl rfl) (tb_8 93 rfl rfl) (tb_0 47 rfl rfl) (show yX12_get.cls ≠ "java/lang/invoke/MethodHandle" ∧ yX12_get.cls ≠ "java/lang/invoke/VarHandle" ∧ (parseMethodDescriptor yX12_get.desc).map (fun d => d.parameters.length) = some 1 by decide +kernel) zs_blind (zs_ob hh27 ha (show RTg[11]? = some (0, 11, 0, fsX12) from rfl) (zCX12 hKn.1)) (fun U hU hW => ⟨rfl, by rw [hU]; exact hh27.l0, zKb s U hW.alike hKn, by rw [hU]; exact jg2⟩) hh27.2.2.1 hl29.1 (Nat.le_of_ble_eq_true rfl) (eX12_lookAtDate (42, .invokevirtual 361, 3) (List.mem_of_getElem? (i := 27) rfl)) (fun r31 s31 t31 lo31 g31 f31 l31 => ?_)
    obtain ⟨z31, v31, q31, e31⟩ := f31
    cases q31
    rw [z31, g31]
    have hh31 : zh_ok D cA RTg ro sz H0 H2 lo31 := ⟨hh27.1, hh27.2.1, l31, hh27.2.2.2⟩
    refine W.eq (g2 := F0 m 45 ls29 [.long v31]) rfl ?_
    refine ff_l2i hx hb (eX12_lookAtDate (45, .l2i, 1) (List.mem_of_getElem? (i := 28) rfl)) (by omega) (by omega) (fun v32 e32 => ?_)
    refine lv_istore hx hb (eX12_lookAtDate (46, .istore 6, 2) (List.mem_of_getElem? (i := 29) rfl)) hl29 (by decide) rfl (fun ls33 hl33 => ?_)
    refine lv_aload_n hx hb (eX12_lookAtDate (48, .aload_n 0, 1) (List.mem_of_getElem? (i := 30) rfl)) rfl (lv_at hl33 5 rfl) ?_
    refine ff_bipush hx hb (eX12_lookAtDate (49, .bipush 7, 2) (List.mem_of_getElem? (i := 31) rfl)) (by decide) (by decide) (fun v34 e34 => ?_)
    refine tz_rowV (As := [.int v34]) (st := []) (b := a) (C := RX12) (Ts := gT) hx hb hml hown h2 (fun _ h => h) (hX12_get l D cA ro sz H0 a v34 7 n g h ha hn1 (by omega) (by decide)) ⟨rfl, rfl⟩ ⟨by decide, by decide⟩ ⟨by decide, by decide⟩ (tb_8 94 rfl rfl) (tb_1 12 rfl rfl) (tb_8 91 rfl rfl) (tb_8 93 rfl rfl) (tb_0 47 rfl rfl) (show yX12_get.cls ≠ "java/lang/invoke/MethodHandle" ∧ yX12_get.cls ≠ "java/lang/invoke/VarHandle" ∧ (parseMethodDescriptor yX12_get.desc).map (fun d => d.parameters.length) = some 1 by decide +kernel) zs_blind (zs_ob hh31 ha (show RTg[11]? = some (0, 11, 0, fsX12) from rfl) (zCX12 hKn.1)) (fun U hU hW => ⟨rfl, by rw [hU]; exact hh31.l0, zKb s U hW.alike hKn, by rw [hU]; exact jg2⟩) hh31.2.2.1 hl33.1 (Nat.le_of_ble_eq_true rfl) (eX12_lookAtDate (51, .invokevirtual 361, 3) (List.mem_of_getElem? (i := 32) rfl)) (fun r35 s35 t35 lo35 g35 f35 l35 => ?_)
    obtain ⟨z35, v35, q35, e35⟩ := f35
    cases q35
    rw [z35, g35]
    have hh35 : zh_ok D cA RTg ro sz H0 H2 lo35 := ⟨hh31.1, hh31.2.1, l35, hh31.2.2.2⟩
    refine W.eq (g2 := F0 m 54 ls33 [.long v35]) rfl ?_
    refine ff_l2i hx hb (eX12_lookAtDate (54, .l2i, 1) (List.mem_of_getElem? (i := 33) rfl)) (by omega) (by omega) (fun v36 e36 => ?_)
    refine lv_istore hx hb (eX12_lookAtDate (55, .istore 7, 2) (List.mem_of_getElem? (i := 34) rfl)) hl33 (by decide) rfl (fun ls37 hl37 => ?_)
    refine lv_iload_n hx hb (eX12_lookAtDate (57, .iload_n 1, 1) (List.mem_of_getElem? (i := 35) rfl)) rfl (lv_at hl37 5 rfl) ?_
    refine ff_if_eq hx hb (eX12_lookAtDate (58, .ifCond .eq 8, 3) (List.mem_of_getElem? (i := 36) rfl)) (tgt := 66) rfl (fun c38 => ?_) (fun c38 => ?_)
    · skip
      have d39 : g 1 = 0 ∨ g 1 = 4 := by omega
      refine lv_iload hx hb (eX12_lookAtDate (66, .iload 4, 2) (List.mem_of_getElem? (i := 40) rfl)) (lv_at hl37 3 rfl) ?_
      refine ff_i2l hx hb (eX12_lookAtDate (68, .i2l, 1) (List.mem_of_getElem? (i := 41) rfl)) (fun v40 e40 => ?_)
      refine ff_lconst hx hb (eX12_lookAtDate (69, .lconst 1, 1) (List.mem_of_getElem? (i := 42) rfl)) rfl (fun v41 e41 => ?_)
      refine ff_ldc2 (n := 12) hx hb hown h2 (clX12_ok 153 12 (List.mem_of_getElem? (i := 17) rfl)) (eX12_lookAtDate (70, .ldc2_w 153, 3) (List.mem_of_getElem? (i := 43) rfl)) (fun v42 e42 => ?_)
      refine zu_S (vs := [.long v40, .long v41, .long v42]) (rest := []) hx hb hml hown hts0 zu_BT (hX12_isIn l v40 v41 v42) ⟨rfl, rfl⟩ ⟨by decide, by decide⟩ ⟨by decide, by decide⟩ (tb_7 47 rfl rfl) (tb_1 12 rfl rfl) (tb_7 45 rfl rfl) (tb_7 46 rfl rfl) (show yX12_isIn.cls ≠ "java/lang/invoke/MethodHandle" ∧ yX12_isIn.cls ≠ "java/lang/invoke/VarHandle" ∧ (parseMethodDescriptor yX12_isIn.desc).map (fun d => d.parameters.length) = some 3 by decide +kernel) rfl (fun _ _ _ => trivial) hl37.1 (Nat.le_of_ble_eq_true rfl) (eX12_lookAtDate (73, .invokestatic 130, 3) (List.mem_of_getElem? (i := 44) rfl)) (fun w43 f43 => ?_)
      obtain ⟨v43, rfl, e43⟩ := f43
      refine ff_if_ne hx hb (eX12_lookAtDate (76, .ifCond .ne 10, 3) (List.mem_of_getElem? (i := 45) rfl)) (tgt := 86) rfl (fun c44 => ?_) (fun c44 => ?_)
      · skip
        have d45 : ¬ ¬ (1 ≤ g 4 ∧ g 4 ≤ 12) := by omega
        refine lv_iload_n hx hb (eX12_lookAtDate (86, .iload_n 1, 1) (List.mem_of_getElem? (i := 50) rfl)) rfl (lv_at hl37 5 rfl) ?_
        refine ff_if_ne hx hb (eX12_lookAtDate (87, .ifCond .ne 27, 3) (List.mem_of_getElem? (i := 51) rfl)) (tgt := 114) rfl (fun c46 => ?_) (fun c46 => ?_)
        · skip
          have d47 : ¬ (g 1 = 0 ∧ ¬ (1 ≤ g 6 ∧ g 6 ≤ mlI (g 2) (g 4))) := by omega
          refine lv_aload_n hx hb (eX12_lookAtDate (114, .aload_n 0, 1) (List.mem_of_getElem? (i := 65) rfl)) rfl (lv_at hl37 6 rfl) ?_
          refine lv_lload_n hx hb (eX12_lookAtDate (115, .lload_n 2, 1) (List.mem_of_getElem? (i := 66) rfl)) rfl (lv_at hl37 4 rfl) ?_
          refine lv_iload hx hb (eX12_lookAtDate (116, .iload 4, 2) (List.mem_of_getElem? (i := 67) rfl)) (lv_at hl37 3 rfl) ?_
          refine lv_iload_n hx hb (eX12_lookAtDate (118, .iload_n 1, 1) (List.mem_of_getElem? (i := 68) rfl)) rfl (lv_at hl37 5 rfl) ?_
          refine ff_if_ne hx hb (eX12_lookAtDate (119, .ifCond .ne 8, 3) (List.mem_of_getElem? (i := 69) rfl)) (tgt := 127) rfl (fun c48 => ?_) (fun c48 => ?_)
          · skip
            refine ff_iconst hx hb (eX12_lookAtDate (127, .iconst 1, 1) (List.mem_of_getElem? (i := 72) rfl)) (by decide) (by decide) (fun v49 e49 => ?_)
            refine zu_S (vs := [.long v20, .int v24, .int v49]) (rest := [.ref a]) hx hb hml hown hts0 zu_BT (hX12_dayOfW l v20 v24 v49 (by omega) (by omega) (by omega) (by omega) (by omega) (by omega)) ⟨rfl, rfl⟩ ⟨by decide, by decide⟩ ⟨by decide, by decide⟩ (tb_6 135 rfl rfl) (tb_1 12 rfl rfl) (tb_6 133 rfl rfl) (tb_6 134 rfl rfl) (show yX12_dayOf.cls ≠ "java/lang/invoke/MethodHandle" ∧ yX12_dayOf.cls ≠ "java/lang/invoke/VarHandle" ∧ (parseMethodDescriptor yX12_dayOf.desc).map (fun d => d.parameters.length) = some 3 by decide +kernel) rfl (fun _ _ _ => trivial) hl37.1 (Nat.le_of_ble_eq_true rfl) (eX12_lookAtDate (128, .invokestatic 70, 3) (List.mem_of_getElem? (i := 73) rfl)) (fun w50 f50 => ?_)
            obtain ⟨v50, rfl, e50⟩ := f50
            have g50 := (show v50.toInt = nuI (g 2) (g 4) 1 by rw [e50, show v20.toInt = g 2 by omega, show v24.toInt = (g 4) by omega, show v49.toInt = 1 by omega])
            have hld : v50.toInt = ldD g := by unfold ldD; rw [if_pos (show g 1 = 0 ∨ g 1 = 4 by omega)]; first | (rw [if_pos (show g 1 = 0 by omega)]; omega) | (rw [if_neg (show ¬ g 1 = 0 by omega)]; omega)
            refine tz_put (r := 11) (k := 38) (t := (1, (-9223372036854775808), 9223372036854775807)) hx hb hD hh35 ha rfl rfl ((hcl11 407 38 (1, (-9223372036854775808), 9223372036854775807) (by decide) rfl).2 (by decide)) (tz_l (zn_i64 _).1 (zn_i64 _).2) (eX12_lookAtDate (131, .putfield 407, 3) (List.mem_of_getElem? (i := 74) rfl)) (fun H51 lo51 hh51 hf51 hk51 _ hq51 => ?_)
            have mf51_a_39 := (hk51.1 a 11 39 11 0 fsX12 ha rfl (by decide) (by decide)).trans hf2
            have kp51 := kp2.trans (hk51.mono (ms' := lkM) (fun x hx => by cases List.mem_singleton.mp hx; decide))
            have jv51 := jv2.kept ha hk51 (by decide)
            have jg51 := jg2.kept ha hk51 (by decide)
            refine lv_goto hx hb (eX12_lookAtDate (134, .goto 158, 3) (List.mem_of_getElem? (i := 75) rfl)) (tgt := 292) rfl ?_
            exact jn292 v50 v1 ls37 _ _ hh51 kp51 jv51 jg51 hf51 mf51_a_39 (by omega) hld (by first | (simp only [ldb, if_neg d18, if_pos d39, if_neg d45, if_neg d47, up_eq]; done) | (simp only [ldb, if_neg d18, if_pos d39, if_neg d45, if_neg d47, up_eq] <;> rfl) | rfl) (by first | (simp only [ldHx, if_neg d18, if_pos d39, if_neg d45, if_neg d47, up_eq]; done) | (simp only [ldHx, if_neg d18, if_pos d39, if_neg d45, if_neg d47, up_eq] <;> rfl) | rfl) (lv_sub hl37 [6] rfl)
          · skip
            refine lv_iload hx hb (eX12_lookAtDate (122, .iload 5, 2) (List.mem_of_getElem? (i := 70) rfl)) (lv_at hl37 2 rfl) ?_
            refine lv_goto hx hb (eX12_lookAtDate (124, .goto 4, 3) (List.mem_of_getElem? (i := 71) rfl)) (tgt := 128) rfl ?_
            refine zu_S (vs := [.long v20, .int v24, .int v28]) (rest := [.ref a]) hx hb hml hown hts0 zu_BT (hX12_dayOfW l v20 v24 v28 (by omega) (by omega) (by omega) (by omega) (by omega) (by omega)) ⟨rfl, rfl⟩ ⟨by decide, by decide⟩ ⟨by decide, by decide⟩ (tb_6 135 rfl rfl) (tb_1 12 rfl rfl) (tb_6 133 rfl rfl) (tb_6 134 rfl rfl) (show yX12_dayOf.cls ≠ "java/lang/invoke/MethodHandle" ∧ yX12_dayOf.cls ≠ "java/lang/invoke/VarHandle" ∧ (parseMethodDescriptor yX12_dayOf.desc).map (fun d => d.parameters.length) = some 3 by decide +kernel) rfl (fun _ _ _ => trivial) hl37.1 (Nat.le_of_ble_eq_true rfl) (eX12_lookAtDate (128, .invokestatic 70, 3) (List.mem_of_getElem? (i := 73) rfl)) (fun w52 f52 => ?_)
            obtain ⟨v52, rfl, e52⟩ := f52
            have g52 := (show v52.toInt = nuI (g 2) (g 4) (g 6) by rw [e52, show v20.toInt = g 2 by omega, show v24.toInt = (g 4) by omega, show v28.toInt = (g 6) by omega])
            have hld : v52.toInt = ldD g := by unfold ldD; rw [if_pos (show g 1 = 0 ∨ g 1 = 4 by omega)]; first | (rw [if_pos (show g 1 = 0 by omega)]; omega) | (rw [if_neg (show ¬ g 1 = 0 by omega)]; omega)
            refine tz_put (r := 11) (k := 38) (t := (1, (-9223372036854775808), 9223372036854775807)) hx hb hD hh35 ha rfl rfl ((hcl11 407 38 (1, (-9223372036854775808), 9223372036854775807) (by decide) rfl).2 (by decide)) (tz_l (zn_i64 _).1 (zn_i64 _).2) (eX12_lookAtDate (131, .putfield 407, 3) (List.mem_of_getElem? (i := 74) rfl)) (fun H53 lo53 hh53 hf53 hk53 _ hq53 => ?_)
            have mf53_a_39 := (hk53.1 a 11 39 11 0 fsX12 ha rfl (by decide) (by decide)).trans hf2
            have kp53 := kp2.trans (hk53.mono (ms' := lkM) (fun x hx => by cases List.mem_singleton.mp hx; decide))
            have jv53 := jv2.kept ha hk53 (by decide)
            have jg53 := jg2.kept ha hk53 (by decide)
            refine lv_goto hx hb (eX12_lookAtDate (134, .goto 158, 3) (List.mem_of_getElem? (i := 75) rfl)) (tgt := 292) rfl ?_
            exact jn292 v52 v1 ls37 _ _ hh53 kp53 jv53 jg53 hf53 mf53_a_39 (by omega) hld (by first | (simp only [ldb, if_neg d18, if_pos d39, if_neg d45, if_neg d47, up_eq]; done) | (simp only [ldb, if_neg d18, if_pos d39, if_neg d45, if_neg d47, up_eq] <;> rfl) | rfl) (by first | (simp only [ldHx, if_neg d18, if_pos d39, if_neg d45, if_neg d47, up_eq]; done) | (simp only [ldHx, if_neg d18, if_pos d39, if_neg d45, if_neg d47, up_eq] <;> rfl) | rfl) (lv_sub hl37 [6] rfl)
        · skip
          refine lv_iload hx hb (eX12_lookAtDate (90, .iload 5, 2) (List.mem_of_getElem? (i := 52) rfl)) (lv_at hl37 2 rfl) ?_
          refine ff_i2l hx hb (eX12_lookAtDate (92, .i2l, 1) (List.mem_of_getElem? (i := 53) rfl)) (fun v54 e54 => ?_)
          refine ff_lconst hx hb (eX12_lookAtDate (93, .lconst 1, 1) (List.mem_of_getElem? (i := 54) rfl)) rfl (fun v55 e55 => ?_)
          refine lv_lload_n hx hb (eX12_lookAtDate (94, .lload_n 2, 1) (List.mem_of_getElem? (i := 55) rfl)) rfl (lv_at hl37 4 rfl) ?_
          refine lv_iload hx hb (eX12_lookAtDate (95, .iload 4, 2) (List.mem_of_getElem? (i := 56) rfl)) (lv_at hl37 3 rfl) ?_
          refine zu_S (vs := [.long v20, .int v24]) (rest := [.long v55, .long v54]) hx hb hml hown hts0 zu_BT (hX12_daysOf l v20 v24 (by omega) (by omega)) ⟨rfl, rfl⟩ ⟨by decide, by decide⟩ ⟨by decide, by decide⟩ (tb_7 51 rfl rfl) (tb_1 12 rfl rfl) (tb_7 49 rfl rfl) (tb_7 50 rfl rfl) (show yX12_daysOf.cls ≠ "java/lang/invoke/MethodHandle" ∧ yX12_daysOf.cls ≠ "java/lang/invoke/VarHandle" ∧ (parseMethodDescriptor yX12_daysOf.desc).map (fun d => d.parameters.length) = some 2 by decide +kernel) rfl (fun _ _ _ => trivial) hl37.1 (Nat.le_of_ble_eq_true rfl) (eX12_lookAtDate (97, .invokestatic 155, 3) (List.mem_of_getElem? (i := 57) rfl)) (fun w56 f56 => ?_)
          obtain ⟨v56, rfl, e56⟩ := f56
          have g56 := (show v56.toInt = mlI (g 2) (g 4) by rw [e56, show v20.toInt = g 2 by omega, show v24.toInt = g 4 by omega])
          refine ff_i2l hx hb (eX12_lookAtDate (100, .i2l, 1) (List.mem_of_getElem? (i := 58) rfl)) (fun v57 e57 => ?_)
          refine zu_S (vs := [.long v54, .long v55, .long v57]) (rest := []) hx hb hml hown hts0 zu_BT (hX12_isIn l v54 v55 v57) ⟨rfl, rfl⟩ ⟨by decide, by decide⟩ ⟨by decide, by decide⟩ (tb_7 47 rfl rfl) (tb_1 12 rfl rfl) (tb_7 45 rfl rfl) (tb_7 46 rfl rfl) (show yX12_isIn.cls ≠ "java/lang/invoke/MethodHandle" ∧ yX12_isIn.cls ≠ "java/lang/invoke/VarHandle" ∧ (parseMethodDescriptor yX12_isIn.desc).map (fun d => d.parameters.length) = some 3 by decide +kernel) rfl (fun _ _ _ => trivial) hl37.1 (Nat.le_of_ble_eq_true rfl) (eX12_lookAtDate (101, .invokestatic 130, 3) (List.mem_of_getElem? (i := 59) rfl)) (fun w58 f58 => ?_)
          obtain ⟨v58, rfl, e58⟩ := f58
          refine ff_if_ne hx hb (eX12_lookAtDate (104, .ifCond .ne 10, 3) (List.mem_of_getElem? (i := 60) rfl)) (tgt := 114) rfl (fun c59 => ?_) (fun c59 => ?_)
          · skip
            have d60 : ¬ (g 1 = 0 ∧ ¬ (1 ≤ g 6 ∧ g 6 ≤ mlI (g 2) (g 4))) := by omega
            refine lv_aload_n hx hb (eX12_lookAtDate (114, .aload_n 0, 1) (List.mem_of_getElem? (i := 65) rfl)) rfl (lv_at hl37 6 rfl) ?_
            refine lv_lload_n hx hb (eX12_lookAtDate (115, .lload_n 2, 1) (List.mem_of_getElem? (i := 66) rfl)) rfl (lv_at hl37 4 rfl) ?_
            refine lv_iload hx hb (eX12_lookAtDate (116, .iload 4, 2) (List.mem_of_getElem? (i := 67) rfl)) (lv_at hl37 3 rfl) ?_
            refine lv_iload_n hx hb (eX12_lookAtDate (118, .iload_n 1, 1) (List.mem_of_getElem? (i := 68) rfl)) rfl (lv_at hl37 5 rfl) ?_
            refine ff_if_ne hx hb (eX12_lookAtDate (119, .ifCond .ne 8, 3) (List.mem_of_getElem? (i := 69) rfl)) (tgt := 127) rfl (fun c61 => ?_) (fun c61 => ?_)
            · skip
              refine ff_iconst hx hb (eX12_lookAtDate (127, .iconst 1, 1) (List.mem_of_getElem? (i := 72) rfl)) (by decide) (by decide) (fun v62 e62 => ?_)
              refine zu_S (vs := [.long v20, .int v24, .int v62]) (rest := [.ref a]) hx hb hml hown hts0 zu_BT (hX12_dayOfW l v20 v24 v62 (by omega) (by omega) (by omega) (by omega) (by omega) (by omega)) ⟨rfl, rfl⟩ ⟨by decide, by decide⟩ ⟨by decide, by decide⟩ (tb_6 135 rfl rfl) (tb_1 12 rfl rfl) (tb_6 133 rfl rfl) (tb_6 134 rfl rfl) (show yX12_dayOf.cls ≠ "java/lang/invoke/MethodHandle" ∧ yX12_dayOf.cls ≠ "java/lang/invoke/VarHandle" ∧ (parseMethodDescriptor yX12_dayOf.desc).map (fun d => d.parameters.length) = some 3 by decide +kernel) rfl (fun _ _ _ => trivial) hl37.1 (Nat.le_of_ble_eq_true rfl) (eX12_lookAtDate (128, .invokestatic 70, 3) (List.mem_of_getElem? (i := 73) rfl)) (fun w63 f63 => ?_)
              obtain ⟨v63, rfl, e63⟩ := f63
              have g63 := (show v63.toInt = nuI (g 2) (g 4) 1 by rw [e63, show v20.toInt = g 2 by omega, show v24.toInt = (g 4) by omega, show v62.toInt = 1 by omega])
              have hld : v63.toInt = ldD g := by unfold ldD; rw [if_pos (show g 1 = 0 ∨ g 1 = 4 by omega)]; first | (rw [if_pos (show g 1 = 0 by omega)]; omega) | (rw [if_neg (show ¬ g 1 = 0 by omega)]; omega)
              refine tz_put (r := 11) (k := 38) (t := (1, (-9223372036854775808), 9223372036854775807)) hx hb hD hh35 ha rfl rfl ((hcl11 407 38 (1, (-9223372036854775808), 9223372036854775807) (by decide) rfl).2 (by decide)) (tz_l (zn_i64 _).1 (zn_i64 _).2) (eX12_lookAtDate (131, .putfield 407, 3) (List.mem_of_getElem? (i := 74) rfl)) (fun H64 lo64 hh64 hf64 hk64 _ hq64 => ?_)
              have mf64_a_39 := (hk64.1 a 11 39 11 0 fsX12 ha rfl (by decide) (by decide)).trans hf2
              have kp64 := kp2.trans (hk64.mono (ms' := lkM) (fun x hx => by cases List.mem_singleton.mp hx; decide))
              have jv64 := jv2.kept ha hk64 (by decide)
              have jg64 := jg2.kept ha hk64 (by decide)
              refine lv_goto hx hb (eX12_lookAtDate (134, .goto 158, 3) (List.mem_of_getElem? (i := 75) rfl)) (tgt := 292) rfl ?_
              exact jn292 v63 v1 ls37 _ _ hh64 kp64 jv64 jg64 hf64 mf64_a_39 (by omega) hld (by first | (simp only [ldb, if_neg d18, if_pos d39, if_neg d45, if_neg d60, up_eq]; done) | (simp only [ldb, if_neg d18, if_pos d39, if_neg d45, if_neg d60, up_eq] <;> rfl) | rfl) (by first | (simp only [ldHx, if_neg d18, if_pos d39, if_neg d45, if_neg d60, up_eq]; done) | (simp only [ldHx, if_neg d18, if_pos d39, if_neg d45, if_neg d60, up_eq] <;> rfl) | rfl) (lv_sub hl37 [6] rfl)
            · skip
              refine lv_iload hx hb (eX12_lookAtDate (122, .iload 5, 2) (List.mem_of_getElem? (i := 70) rfl)) (lv_at hl37 2 rfl) ?_
              refine lv_goto hx hb (eX12_lookAtDate (124, .goto 4, 3) (List.mem_of_getElem? (i := 71) rfl)) (tgt := 128) rfl ?_
              refine zu_S (vs := [.long v20, .int v24, .int v28]) (rest := [.ref a]) hx hb hml hown hts0 zu_BT (hX12_dayOfW l v20 v24 v28 (by omega) (by omega) (by omega) (by omega) (by omega) (by omega)) ⟨rfl, rfl⟩ ⟨by decide, by decide⟩ ⟨by decide, by decide⟩ (tb_6 135 rfl rfl) (tb_1 12 rfl rfl) (tb_6 133 rfl rfl) (tb_6 134 rfl rfl) (show yX12_dayOf.cls ≠ "java/lang/invoke/MethodHandle" ∧ yX12_dayOf.cls ≠ "java/lang/invoke/VarHandle" ∧ (parseMethodDescriptor yX12_dayOf.desc).map (fun d => d.parameters.length) = some 3 by decide +kernel) rfl (fun _ _ _ => trivial) hl37.1 (Nat.le_of_ble_eq_true rfl) (eX12_lookAtDate (128, .invokestatic 70, 3) (List.mem_of_getElem? (i := 73) rfl)) (fun w65 f65 => ?_)
              obtain ⟨v65, rfl, e65⟩ := f65
              have g65 := (show v65.toInt = nuI (g 2) (g 4) (g 6) by rw [e65, show v20.toInt = g 2 by omega, show v24.toInt = (g 4) by omega, show v28.toInt = (g 6) by omega])
              have hld : v65.toInt = ldD g := by unfold ldD; rw [if_pos (show g 1 = 0 ∨ g 1 = 4 by omega)]; first | (rw [if_pos (show g 1 = 0 by omega)]; omega) | (rw [if_neg (show ¬ g 1 = 0 by omega)]; omega)
              refine tz_put (r := 11) (k := 38) (t := (1, (-9223372036854775808), 9223372036854775807)) hx hb hD hh35 ha rfl rfl ((hcl11 407 38 (1, (-9223372036854775808), 9223372036854775807) (by decide) rfl).2 (by decide)) (tz_l (zn_i64 _).1 (zn_i64 _).2) (eX12_lookAtDate (131, .putfield 407, 3) (List.mem_of_getElem? (i := 74) rfl)) (fun H66 lo66 hh66 hf66 hk66 _ hq66 => ?_)
              have mf66_a_39 := (hk66.1 a 11 39 11 0 fsX12 ha rfl (by decide) (by decide)).trans hf2
              have kp66 := kp2.trans (hk66.mono (ms' := lkM) (fun x hx => by cases List.mem_singleton.mp hx; decide))
              have jv66 := jv2.kept ha hk66 (by decide)
              have jg66 := jg2.kept ha hk66 (by decide)
              refine lv_goto hx hb (eX12_lookAtDate (134, .goto 158, 3) (List.mem_of_getElem? (i := 75) rfl)) (tgt := 292) rfl ?_
              exact jn292 v65 v1 ls37 _ _ hh66 kp66 jv66 jg66 hf66 mf66_a_39 (by omega) hld (by first | (simp only [ldb, if_neg d18, if_pos d39, if_neg d45, if_neg d60, up_eq]; done) | (simp only [ldb, if_neg d18, if_pos d39, if_neg d45, if_neg d60, up_eq] <;> rfl) | rfl) (by first | (simp only [ldHx, if_neg d18, if_pos d39, if_neg d45, if_neg d60, up_eq]; done) | (simp only [ldHx, if_neg d18, if_pos d39, if_neg d45, if_neg d60, up_eq] <;> rfl) | rfl) (lv_sub hl37 [6] rfl)
          · skip
            have d67 : g 1 = 0 ∧ ¬ (1 ≤ g 6 ∧ g 6 ≤ mlI (g 2) (g 4)) := by omega
            refine lv_aload_n hx hb (eX12_lookAtDate (107, .aload_n 0, 1) (List.mem_of_getElem? (i := 61) rfl)) rfl (lv_at hl37 6 rfl) ?_
            refine lv_iload hx hb (eX12_lookAtDate (108, .iload 7, 2) (List.mem_of_getElem? (i := 62) rfl)) (lv_at hl37 0 rfl) ?_
            refine tz_rowV (As := [.int v36]) (st := []) (b := a) (C := RX12) (Ts := gT) hx hb hml hown h2 (fun _ h => h) (hX12_bad l D cA ro sz H0 a v36 (g 7) T (sg) ha (by omega)) ⟨rfl, rfl⟩ ⟨by decide, by decide⟩ ⟨by decide, by decide⟩ (tb_8 47 rfl rfl) (tb_1 12 rfl rfl) (tb_8 44 rfl rfl) (tb_8 46 rfl rfl) (tb_0 37 rfl rfl) (show yX12_bad.cls ≠ "java/lang/invoke/MethodHandle" ∧ yX12_bad.cls ≠ "java/lang/invoke/VarHandle" ∧ (parseMethodDescriptor yX12_bad.desc).map (fun d => d.parameters.length) = some 1 by decide +kernel) zs_blind (zs_ob hh35 ha (show RTg[11]? = some (0, 11, 0, fsX12) from rfl) (zCX12 hKn.1)) (fun U hU hW => ⟨rfl, by rw [hU]; exact hh35.l0, zKb s U hW.alike hKn, by rw [hU]; exact jv2⟩) hh35.2.2.1 hl37.1 (Nat.le_of_ble_eq_true rfl) (eX12_lookAtDate (110, .invokevirtual 335, 3) (List.mem_of_getElem? (i := 63) rfl)) (fun r68 s68 t68 lo68 g68 f68 l68 => ?_)
            obtain ⟨q68, z68, c68, jv68⟩ := f68
            cases q68
            rw [g68] at c68
            have hh68 : zh_ok D cA RTg ro sz H0 t68.heap lo68 := ⟨z68.1, z68.2.1, l68, z68.2.2.2⟩
            have kp68 := kp2.trans (c68.mono (ms' := lkM) (by decide))
            generalize hx68 : bdG (g 7) sg = x68 at jv68
            have uu68 := jv68.2.2
            unfold vOK at uu68
            have bb68 := byI_bd T x68.1
            have jg68 := jg2.kept ha c68 (by decide)
            have mf68_39 := (c68.1 a 11 39 11 0 fsX12 ha rfl (by decide) (by decide)).trans hf2
            refine W.eq (g2 := F0 m 113 ls37 []) rfl ?_
            have hfin : ((sg.1, sg.2.1, ldb g sg.2.2) : uS) = x68 := by rw [← hx68]; simp only [ldb, if_neg d18, if_pos d39, if_neg d45, if_pos d67] <;> rfl
            have hfh : ldHx g = 0 := by simp only [ldHx, if_neg d18, if_pos d39, if_neg d45, if_pos d67]
            obtain ⟨dv0, fd0, -, -⟩ := zh_fT (k := 38) (t := (1, (-9223372036854775808), 9223372036854775807)) hh68 ha (show RTg[11]? = some (0, 11, 0, fsX12) from rfl) rfl
            exact W.vret hx hb hr (fun t ht hW => ⟨rfl, by rw [ht]; exact hh68.l0, by rw [ht]; exact kp68, by rw [ht, hfin]; exact jv68, by rw [ht]; exact jg68, _, _, by rw [ht]; exact mf68_39, by rw [hfh]; omega, by rw [ht]; exact fd0, fun q9 => by omega⟩) hh68.2.2.1 (eX12_lookAtDate (113, .return_, 1) (List.mem_of_getElem? (i := 64) rfl))
      · skip
        have d69 : ¬ (1 ≤ g 4 ∧ g 4 ≤ 12) := by omega
        refine lv_aload_n hx hb (eX12_lookAtDate (79, .aload_n 0, 1) (List.mem_of_getElem? (i := 46) rfl)) rfl (lv_at hl37 6 rfl) ?_
        refine lv_iload hx hb (eX12_lookAtDate (80, .iload 6, 2) (List.mem_of_getElem? (i := 47) rfl)) (lv_at hl37 1 rfl) ?_
        refine tz_rowV (As := [.int v32]) (st := []) (b := a) (C := RX12) (Ts := gT) hx hb hml hown h2 (fun _ h => h) (hX12_bad l D cA ro sz H0 a v32 (g 5) T (sg) ha (by omega)) ⟨rfl, rfl⟩ ⟨by decide, by decide⟩ ⟨by decide, by decide⟩ (tb_8 47 rfl rfl) (tb_1 12 rfl rfl) (tb_8 44 rfl rfl) (tb_8 46 rfl rfl) (tb_0 37 rfl rfl) (show yX12_bad.cls ≠ "java/lang/invoke/MethodHandle" ∧ yX12_bad.cls ≠ "java/lang/invoke/VarHandle" ∧ (parseMethodDescriptor yX12_bad.desc).map (fun d => d.parameters.length) = some 1 by decide +kernel) zs_blind (zs_ob hh35 ha (show RTg[11]? = some (0, 11, 0, fsX12) from rfl) (zCX12 hKn.1)) (fun U hU hW => ⟨rfl, by rw [hU]; exact hh35.l0, zKb s U hW.alike hKn, by rw [hU]; exact jv2⟩) hh35.2.2.1 hl37.1 (Nat.le_of_ble_eq_true rfl) (eX12_lookAtDate (82, .invokevirtual 335, 3) (List.mem_of_getElem? (i := 48) rfl)) (fun r70 s70 t70 lo70 g70 f70 l70 => ?_)
        obtain ⟨q70, z70, c70, jv70⟩ := f70
        cases q70
        rw [g70] at c70
        have hh70 : zh_ok D cA RTg ro sz H0 t70.heap lo70 := ⟨z70.1, z70.2.1, l70, z70.2.2.2⟩
        have kp70 := kp2.trans (c70.mono (ms' := lkM) (by decide))
        generalize hx70 : bdG (g 5) sg = x70 at jv70
        have uu70 := jv70.2.2
        unfold vOK at uu70
        have bb70 := byI_bd T x70.1
        have jg70 := jg2.kept ha c70 (by decide)
        have mf70_39 := (c70.1 a 11 39 11 0 fsX12 ha rfl (by decide) (by decide)).trans hf2
        refine W.eq (g2 := F0 m 85 ls37 []) rfl ?_
        have hfin : ((sg.1, sg.2.1, ldb g sg.2.2) : uS) = x70 := by rw [← hx70]; simp only [ldb, if_neg d18, if_pos d39, if_pos d69] <;> rfl
        have hfh : ldHx g = 0 := by simp only [ldHx, if_neg d18, if_pos d39, if_pos d69]
        obtain ⟨dv0, fd0, -, -⟩ := zh_fT (k := 38) (t := (1, (-9223372036854775808), 9223372036854775807)) hh70 ha (show RTg[11]? = some (0, 11, 0, fsX12) from rfl) rfl
        exact W.vret hx hb hr (fun t ht hW => ⟨rfl, by rw [ht]; exact hh70.l0, by rw [ht]; exact kp70, by rw [ht, hfin]; exact jv70, by rw [ht]; exact jg70, _, _, by rw [ht]; exact mf70_39, by rw [hfh]; omega, by rw [ht]; exact fd0, fun q9 => by omega⟩) hh70.2.2.1 (eX12_lookAtDate (85, .return_, 1) (List.mem_of_getElem? (i := 49) rfl))
    · skip
      refine lv_iload_n hx hb (eX12_lookAtDate (61, .iload_n 1, 1) (List.mem_of_getElem? (i := 37) rfl)) rfl (lv_at hl37 5 rfl) ?_
      refine ff_iconst hx hb (eX12_lookAtDate (62, .iconst 4, 1) (List.mem_of_getElem? (i := 38) rfl)) (by decide) (by decide) (fun v71 e71 => ?_)
      refine ff_icmp_ne hx hb (eX12_lookAtDate (63, .if_icmp .ne 74, 3) (List.mem_of_getElem? (i := 39) rfl)) (tgt := 137) rfl (fun c72 => ?_) (fun c72 => ?_)
      · skip
        have d73 : ¬ (g 1 = 0 ∨ g 1 = 4) := by omega
        refine lv_iload_n hx hb (eX12_lookAtDate (137, .iload_n 1, 1) (List.mem_of_getElem? (i := 76) rfl)) rfl (lv_at hl37 5 rfl) ?_
        refine ff_iconst hx hb (eX12_lookAtDate (138, .iconst 2, 1) (List.mem_of_getElem? (i := 77) rfl)) (by decide) (by decide) (fun v74 e74 => ?_)
        refine ff_icmp_ne hx hb (eX12_lookAtDate (139, .if_icmp .ne 55, 3) (List.mem_of_getElem? (i := 78) rfl)) (tgt := 194) rfl (fun c75 => ?_) (fun c75 => ?_)
        · skip
          have d76 : ¬ (g 1 = 2) := by omega
          refine lv_iload_n hx hb (eX12_lookAtDate (194, .iload_n 1, 1) (List.mem_of_getElem? (i := 106) rfl)) rfl (lv_at hl37 5 rfl) ?_
          refine ff_iconst hx hb (eX12_lookAtDate (195, .iconst 3, 1) (List.mem_of_getElem? (i := 107) rfl)) (by decide) (by decide) (fun v77 e77 => ?_)
          refine ff_icmp_ne hx hb (eX12_lookAtDate (196, .if_icmp .ne 16, 3) (List.mem_of_getElem? (i := 108) rfl)) (tgt := 212) rfl (fun c78 => ?_) (fun c78 => ?_)
          · skip
            have d79 : ¬ (g 1 = 3) := by omega
            refine lv_iload hx hb (eX12_lookAtDate (212, .iload 4, 2) (List.mem_of_getElem? (i := 116) rfl)) (lv_at hl37 3 rfl) ?_
            refine ff_i2l hx hb (eX12_lookAtDate (214, .i2l, 1) (List.mem_of_getElem? (i := 117) rfl)) (fun v80 e80 => ?_)
            refine ff_lconst hx hb (eX12_lookAtDate (215, .lconst 1, 1) (List.mem_of_getElem? (i := 118) rfl)) rfl (fun v81 e81 => ?_)
            refine lv_lload_n hx hb (eX12_lookAtDate (216, .lload_n 2, 1) (List.mem_of_getElem? (i := 119) rfl)) rfl (lv_at hl37 4 rfl) ?_
            refine zu_S (vs := [.long v20]) (rest := [.long v81, .long v80]) hx hb hml hown hts0 zu_BT (hX12_weeksOf l v20 (by omega) (by omega)) ⟨rfl, rfl⟩ ⟨by decide, by decide⟩ ⟨by decide, by decide⟩ (tb_7 85 rfl rfl) (tb_1 12 rfl rfl) (tb_7 83 rfl rfl) (tb_7 84 rfl rfl) (show yX12_weeksOf.cls ≠ "java/lang/invoke/MethodHandle" ∧ yX12_weeksOf.cls ≠ "java/lang/invoke/VarHandle" ∧ (parseMethodDescriptor yX12_weeksOf.desc).map (fun d => d.parameters.length) = some 1 by decide +kernel) rfl (fun _ _ _ => trivial) hl37.1 (Nat.le_of_ble_eq_true rfl) (eX12_lookAtDate (217, .invokestatic 167, 3) (List.mem_of_getElem? (i := 120) rfl)) (fun w82 f82 => ?_)
            obtain ⟨v82, rfl, e82⟩ := f82
            have g82 := (show v82.toInt = wkI (g 2) ∧ 52 ≤ wkI (g 2) ∧ wkI (g 2) ≤ 53 from ⟨by rw [e82, show v20.toInt = g 2 by omega], (wk_bd _).1, (wk_bd _).2⟩)
            refine ff_i2l hx hb (eX12_lookAtDate (220, .i2l, 1) (List.mem_of_getElem? (i := 121) rfl)) (fun v83 e83 => ?_)
            refine zu_S (vs := [.long v80, .long v81, .long v83]) (rest := []) hx hb hml hown hts0 zu_BT (hX12_isIn l v80 v81 v83) ⟨rfl, rfl⟩ ⟨by decide, by decide⟩ ⟨by decide, by decide⟩ (tb_7 47 rfl rfl) (tb_1 12 rfl rfl) (tb_7 45 rfl rfl) (tb_7 46 rfl rfl) (show yX12_isIn.cls ≠ "java/lang/invoke/MethodHandle" ∧ yX12_isIn.cls ≠ "java/lang/invoke/VarHandle" ∧ (parseMethodDescriptor yX12_isIn.desc).map (fun d => d.parameters.length) = some 3 by decide +kernel) rfl (fun _ _ _ => trivial) hl37.1 (Nat.le_of_ble_eq_true rfl) (eX12_lookAtDate (221, .invokestatic 130, 3) (List.mem_of_getElem? (i := 122) rfl)) (fun w84 f84 => ?_)
            obtain ⟨v84, rfl, e84⟩ := f84
            refine ff_if_ne hx hb (eX12_lookAtDate (224, .ifCond .ne 10, 3) (List.mem_of_getElem? (i := 123) rfl)) (tgt := 234) rfl (fun c85 => ?_) (fun c85 => ?_)
            · skip
              have d86 : ¬ ¬ (1 ≤ g 4 ∧ g 4 ≤ wkI (g 2)) := by omega
              refine lv_iload_n hx hb (eX12_lookAtDate (234, .iload_n 1, 1) (List.mem_of_getElem? (i := 128) rfl)) rfl (lv_at hl37 5 rfl) ?_
              refine ff_iconst hx hb (eX12_lookAtDate (235, .iconst 1, 1) (List.mem_of_getElem? (i := 129) rfl)) (by decide) (by decide) (fun v87 e87 => ?_)
              refine ff_icmp_ne hx hb (eX12_lookAtDate (236, .if_icmp .ne 23, 3) (List.mem_of_getElem? (i := 130) rfl)) (tgt := 259) rfl (fun c88 => ?_) (fun c88 => ?_)
              · skip
                have d89 : ¬ (g 1 = 1 ∧ ¬ (1 ≤ g 6 ∧ g 6 ≤ 7)) := by omega
                refine lv_aload_n hx hb (eX12_lookAtDate (259, .aload_n 0, 1) (List.mem_of_getElem? (i := 141) rfl)) rfl (lv_at hl37 6 rfl) ?_
                refine lv_lload_n hx hb (eX12_lookAtDate (260, .lload_n 2, 1) (List.mem_of_getElem? (i := 142) rfl)) rfl (lv_at hl37 4 rfl) ?_
                refine zu_S (vs := [.long v20]) (rest := [.ref a]) hx hb hml hown hts0 zu_BT (hX12_firstWeek l v20 (by omega) (by omega)) ⟨rfl, rfl⟩ ⟨by decide, by decide⟩ ⟨by decide, by decide⟩ (tb_7 77 rfl rfl) (tb_1 12 rfl rfl) (tb_7 75 rfl rfl) (tb_7 76 rfl rfl) (show yX12_firstWeek.cls ≠ "java/lang/invoke/MethodHandle" ∧ yX12_firstWeek.cls ≠ "java/lang/invoke/VarHandle" ∧ (parseMethodDescriptor yX12_firstWeek.desc).map (fun d => d.parameters.length) = some 1 by decide +kernel) rfl (fun _ _ _ => trivial) hl37.1 (Nat.le_of_ble_eq_true rfl) (eX12_lookAtDate (261, .invokestatic 142, 3) (List.mem_of_getElem? (i := 143) rfl)) (fun w90 f90 => ?_)
                obtain ⟨v90, rfl, e90⟩ := f90
                have g90 := (show v90.toInt = fwI (g 2) ∧ -1000000100 ≤ fwI (g 2) ∧ fwI (g 2) ≤ 1000000100 from ⟨by rw [e90, show v20.toInt = g 2 by omega], by have h9 := ysI_bd (y := g 2) (by omega) (by omega); unfold fwI; omega, by have h9 := ysI_bd (y := g 2) (by omega) (by omega); unfold fwI; omega⟩)
                refine ff_ldc2 (n := 7) hx hb hown h2 (clX12_ok 136 7 (List.mem_of_getElem? (i := 16) rfl)) (eX12_lookAtDate (264, .ldc2_w 136, 3) (List.mem_of_getElem? (i := 144) rfl)) (fun v91 e91 => ?_)
                refine lv_iload hx hb (eX12_lookAtDate (267, .iload 4, 2) (List.mem_of_getElem? (i := 145) rfl)) (lv_at hl37 3 rfl) ?_
                refine ff_i2l hx hb (eX12_lookAtDate (269, .i2l, 1) (List.mem_of_getElem? (i := 146) rfl)) (fun v92 e92 => ?_)
                refine ff_lconst hx hb (eX12_lookAtDate (270, .lconst 1, 1) (List.mem_of_getElem? (i := 147) rfl)) rfl (fun v93 e93 => ?_)
                refine ff_lsub hx hb (eX12_lookAtDate (271, .lsub, 1) (List.mem_of_getElem? (i := 148) rfl)) (by omega) (by omega) (fun v94 e94 => ?_)
                refine ff_lmulL hx hb (eX12_lookAtDate (272, .lmul, 1) (List.mem_of_getElem? (i := 149) rfl)) (e91) (by omega) (by omega) (fun v95 e95 => ?_)
                refine ff_ladd hx hb (eX12_lookAtDate (273, .ladd, 1) (List.mem_of_getElem? (i := 150) rfl)) (by omega) (by omega) (fun v96 e96 => ?_)
                refine lv_iload_n hx hb (eX12_lookAtDate (274, .iload_n 1, 1) (List.mem_of_getElem? (i := 151) rfl)) rfl (lv_at hl37 5 rfl) ?_
                refine ff_iconst hx hb (eX12_lookAtDate (275, .iconst 1, 1) (List.mem_of_getElem? (i := 152) rfl)) (by decide) (by decide) (fun v97 e97 => ?_)
                refine ff_icmp_ne hx hb (eX12_lookAtDate (276, .if_icmp .ne 11, 3) (List.mem_of_getElem? (i := 153) rfl)) (tgt := 287) rfl (fun c98 => ?_) (fun c98 => ?_)
                · skip
                  refine ff_lconst hx hb (eX12_lookAtDate (287, .lconst 0, 1) (List.mem_of_getElem? (i := 159) rfl)) rfl (fun v99 e99 => ?_)
                  refine ff_ladd hx hb (eX12_lookAtDate (288, .ladd, 1) (List.mem_of_getElem? (i := 160) rfl)) (by omega) (by omega) (fun v100 e100 => ?_)
                  have hld : v100.toInt = ldD g := by unfold ldD; rw [if_neg (show ¬ (g 1 = 0 ∨ g 1 = 4) by omega), if_neg (show ¬ g 1 = 2 by omega), if_neg (show ¬ g 1 = 3 by omega)]; first | (rw [if_pos (show g 1 = 1 by omega)]; omega) | (rw [if_neg (show ¬ g 1 = 1 by omega)]; omega)
                  refine tz_put (r := 11) (k := 38) (t := (1, (-9223372036854775808), 9223372036854775807)) hx hb hD hh35 ha rfl rfl ((hcl11 407 38 (1, (-9223372036854775808), 9223372036854775807) (by decide) rfl).2 (by decide)) (tz_l (zn_i64 _).1 (zn_i64 _).2) (eX12_lookAtDate (289, .putfield 407, 3) (List.mem_of_getElem? (i := 161) rfl)) (fun H101 lo101 hh101 hf101 hk101 _ hq101 => ?_)
                  have mf101_a_39 := (hk101.1 a 11 39 11 0 fsX12 ha rfl (by decide) (by decide)).trans hf2
                  have kp101 := kp2.trans (hk101.mono (ms' := lkM) (fun x hx => by cases List.mem_singleton.mp hx; decide))
                  have jv101 := jv2.kept ha hk101 (by decide)
                  have jg101 := jg2.kept ha hk101 (by decide)
                  exact jn292 v100 v1 ls37 _ _ hh101 kp101 jv101 jg101 hf101 mf101_a_39 (by omega) hld (by first | (simp only [ldb, if_neg d18, if_neg d73, if_neg d76, if_neg d79, if_neg d86, if_neg d89, up_eq]; done) | (simp only [ldb, if_neg d18, if_neg d73, if_neg d76, if_neg d79, if_neg d86, if_neg d89, up_eq] <;> rfl) | rfl) (by first | (simp only [ldHx, if_neg d18, if_neg d73, if_neg d76, if_neg d79, if_neg d86, if_neg d89, up_eq]; done) | (simp only [ldHx, if_neg d18, if_neg d73, if_neg d76, if_neg d79, if_neg d86, if_neg d89, up_eq] <;> rfl) | rfl) (lv_sub hl37 [6] rfl)
                · skip
                  refine lv_iload hx hb (eX12_lookAtDate (279, .iload 5, 2) (List.mem_of_getElem? (i := 154) rfl)) (lv_at hl37 2 rfl) ?_
                  refine ff_i2l hx hb (eX12_lookAtDate (281, .i2l, 1) (List.mem_of_getElem? (i := 155) rfl)) (fun v102 e102 => ?_)
                  refine ff_lconst hx hb (eX12_lookAtDate (282, .lconst 1, 1) (List.mem_of_getElem? (i := 156) rfl)) rfl (fun v103 e103 => ?_)
                  refine ff_lsub hx hb (eX12_lookAtDate (283, .lsub, 1) (List.mem_of_getElem? (i := 157) rfl)) (by omega) (by omega) (fun v104 e104 => ?_)
                  refine lv_goto hx hb (eX12_lookAtDate (284, .goto 4, 3) (List.mem_of_getElem? (i := 158) rfl)) (tgt := 288) rfl ?_
                  refine ff_ladd hx hb (eX12_lookAtDate (288, .ladd, 1) (List.mem_of_getElem? (i := 160) rfl)) (by omega) (by omega) (fun v105 e105 => ?_)
                  have hld : v105.toInt = ldD g := by unfold ldD; rw [if_neg (show ¬ (g 1 = 0 ∨ g 1 = 4) by omega), if_neg (show ¬ g 1 = 2 by omega), if_neg (show ¬ g 1 = 3 by omega)]; first | (rw [if_pos (show g 1 = 1 by omega)]; omega) | (rw [if_neg (show ¬ g 1 = 1 by omega)]; omega)
                  refine tz_put (r := 11) (k := 38) (t := (1, (-9223372036854775808), 9223372036854775807)) hx hb hD hh35 ha rfl rfl ((hcl11 407 38 (1, (-9223372036854775808), 9223372036854775807) (by decide) rfl).2 (by decide)) (tz_l (zn_i64 _).1 (zn_i64 _).2) (eX12_lookAtDate (289, .putfield 407, 3) (List.mem_of_getElem? (i := 161) rfl)) (fun H106 lo106 hh106 hf106 hk106 _ hq106 => ?_)
                  have mf106_a_39 := (hk106.1 a 11 39 11 0 fsX12 ha rfl (by decide) (by decide)).trans hf2
                  have kp106 := kp2.trans (hk106.mono (ms' := lkM) (fun x hx => by cases List.mem_singleton.mp hx; decide))
                  have jv106 := jv2.kept ha hk106 (by decide)
                  have jg106 := jg2.kept ha hk106 (by decide)
                  exact jn292 v105 v1 ls37 _ _ hh106 kp106 jv106 jg106 hf106 mf106_a_39 (by omega) hld (by first | (simp only [ldb, if_neg d18, if_neg d73, if_neg d76, if_neg d79, if_neg d86, if_neg d89, up_eq]; done) | (simp only [ldb, if_neg d18, if_neg d73, if_neg d76, if_neg d79, if_neg d86, if_neg d89, up_eq] <;> rfl) | rfl) (by first | (simp only [ldHx, if_neg d18, if_neg d73, if_neg d76, if_neg d79, if_neg d86, if_neg d89, up_eq]; done) | (simp only [ldHx, if_neg d18, if_neg d73, if_neg d76, if_neg d79, if_neg d86, if_neg d89, up_eq] <;> rfl) | rfl) (lv_sub hl37 [6] rfl)
              · skip
                refine lv_iload hx hb (eX12_lookAtDate (239, .iload 5, 2) (List.mem_of_getElem? (i := 131) rfl)) (lv_at hl37 2 rfl) ?_
                refine ff_i2l hx hb (eX12_lookAtDate (241, .i2l, 1) (List.mem_of_getElem? (i := 132) rfl)) (fun v107 e107 => ?_)
                refine ff_lconst hx hb (eX12_lookAtDate (242, .lconst 1, 1) (List.mem_of_getElem? (i := 133) rfl)) rfl (fun v108 e108 => ?_)
                refine ff_ldc2 (n := 7) hx hb hown h2 (clX12_ok 136 7 (List.mem_of_getElem? (i := 16) rfl)) (eX12_lookAtDate (243, .ldc2_w 136, 3) (List.mem_of_getElem? (i := 134) rfl)) (fun v109 e109 => ?_)
                refine zu_S (vs := [.long v107, .long v108, .long v109]) (rest := []) hx hb hml hown hts0 zu_BT (hX12_isIn l v107 v108 v109) ⟨rfl, rfl⟩ ⟨by decide, by decide⟩ ⟨by decide, by decide⟩ (tb_7 47 rfl rfl) (tb_1 12 rfl rfl) (tb_7 45 rfl rfl) (tb_7 46 rfl rfl) (show yX12_isIn.cls ≠ "java/lang/invoke/MethodHandle" ∧ yX12_isIn.cls ≠ "java/lang/invoke/VarHandle" ∧ (parseMethodDescriptor yX12_isIn.desc).map (fun d => d.parameters.length) = some 3 by decide +kernel) rfl (fun _ _ _ => trivial) hl37.1 (Nat.le_of_ble_eq_true rfl) (eX12_lookAtDate (246, .invokestatic 130, 3) (List.mem_of_getElem? (i := 135) rfl)) (fun w110 f110 => ?_)
                obtain ⟨v110, rfl, e110⟩ := f110
                refine ff_if_ne hx hb (eX12_lookAtDate (249, .ifCond .ne 10, 3) (List.mem_of_getElem? (i := 136) rfl)) (tgt := 259) rfl (fun c111 => ?_) (fun c111 => ?_)
                · skip
                  have d112 : ¬ (g 1 = 1 ∧ ¬ (1 ≤ g 6 ∧ g 6 ≤ 7)) := by omega
                  refine lv_aload_n hx hb (eX12_lookAtDate (259, .aload_n 0, 1) (List.mem_of_getElem? (i := 141) rfl)) rfl (lv_at hl37 6 rfl) ?_
                  refine lv_lload_n hx hb (eX12_lookAtDate (260, .lload_n 2, 1) (List.mem_of_getElem? (i := 142) rfl)) rfl (lv_at hl37 4 rfl) ?_
                  refine zu_S (vs := [.long v20]) (rest := [.ref a]) hx hb hml hown hts0 zu_BT (hX12_firstWeek l v20 (by omega) (by omega)) ⟨rfl, rfl⟩ ⟨by decide, by decide⟩ ⟨by decide, by decide⟩ (tb_7 77 rfl rfl) (tb_1 12 rfl rfl) (tb_7 75 rfl rfl) (tb_7 76 rfl rfl) (show yX12_firstWeek.cls ≠ "java/lang/invoke/MethodHandle" ∧ yX12_firstWeek.cls ≠ "java/lang/invoke/VarHandle" ∧ (parseMethodDescriptor yX12_firstWeek.desc).map (fun d => d.parameters.length) = some 1 by decide +kernel) rfl (fun _ _ _ => trivial) hl37.1 (Nat.le_of_ble_eq_true rfl) (eX12_lookAtDate (261, .invokestatic 142, 3) (List.mem_of_getElem? (i := 143) rfl)) (fun w113 f113 => ?_)
                  obtain ⟨v113, rfl, e113⟩ := f113
                  have g113 := (show v113.toInt = fwI (g 2) ∧ -1000000100 ≤ fwI (g 2) ∧ fwI (g 2) ≤ 1000000100 from ⟨by rw [e113, show v20.toInt = g 2 by omega], by have h9 := ysI_bd (y := g 2) (by omega) (by omega); unfold fwI; omega, by have h9 := ysI_bd (y := g 2) (by omega) (by omega); unfold fwI; omega⟩)
                  refine ff_ldc2 (n := 7) hx hb hown h2 (clX12_ok 136 7 (List.mem_of_getElem? (i := 16) rfl)) (eX12_lookAtDate (264, .ldc2_w 136, 3) (List.mem_of_getElem? (i := 144) rfl)) (fun v114 e114 => ?_)
                  refine lv_iload hx hb (eX12_lookAtDate (267, .iload 4, 2) (List.mem_of_getElem? (i := 145) rfl)) (lv_at hl37 3 rfl) ?_
                  refine ff_i2l hx hb (eX12_lookAtDate (269, .i2l, 1) (List.mem_of_getElem? (i := 146) rfl)) (fun v115 e115 => ?_)
                  refine ff_lconst hx hb (eX12_lookAtDate (270, .lconst 1, 1) (List.mem_of_getElem? (i := 147) rfl)) rfl (fun v116 e116 => ?_)
                  refine ff_lsub hx hb (eX12_lookAtDate (271, .lsub, 1) (List.mem_of_getElem? (i := 148) rfl)) (by omega) (by omega) (fun v117 e117 => ?_)
                  refine ff_lmulL hx hb (eX12_lookAtDate (272, .lmul, 1) (List.mem_of_getElem? (i := 149) rfl)) (e114) (by omega) (by omega) (fun v118 e118 => ?_)
                  refine ff_ladd hx hb (eX12_lookAtDate (273, .ladd, 1) (List.mem_of_getElem? (i := 150) rfl)) (by omega) (by omega) (fun v119 e119 => ?_)
                  refine lv_iload_n hx hb (eX12_lookAtDate (274, .iload_n 1, 1) (List.mem_of_getElem? (i := 151) rfl)) rfl (lv_at hl37 5 rfl) ?_
                  refine ff_iconst hx hb (eX12_lookAtDate (275, .iconst 1, 1) (List.mem_of_getElem? (i := 152) rfl)) (by decide) (by decide) (fun v120 e120 => ?_)
                  refine ff_icmp_ne hx hb (eX12_lookAtDate (276, .if_icmp .ne 11, 3) (List.mem_of_getElem? (i := 153) rfl)) (tgt := 287) rfl (fun c121 => ?_) (fun c121 => ?_)
                  · skip
                    refine ff_lconst hx hb (eX12_lookAtDate (287, .lconst 0, 1) (List.mem_of_getElem? (i := 159) rfl)) rfl (fun v122 e122 => ?_)
                    refine ff_ladd hx hb (eX12_lookAtDate (288, .ladd, 1) (List.mem_of_getElem? (i := 160) rfl)) (by omega) (by omega) (fun v123 e123 => ?_)
                    have hld : v123.toInt = ldD g := by unfold ldD; rw [if_neg (show ¬ (g 1 = 0 ∨ g 1 = 4) by omega), if_neg (show ¬ g 1 = 2 by omega), if_neg (show ¬ g 1 = 3 by omega)]; first | (rw [if_pos (show g 1 = 1 by omega)]; omega) | (rw [if_neg (show ¬ g 1 = 1 by omega)]; omega)
                    refine tz_put (r := 11) (k := 38) (t := (1, (-9223372036854775808), 9223372036854775807)) hx hb hD hh35 ha rfl rfl ((hcl11 407 38 (1, (-9223372036854775808), 9223372036854775807) (by decide) rfl).2 (by decide)) (tz_l (zn_i64 _).1 (zn_i64 _).2) (eX12_lookAtDate (289, .putfield 407, 3) (List.mem_of_getElem? (i := 161) rfl)) (fun H124 lo124 hh124 hf124 hk124 _ hq124 => ?_)
                    have mf124_a_39 := (hk124.1 a 11 39 11 0 fsX12 ha rfl (by decide) (by decide)).trans hf2
                    have kp124 := kp2.trans (hk124.mono (ms' := lkM) (fun x hx => by cases List.mem_singleton.mp hx; decide))
                    have jv124 := jv2.kept ha hk124 (by decide)
                    have jg124 := jg2.kept ha hk124 (by decide)
                    exact jn292 v123 v1 ls37 _ _ hh124 kp124 jv124 jg124 hf124 mf124_a_39 (by omega) hld (by first | (simp only [ldb, if_neg d18, if_neg d73, if_neg d76, if_neg d79, if_neg d86, if_neg d112, up_eq]; done) | (simp only [ldb, if_neg d18, if_neg d73, if_neg d76, if_neg d79, if_neg d86, if_neg d112, up_eq] <;> rfl) | rfl) (by first | (simp only [ldHx, if_neg d18, if_neg d73, if_neg d76, if_neg d79, if_neg d86, if_neg d112, up_eq]; done) | (simp only [ldHx, if_neg d18, if_neg d73, if_neg d76, if_neg d79, if_neg d86, if_neg d112, up_eq] <;> rfl) | rfl) (lv_sub hl37 [6] rfl)
                  · skip
                    refine lv_iload hx hb (eX12_lookAtDate (279, .iload 5, 2) (List.mem_of_getElem? (i := 154) rfl)) (lv_at hl37 2 rfl) ?_
                    refine ff_i2l hx hb (eX12_lookAtDate (281, .i2l, 1) (List.mem_of_getElem? (i := 155) rfl)) (fun v125 e125 => ?_)
                    refine ff_lconst hx hb (eX12_lookAtDate (282, .lconst 1, 1) (List.mem_of_getElem? (i := 156) rfl)) rfl (fun v126 e126 => ?_)
                    refine ff_lsub hx hb (eX12_lookAtDate (283, .lsub, 1) (List.mem_of_getElem? (i := 157) rfl)) (by omega) (by omega) (fun v127 e127 => ?_)
                    refine lv_goto hx hb (eX12_lookAtDate (284, .goto 4, 3) (List.mem_of_getElem? (i := 158) rfl)) (tgt := 288) rfl ?_
                    refine ff_ladd hx hb (eX12_lookAtDate (288, .ladd, 1) (List.mem_of_getElem? (i := 160) rfl)) (by omega) (by omega) (fun v128 e128 => ?_)
                    have hld : v128.toInt = ldD g := by unfold ldD; rw [if_neg (show ¬ (g 1 = 0 ∨ g 1 = 4) by omega), if_neg (show ¬ g 1 = 2 by omega), if_neg (show ¬ g 1 = 3 by omega)]; first | (rw [if_pos (show g 1 = 1 by omega)]; omega) | (rw [if_neg (show ¬ g 1 = 1 by omega)]; omega)
                    refine tz_put (r := 11) (k := 38) (t := (1, (-9223372036854775808), 9223372036854775807)) hx hb hD hh35 ha rfl rfl ((hcl11 407 38 (1, (-9223372036854775808), 9223372036854775807) (by decide) rfl).2 (by decide)) (tz_l (zn_i64 _).1 (zn_i64 _).2) (eX12_lookAtDate (289, .putfield 407, 3) (List.mem_of_getElem? (i := 161) rfl)) (fun H129 lo129 hh129 hf129 hk129 _ hq129 => ?_)
                    have mf129_a_39 := (hk129.1 a 11 39 11 0 fsX12 ha rfl (by decide) (by decide)).trans hf2
                    have kp129 := kp2.trans (hk129.mono (ms' := lkM) (fun x hx => by cases List.mem_singleton.mp hx; decide))
                    have jv129 := jv2.kept ha hk129 (by decide)
                    have jg129 := jg2.kept ha hk129 (by decide)
                    exact jn292 v128 v1 ls37 _ _ hh129 kp129 jv129 jg129 hf129 mf129_a_39 (by omega) hld (by first | (simp only [ldb, if_neg d18, if_neg d73, if_neg d76, if_neg d79, if_neg d86, if_neg d112, up_eq]; done) | (simp only [ldb, if_neg d18, if_neg d73, if_neg d76, if_neg d79, if_neg d86, if_neg d112, up_eq] <;> rfl) | rfl) (by first | (simp only [ldHx, if_neg d18, if_neg d73, if_neg d76, if_neg d79, if_neg d86, if_neg d112, up_eq]; done) | (simp only [ldHx, if_neg d18, if_neg d73, if_neg d76, if_neg d79, if_neg d86, if_neg d112, up_eq] <;> rfl) | rfl) (lv_sub hl37 [6] rfl)
                · skip
                  have d130 : g 1 = 1 ∧ ¬ (1 ≤ g 6 ∧ g 6 ≤ 7) := by omega
                  refine lv_aload_n hx hb (eX12_lookAtDate (252, .aload_n 0, 1) (List.mem_of_getElem? (i := 137) rfl)) rfl (lv_at hl37 6 rfl) ?_
                  refine lv_iload hx hb (eX12_lookAtDate (253, .iload 7, 2) (List.mem_of_getElem? (i := 138) rfl)) (lv_at hl37 0 rfl) ?_
                  refine tz_rowV (As := [.int v36]) (st := []) (b := a) (C := RX12) (Ts := gT) hx hb hml hown h2 (fun _ h => h) (hX12_bad l D cA ro sz H0 a v36 (g 7) T (sg) ha (by omega)) ⟨rfl, rfl⟩ ⟨by decide, by decide⟩ ⟨by decide, by decide⟩ (tb_8 47 rfl rfl) (tb_1 12 rfl rfl) (tb_8 44 rfl rfl) (tb_8 46 rfl rfl) (tb_0 37 rfl rfl) (show yX12_bad.cls ≠ "java/lang/invoke/MethodHandle" ∧ yX12_bad.cls ≠ "java/lang/invoke/VarHandle" ∧ (parseMethodDescriptor yX12_bad.desc).map (fun d => d.parameters.length) = some 1 by decide +kernel) zs_blind (zs_ob hh35 ha (show RTg[11]? = some (0, 11, 0, fsX12) from rfl) (zCX12 hKn.1)) (fun U hU hW => ⟨rfl, by rw [hU]; exact hh35.l0, zKb s U hW.alike hKn, by rw [hU]; exact jv2⟩) hh35.2.2.1 hl37.1 (Nat.le_of_ble_eq_true rfl) (eX12_lookAtDate (255, .invokevirtual 335, 3) (List.mem_of_getElem? (i := 139) rfl)) (fun r131 s131 t131 lo131 g131 f131 l131 => ?_)
                  obtain ⟨q131, z131, c131, jv131⟩ := f131
                  cases q131
                  rw [g131] at c131
                  have hh131 : zh_ok D cA RTg ro sz H0 t131.heap lo131 := ⟨z131.1, z131.2.1, l131, z131.2.2.2⟩
                  have kp131 := kp2.trans (c131.mono (ms' := lkM) (by decide))
                  generalize hx131 : bdG (g 7) sg = x131 at jv131
                  have uu131 := jv131.2.2
                  unfold vOK at uu131
                  have bb131 := byI_bd T x131.1
                  have jg131 := jg2.kept ha c131 (by decide)
                  have mf131_39 := (c131.1 a 11 39 11 0 fsX12 ha rfl (by decide) (by decide)).trans hf2
                  refine W.eq (g2 := F0 m 258 ls37 []) rfl ?_
                  have hfin : ((sg.1, sg.2.1, ldb g sg.2.2) : uS) = x131 := by rw [← hx131]; simp only [ldb, if_neg d18, if_neg d73, if_neg d76, if_neg d79, if_neg d86, if_pos d130] <;> rfl
                  have hfh : ldHx g = 0 := by simp only [ldHx, if_neg d18, if_neg d73, if_neg d76, if_neg d79, if_neg d86, if_pos d130]
                  obtain ⟨dv0, fd0, -, -⟩ := zh_fT (k := 38) (t := (1, (-9223372036854775808), 9223372036854775807)) hh131 ha (show RTg[11]? = some (0, 11, 0, fsX12) from rfl) rfl
                  exact W.vret hx hb hr (fun t ht hW => ⟨rfl, by rw [ht]; exact hh131.l0, by rw [ht]; exact kp131, by rw [ht, hfin]; exact jv131, by rw [ht]; exact jg131, _, _, by rw [ht]; exact mf131_39, by rw [hfh]; omega, by rw [ht]; exact fd0, fun q9 => by omega⟩) hh131.2.2.1 (eX12_lookAtDate (258, .return_, 1) (List.mem_of_getElem? (i := 140) rfl))
            · skip
              have d132 : ¬ (1 ≤ g 4 ∧ g 4 ≤ wkI (g 2)) := by omega
              refine lv_aload_n hx hb (eX12_lookAtDate (227, .aload_n 0, 1) (List.mem_of_getElem? (i := 124) rfl)) rfl (lv_at hl37 6 rfl) ?_
              refine lv_iload hx hb (eX12_lookAtDate (228, .iload 6, 2) (List.mem_of_getElem? (i := 125) rfl)) (lv_at hl37 1 rfl) ?_
              refine tz_rowV (As := [.int v32]) (st := []) (b := a) (C := RX12) (Ts := gT) hx hb hml hown h2 (fun _ h => h) (hX12_bad l D cA ro sz H0 a v32 (g 5) T (sg) ha (by omega)) ⟨rfl, rfl⟩ ⟨by decide, by decide⟩ ⟨by decide, by decide⟩ (tb_8 47 rfl rfl) (tb_1 12 rfl rfl) (tb_8 44 rfl rfl) (tb_8 46 rfl rfl) (tb_0 37 rfl rfl) (show yX12_bad.cls ≠ "java/lang/invoke/MethodHandle" ∧ yX12_bad.cls ≠ "java/lang/invoke/VarHandle" ∧ (parseMethodDescriptor yX12_bad.desc).map (fun d => d.parameters.length) = some 1 by decide +kernel) zs_blind (zs_ob hh35 ha (show RTg[11]? = some (0, 11, 0, fsX12) from rfl) (zCX12 hKn.1)) (fun U hU hW => ⟨rfl, by rw [hU]; exact hh35.l0, zKb s U hW.alike hKn, by rw [hU]; exact jv2⟩) hh35.2.2.1 hl37.1 (Nat.le_of_ble_eq_true rfl) (eX12_lookAtDate (230, .invokevirtual 335, 3) (List.mem_of_getElem? (i := 126) rfl)) (fun r133 s133 t133 lo133 g133 f133 l133 => ?_)
              obtain ⟨q133, z133, c133, jv133⟩ := f133
              cases q133
              rw [g133] at c133
              have hh133 : zh_ok D cA RTg ro sz H0 t133.heap lo133 := ⟨z133.1, z133.2.1, l133, z133.2.2.2⟩
              have kp133 := kp2.trans (c133.mono (ms' := lkM) (by decide))
              generalize hx133 : bdG (g 5) sg = x133 at jv133
              have uu133 := jv133.2.2
              unfold vOK at uu133
              have bb133 := byI_bd T x133.1
              have jg133 := jg2.kept ha c133 (by decide)
              have mf133_39 := (c133.1 a 11 39 11 0 fsX12 ha rfl (by decide) (by decide)).trans hf2
              refine W.eq (g2 := F0 m 233 ls37 []) rfl ?_
              have hfin : ((sg.1, sg.2.1, ldb g sg.2.2) : uS) = x133 := by rw [← hx133]; simp only [ldb, if_neg d18, if_neg d73, if_neg d76, if_neg d79, if_pos d132] <;> rfl
              have hfh : ldHx g = 0 := by simp only [ldHx, if_neg d18, if_neg d73, if_neg d76, if_neg d79, if_pos d132]
              obtain ⟨dv0, fd0, -, -⟩ := zh_fT (k := 38) (t := (1, (-9223372036854775808), 9223372036854775807)) hh133 ha (show RTg[11]? = some (0, 11, 0, fsX12) from rfl) rfl
              exact W.vret hx hb hr (fun t ht hW => ⟨rfl, by rw [ht]; exact hh133.l0, by rw [ht]; exact kp133, by rw [ht, hfin]; exact jv133, by rw [ht]; exact jg133, _, _, by rw [ht]; exact mf133_39, by rw [hfh]; omega, by rw [ht]; exact fd0, fun q9 => by omega⟩) hh133.2.2.1 (eX12_lookAtDate (233, .return_, 1) (List.mem_of_getElem? (i := 127) rfl))
          · skip
            have d134 : g 1 = 3 := by omega
            refine lv_aload_n hx hb (eX12_lookAtDate (199, .aload_n 0, 1) (List.mem_of_getElem? (i := 109) rfl)) rfl (lv_at hl37 6 rfl) ?_
            refine lv_lload_n hx hb (eX12_lookAtDate (200, .lload_n 2, 1) (List.mem_of_getElem? (i := 110) rfl)) rfl (lv_at hl37 4 rfl) ?_
            refine ff_iconst hx hb (eX12_lookAtDate (201, .iconst 1, 1) (List.mem_of_getElem? (i := 111) rfl)) (by decide) (by decide) (fun v135 e135 => ?_)
            refine ff_iconst hx hb (eX12_lookAtDate (202, .iconst 1, 1) (List.mem_of_getElem? (i := 112) rfl)) (by decide) (by decide) (fun v136 e136 => ?_)
            refine zu_S (vs := [.long v20, .int v135, .int v136]) (rest := [.ref a]) hx hb hml hown hts0 zu_BT (hX12_dayOfW l v20 v135 v136 (by omega) (by omega) (by omega) (by omega) (by omega) (by omega)) ⟨rfl, rfl⟩ ⟨by decide, by decide⟩ ⟨by decide, by decide⟩ (tb_6 135 rfl rfl) (tb_1 12 rfl rfl) (tb_6 133 rfl rfl) (tb_6 134 rfl rfl) (show yX12_dayOf.cls ≠ "java/lang/invoke/MethodHandle" ∧ yX12_dayOf.cls ≠ "java/lang/invoke/VarHandle" ∧ (parseMethodDescriptor yX12_dayOf.desc).map (fun d => d.parameters.length) = some 3 by decide +kernel) rfl (fun _ _ _ => trivial) hl37.1 (Nat.le_of_ble_eq_true rfl) (eX12_lookAtDate (203, .invokestatic 70, 3) (List.mem_of_getElem? (i := 113) rfl)) (fun w137 f137 => ?_)
            obtain ⟨v137, rfl, e137⟩ := f137
            have g137 := (show v137.toInt = nuI (g 2) 1 1 by rw [e137, show v20.toInt = g 2 by omega, show v135.toInt = 1 by omega, show v136.toInt = 1 by omega])
            have hld : v137.toInt = ldD g := by unfold ldD; rw [if_neg (show ¬ (g 1 = 0 ∨ g 1 = 4) by omega), if_neg (show ¬ g 1 = 2 by omega), if_pos (show g 1 = 3 by omega), ← nu_first]; omega
            refine tz_put (r := 11) (k := 38) (t := (1, (-9223372036854775808), 9223372036854775807)) hx hb hD hh35 ha rfl rfl ((hcl11 407 38 (1, (-9223372036854775808), 9223372036854775807) (by decide) rfl).2 (by decide)) (tz_l (zn_i64 _).1 (zn_i64 _).2) (eX12_lookAtDate (206, .putfield 407, 3) (List.mem_of_getElem? (i := 114) rfl)) (fun H138 lo138 hh138 hf138 hk138 _ hq138 => ?_)
            have mf138_a_39 := (hk138.1 a 11 39 11 0 fsX12 ha rfl (by decide) (by decide)).trans hf2
            have kp138 := kp2.trans (hk138.mono (ms' := lkM) (fun x hx => by cases List.mem_singleton.mp hx; decide))
            have jv138 := jv2.kept ha hk138 (by decide)
            have jg138 := jg2.kept ha hk138 (by decide)
            refine lv_goto hx hb (eX12_lookAtDate (209, .goto 83, 3) (List.mem_of_getElem? (i := 115) rfl)) (tgt := 292) rfl ?_
            exact jn292 v137 v1 ls37 _ _ hh138 kp138 jv138 jg138 hf138 mf138_a_39 (by omega) hld (by first | (simp only [ldb, if_neg d18, if_neg d73, if_neg d76, if_pos d134, up_eq]; done) | (simp only [ldb, if_neg d18, if_neg d73, if_neg d76, if_pos d134, up_eq] <;> rfl) | rfl) (by first | (simp only [ldHx, if_neg d18, if_neg d73, if_neg d76, if_pos d134, up_eq]; done) | (simp only [ldHx, if_neg d18, if_neg d73, if_neg d76, if_pos d134, up_eq] <;> rfl) | rfl) (lv_sub hl37 [6] rfl)
        · skip
          have d139 : g 1 = 2 := by omega
          refine lv_iload hx hb (eX12_lookAtDate (142, .iload 4, 2) (List.mem_of_getElem? (i := 79) rfl)) (lv_at hl37 3 rfl) ?_
          refine ff_i2l hx hb (eX12_lookAtDate (144, .i2l, 1) (List.mem_of_getElem? (i := 80) rfl)) (fun v140 e140 => ?_)
          refine ff_lconst hx hb (eX12_lookAtDate (145, .lconst 1, 1) (List.mem_of_getElem? (i := 81) rfl)) rfl (fun v141 e141 => ?_)
          refine lv_lload_n hx hb (eX12_lookAtDate (146, .lload_n 2, 1) (List.mem_of_getElem? (i := 82) rfl)) rfl (lv_at hl37 4 rfl) ?_
          refine zu_S (vs := [.long v20]) (rest := [.long v141, .long v140]) hx hb hml hown hts0 zu_BT (hX12_isLeapYear l v20) ⟨rfl, rfl⟩ ⟨by decide, by decide⟩ ⟨by decide, by decide⟩ (tb_7 54 rfl rfl) (tb_1 12 rfl rfl) (tb_7 52 rfl rfl) (tb_7 53 rfl rfl) (show yX12_isLeapYear.cls ≠ "java/lang/invoke/MethodHandle" ∧ yX12_isLeapYear.cls ≠ "java/lang/invoke/VarHandle" ∧ (parseMethodDescriptor yX12_isLeapYear.desc).map (fun d => d.parameters.length) = some 1 by decide +kernel) rfl (fun _ _ _ => trivial) hl37.1 (Nat.le_of_ble_eq_true rfl) (eX12_lookAtDate (147, .invokestatic 95, 3) (List.mem_of_getElem? (i := 83) rfl)) (fun w142 f142 => ?_)
          obtain ⟨v142, rfl, e142⟩ := f142
          have g142 := (show v142.toInt = lpI (g 2) ∧ 0 ≤ lpI (g 2) ∧ lpI (g 2) ≤ 1 from ⟨by rw [e142, show v20.toInt = g 2 by omega], (lpI_bd _).1, (lpI_bd _).2⟩)
          refine ff_if_eq hx hb (eX12_lookAtDate (150, .ifCond .eq 9, 3) (List.mem_of_getElem? (i := 84) rfl)) (tgt := 159) rfl (fun c143 => ?_) (fun c143 => ?_)
          · skip
            refine ff_ldc2 (n := 365) hx hb hown h2 (clX12_ok 111 365 (List.mem_of_getElem? (i := 10) rfl)) (eX12_lookAtDate (159, .ldc2_w 111, 3) (List.mem_of_getElem? (i := 87) rfl)) (fun v144 e144 => ?_)
            refine zu_S (vs := [.long v140, .long v141, .long v144]) (rest := []) hx hb hml hown hts0 zu_BT (hX12_isIn l v140 v141 v144) ⟨rfl, rfl⟩ ⟨by decide, by decide⟩ ⟨by decide, by decide⟩ (tb_7 47 rfl rfl) (tb_1 12 rfl rfl) (tb_7 45 rfl rfl) (tb_7 46 rfl rfl) (show yX12_isIn.cls ≠ "java/lang/invoke/MethodHandle" ∧ yX12_isIn.cls ≠ "java/lang/invoke/VarHandle" ∧ (parseMethodDescriptor yX12_isIn.desc).map (fun d => d.parameters.length) = some 3 by decide +kernel) rfl (fun _ _ _ => trivial) hl37.1 (Nat.le_of_ble_eq_true rfl) (eX12_lookAtDate (162, .invokestatic 130, 3) (List.mem_of_getElem? (i := 88) rfl)) (fun w145 f145 => ?_)
            obtain ⟨v145, rfl, e145⟩ := f145
            refine ff_if_ne hx hb (eX12_lookAtDate (165, .ifCond .ne 10, 3) (List.mem_of_getElem? (i := 89) rfl)) (tgt := 175) rfl (fun c146 => ?_) (fun c146 => ?_)
            · skip
              have d147 : ¬ ¬ (1 ≤ g 4 ∧ g 4 ≤ 365 + lpI (g 2)) := by omega
              refine lv_aload_n hx hb (eX12_lookAtDate (175, .aload_n 0, 1) (List.mem_of_getElem? (i := 94) rfl)) rfl (lv_at hl37 6 rfl) ?_
              refine lv_lload_n hx hb (eX12_lookAtDate (176, .lload_n 2, 1) (List.mem_of_getElem? (i := 95) rfl)) rfl (lv_at hl37 4 rfl) ?_
              refine ff_iconst hx hb (eX12_lookAtDate (177, .iconst 1, 1) (List.mem_of_getElem? (i := 96) rfl)) (by decide) (by decide) (fun v148 e148 => ?_)
              refine ff_iconst hx hb (eX12_lookAtDate (178, .iconst 1, 1) (List.mem_of_getElem? (i := 97) rfl)) (by decide) (by decide) (fun v149 e149 => ?_)
              refine zu_S (vs := [.long v20, .int v148, .int v149]) (rest := [.ref a]) hx hb hml hown hts0 zu_BT (hX12_dayOfW l v20 v148 v149 (by omega) (by omega) (by omega) (by omega) (by omega) (by omega)) ⟨rfl, rfl⟩ ⟨by decide, by decide⟩ ⟨by decide, by decide⟩ (tb_6 135 rfl rfl) (tb_1 12 rfl rfl) (tb_6 133 rfl rfl) (tb_6 134 rfl rfl) (show yX12_dayOf.cls ≠ "java/lang/invoke/MethodHandle" ∧ yX12_dayOf.cls ≠ "java/lang/invoke/VarHandle" ∧ (parseMethodDescriptor yX12_dayOf.desc).map (fun d => d.parameters.length) = some 3 by decide +kernel) rfl (fun _ _ _ => trivial) hl37.1 (Nat.le_of_ble_eq_true rfl) (eX12_lookAtDate (179, .invokestatic 70, 3) (List.mem_of_getElem? (i := 98) rfl)) (fun w150 f150 => ?_)
              obtain ⟨v150, rfl, e150⟩ := f150
              have g150 := (show v150.toInt = nuI (g 2) 1 1 by rw [e150, show v20.toInt = g 2 by omega, show v148.toInt = 1 by omega, show v149.toInt = 1 by omega])
              refine lv_iload hx hb (eX12_lookAtDate (182, .iload 4, 2) (List.mem_of_getElem? (i := 99) rfl)) (lv_at hl37 3 rfl) ?_
              refine ff_i2l hx hb (eX12_lookAtDate (184, .i2l, 1) (List.mem_of_getElem? (i := 100) rfl)) (fun v151 e151 => ?_)
              refine ff_ladd hx hb (eX12_lookAtDate (185, .ladd, 1) (List.mem_of_getElem? (i := 101) rfl)) (by omega) (by omega) (fun v152 e152 => ?_)
              refine ff_lconst hx hb (eX12_lookAtDate (186, .lconst 1, 1) (List.mem_of_getElem? (i := 102) rfl)) rfl (fun v153 e153 => ?_)
              refine ff_lsub hx hb (eX12_lookAtDate (187, .lsub, 1) (List.mem_of_getElem? (i := 103) rfl)) (by omega) (by omega) (fun v154 e154 => ?_)
              have hld : v154.toInt = ldD g := by unfold ldD; rw [if_neg (show ¬ (g 1 = 0 ∨ g 1 = 4) by omega), if_pos (show g 1 = 2 by omega), ← nu_first]; omega
              refine tz_put (r := 11) (k := 38) (t := (1, (-9223372036854775808), 9223372036854775807)) hx hb hD hh35 ha rfl rfl ((hcl11 407 38 (1, (-9223372036854775808), 9223372036854775807) (by decide) rfl).2 (by decide)) (tz_l (zn_i64 _).1 (zn_i64 _).2) (eX12_lookAtDate (188, .putfield 407, 3) (List.mem_of_getElem? (i := 104) rfl)) (fun H155 lo155 hh155 hf155 hk155 _ hq155 => ?_)
              have mf155_a_39 := (hk155.1 a 11 39 11 0 fsX12 ha rfl (by decide) (by decide)).trans hf2
              have kp155 := kp2.trans (hk155.mono (ms' := lkM) (fun x hx => by cases List.mem_singleton.mp hx; decide))
              have jv155 := jv2.kept ha hk155 (by decide)
              have jg155 := jg2.kept ha hk155 (by decide)
              refine lv_goto hx hb (eX12_lookAtDate (191, .goto 101, 3) (List.mem_of_getElem? (i := 105) rfl)) (tgt := 292) rfl ?_
              exact jn292 v154 v1 ls37 _ _ hh155 kp155 jv155 jg155 hf155 mf155_a_39 (by omega) hld (by first | (simp only [ldb, if_neg d18, if_neg d73, if_pos d139, if_neg d147, up_eq]; done) | (simp only [ldb, if_neg d18, if_neg d73, if_pos d139, if_neg d147, up_eq] <;> rfl) | rfl) (by first | (simp only [ldHx, if_neg d18, if_neg d73, if_pos d139, if_neg d147, up_eq]; done) | (simp only [ldHx, if_neg d18, if_neg d73, if_pos d139, if_neg d147, up_eq] <;> rfl) | rfl) (lv_sub hl37 [6] rfl)
            · skip
              have d156 : ¬ (1 ≤ g 4 ∧ g 4 ≤ 365 + lpI (g 2)) := by omega
              refine lv_aload_n hx hb (eX12_lookAtDate (168, .aload_n 0, 1) (List.mem_of_getElem? (i := 90) rfl)) rfl (lv_at hl37 6 rfl) ?_
              refine lv_iload hx hb (eX12_lookAtDate (169, .iload 6, 2) (List.mem_of_getElem? (i := 91) rfl)) (lv_at hl37 1 rfl) ?_
              refine tz_rowV (As := [.int v32]) (st := []) (b := a) (C := RX12) (Ts := gT) hx hb hml hown h2 (fun _ h => h) (hX12_bad l D cA ro sz H0 a v32 (g 5) T (sg) ha (by omega)) ⟨rfl, rfl⟩ ⟨by decide, by decide⟩ ⟨by decide, by decide⟩ (tb_8 47 rfl rfl) (tb_1 12 rfl rfl) (tb_8 44 rfl rfl) (tb_8 46 rfl rfl) (tb_0 37 rfl rfl) (show yX12_bad.cls ≠ "java/lang/invoke/MethodHandle" ∧ yX12_bad.cls ≠ "java/lang/invoke/VarHandle" ∧ (parseMethodDescriptor yX12_bad.desc).map (fun d => d.parameters.length) = some 1 by decide +kernel) zs_blind (zs_ob hh35 ha (show RTg[11]? = some (0, 11, 0, fsX12) from rfl) (zCX12 hKn.1)) (fun U hU hW => ⟨rfl, by rw [hU]; exact hh35.l0, zKb s U hW.alike hKn, by rw [hU]; exact jv2⟩) hh35.2.2.1 hl37.1 (Nat.le_of_ble_eq_true rfl) (eX12_lookAtDate (171, .invokevirtual 335, 3) (List.mem_of_getElem? (i := 92) rfl)) (fun r157 s157 t157 lo157 g157 f157 l157 => ?_)
              obtain ⟨q157, z157, c157, jv157⟩ := f157
              cases q157
              rw [g157] at c157
              have hh157 : zh_ok D cA RTg ro sz H0 t157.heap lo157 := ⟨z157.1, z157.2.1, l157, z157.2.2.2⟩
              have kp157 := kp2.trans (c157.mono (ms' := lkM) (by decide))
              generalize hx157 : bdG (g 5) sg = x157 at jv157
              have uu157 := jv157.2.2
              unfold vOK at uu157
              have bb157 := byI_bd T x157.1
              have jg157 := jg2.kept ha c157 (by decide)
              have mf157_39 := (c157.1 a 11 39 11 0 fsX12 ha rfl (by decide) (by decide)).trans hf2
              refine W.eq (g2 := F0 m 174 ls37 []) rfl ?_
              have hfin : ((sg.1, sg.2.1, ldb g sg.2.2) : uS) = x157 := by rw [← hx157]; simp only [ldb, if_neg d18, if_neg d73, if_pos d139, if_pos d156] <;> rfl
              have hfh : ldHx g = 0 := by simp only [ldHx, if_neg d18, if_neg d73, if_pos d139, if_pos d156]
              obtain ⟨dv0, fd0, -, -⟩ := zh_fT (k := 38) (t := (1, (-9223372036854775808), 9223372036854775807)) hh157 ha (show RTg[11]? = some (0, 11, 0, fsX12) from rfl) rfl
              exact W.vret hx hb hr (fun t ht hW => ⟨rfl, by rw [ht]; exact hh157.l0, by rw [ht]; exact kp157, by rw [ht, hfin]; exact jv157, by rw [ht]; exact jg157, _, _, by rw [ht]; exact mf157_39, by rw [hfh]; omega, by rw [ht]; exact fd0, fun q9 => by omega⟩) hh157.2.2.1 (eX12_lookAtDate (174, .return_, 1) (List.mem_of_getElem? (i := 93) rfl))
          · skip
            refine ff_ldc2 (n := 366) hx hb hown h2 (clX12_ok 410 366 (List.mem_of_getElem? (i := 34) rfl)) (eX12_lookAtDate (153, .ldc2_w 410, 3) (List.mem_of_getElem? (i := 85) rfl)) (fun v158 e158 => ?_)
            refine lv_goto hx hb (eX12_lookAtDate (156, .goto 6, 3) (List.mem_of_getElem? (i := 86) rfl)) (tgt := 162) rfl ?_
            refine zu_S (vs := [.long v140, .long v141, .long v158]) (rest := []) hx hb hml hown hts0 zu_BT (hX12_isIn l v140 v141 v158) ⟨rfl, rfl⟩ ⟨by decide, by decide⟩ ⟨by decide, by decide⟩ (tb_7 47 rfl rfl) (tb_1 12 rfl rfl) (tb_7 45 rfl rfl) (tb_7 46 rfl rfl) (show yX12_isIn.cls ≠ "java/lang/invoke/MethodHandle" ∧ yX12_isIn.cls ≠ "java/lang/invoke/VarHandle" ∧ (parseMethodDescriptor yX12_isIn.desc).map (fun d => d.parameters.length) = some 3 by decide +kernel) rfl (fun _ _ _ => trivial) hl37.1 (Nat.le_of_ble_eq_true rfl) (eX12_lookAtDate (162, .invokestatic 130, 3) (List.mem_of_getElem? (i := 88) rfl)) (fun w159 f159 => ?_)
            obtain ⟨v159, rfl, e159⟩ := f159
            refine ff_if_ne hx hb (eX12_lookAtDate (165, .ifCond .ne 10, 3) (List.mem_of_getElem? (i := 89) rfl)) (tgt := 175) rfl (fun c160 => ?_) (fun c160 => ?_)
            · skip
              have d161 : ¬ ¬ (1 ≤ g 4 ∧ g 4 ≤ 365 + lpI (g 2)) := by omega
              refine lv_aload_n hx hb (eX12_lookAtDate (175, .aload_n 0, 1) (List.mem_of_getElem? (i := 94) rfl)) rfl (lv_at hl37 6 rfl) ?_
              refine lv_lload_n hx hb (eX12_lookAtDate (176, .lload_n 2, 1) (List.mem_of_getElem? (i := 95) rfl)) rfl (lv_at hl37 4 rfl) ?_
              refine ff_iconst hx hb (eX12_lookAtDate (177, .iconst 1, 1) (List.mem_of_getElem? (i := 96) rfl)) (by decide) (by decide) (fun v162 e162 => ?_)
              refine ff_iconst hx hb (eX12_lookAtDate (178, .iconst 1, 1) (List.mem_of_getElem? (i := 97) rfl)) (by decide) (by decide) (fun v163 e163 => ?_)
              refine zu_S (vs := [.long v20, .int v162, .int v163]) (rest := [.ref a]) hx hb hml hown hts0 zu_BT (hX12_dayOfW l v20 v162 v163 (by omega) (by omega) (by omega) (by omega) (by omega) (by omega)) ⟨rfl, rfl⟩ ⟨by decide, by decide⟩ ⟨by decide, by decide⟩ (tb_6 135 rfl rfl) (tb_1 12 rfl rfl) (tb_6 133 rfl rfl) (tb_6 134 rfl rfl) (show yX12_dayOf.cls ≠ "java/lang/invoke/MethodHandle" ∧ yX12_dayOf.cls ≠ "java/lang/invoke/VarHandle" ∧ (parseMethodDescriptor yX12_dayOf.desc).map (fun d => d.parameters.length) = some 3 by decide +kernel) rfl (fun _ _ _ => trivial) hl37.1 (Nat.le_of_ble_eq_true rfl) (eX12_lookAtDate (179, .invokestatic 70, 3) (List.mem_of_getElem? (i := 98) rfl)) (fun w164 f164 => ?_)
              obtain ⟨v164, rfl, e164⟩ := f164
              have g164 := (show v164.toInt = nuI (g 2) 1 1 by rw [e164, show v20.toInt = g 2 by omega, show v162.toInt = 1 by omega, show v163.toInt = 1 by omega])
              refine lv_iload hx hb (eX12_lookAtDate (182, .iload 4, 2) (List.mem_of_getElem? (i := 99) rfl)) (lv_at hl37 3 rfl) ?_
              refine ff_i2l hx hb (eX12_lookAtDate (184, .i2l, 1) (List.mem_of_getElem? (i := 100) rfl)) (fun v165 e165 => ?_)
              refine ff_ladd hx hb (eX12_lookAtDate (185, .ladd, 1) (List.mem_of_getElem? (i := 101) rfl)) (by omega) (by omega) (fun v166 e166 => ?_)
              refine ff_lconst hx hb (eX12_lookAtDate (186, .lconst 1, 1) (List.mem_of_getElem? (i := 102) rfl)) rfl (fun v167 e167 => ?_)
              refine ff_lsub hx hb (eX12_lookAtDate (187, .lsub, 1) (List.mem_of_getElem? (i := 103) rfl)) (by omega) (by omega) (fun v168 e168 => ?_)
              have hld : v168.toInt = ldD g := by unfold ldD; rw [if_neg (show ¬ (g 1 = 0 ∨ g 1 = 4) by omega), if_pos (show g 1 = 2 by omega), ← nu_first]; omega
              refine tz_put (r := 11) (k := 38) (t := (1, (-9223372036854775808), 9223372036854775807)) hx hb hD hh35 ha rfl rfl ((hcl11 407 38 (1, (-9223372036854775808), 9223372036854775807) (by decide) rfl).2 (by decide)) (tz_l (zn_i64 _).1 (zn_i64 _).2) (eX12_lookAtDate (188, .putfield 407, 3) (List.mem_of_getElem? (i := 104) rfl)) (fun H169 lo169 hh169 hf169 hk169 _ hq169 => ?_)
              have mf169_a_39 := (hk169.1 a 11 39 11 0 fsX12 ha rfl (by decide) (by decide)).trans hf2
              have kp169 := kp2.trans (hk169.mono (ms' := lkM) (fun x hx => by cases List.mem_singleton.mp hx; decide))
              have jv169 := jv2.kept ha hk169 (by decide)
              have jg169 := jg2.kept ha hk169 (by decide)
              refine lv_goto hx hb (eX12_lookAtDate (191, .goto 101, 3) (List.mem_of_getElem? (i := 105) rfl)) (tgt := 292) rfl ?_
              exact jn292 v168 v1 ls37 _ _ hh169 kp169 jv169 jg169 hf169 mf169_a_39 (by omega) hld (by first | (simp only [ldb, if_neg d18, if_neg d73, if_pos d139, if_neg d161, up_eq]; done) | (simp only [ldb, if_neg d18, if_neg d73, if_pos d139, if_neg d161, up_eq] <;> rfl) | rfl) (by first | (simp only [ldHx, if_neg d18, if_neg d73, if_pos d139, if_neg d161, up_eq]; done) | (simp only [ldHx, if_neg d18, if_neg d73, if_pos d139, if_neg d161, up_eq] <;> rfl) | rfl) (lv_sub hl37 [6] rfl)
            · skip
              have d170 : ¬ (1 ≤ g 4 ∧ g 4 ≤ 365 + lpI (g 2)) := by omega
              refine lv_aload_n hx hb (eX12_lookAtDate (168, .aload_n 0, 1) (List.mem_of_getElem? (i := 90) rfl)) rfl (lv_at hl37 6 rfl) ?_
              refine lv_iload hx hb (eX12_lookAtDate (169, .iload 6, 2) (List.mem_of_getElem? (i := 91) rfl)) (lv_at hl37 1 rfl) ?_
              refine tz_rowV (As := [.int v32]) (st := []) (b := a) (C := RX12) (Ts := gT) hx hb hml hown h2 (fun _ h => h) (hX12_bad l D cA ro sz H0 a v32 (g 5) T (sg) ha (by omega)) ⟨rfl, rfl⟩ ⟨by decide, by decide⟩ ⟨by decide, by decide⟩ (tb_8 47 rfl rfl) (tb_1 12 rfl rfl) (tb_8 44 rfl rfl) (tb_8 46 rfl rfl) (tb_0 37 rfl rfl) (show yX12_bad.cls ≠ "java/lang/invoke/MethodHandle" ∧ yX12_bad.cls ≠ "java/lang/invoke/VarHandle" ∧ (parseMethodDescriptor yX12_bad.desc).map (fun d => d.parameters.length) = some 1 by decide +kernel) zs_blind (zs_ob hh35 ha (show RTg[11]? = some (0, 11, 0, fsX12) from rfl) (zCX12 hKn.1)) (fun U hU hW => ⟨rfl, by rw [hU]; exact hh35.l0, zKb s U hW.alike hKn, by rw [hU]; exact jv2⟩) hh35.2.2.1 hl37.1 (Nat.le_of_ble_eq_true rfl) (eX12_lookAtDate (171, .invokevirtual 335, 3) (List.mem_of_getElem? (i := 92) rfl)) (fun r171 s171 t171 lo171 g171 f171 l171 => ?_)
              obtain ⟨q171, z171, c171, jv171⟩ := f171
              cases q171
              rw [g171] at c171
              have hh171 : zh_ok D cA RTg ro sz H0 t171.heap lo171 := ⟨z171.1, z171.2.1, l171, z171.2.2.2⟩
              have kp171 := kp2.trans (c171.mono (ms' := lkM) (by decide))
              generalize hx171 : bdG (g 5) sg = x171 at jv171
              have uu171 := jv171.2.2
              unfold vOK at uu171
              have bb171 := byI_bd T x171.1
              have jg171 := jg2.kept ha c171 (by decide)
              have mf171_39 := (c171.1 a 11 39 11 0 fsX12 ha rfl (by decide) (by decide)).trans hf2
              refine W.eq (g2 := F0 m 174 ls37 []) rfl ?_
              have hfin : ((sg.1, sg.2.1, ldb g sg.2.2) : uS) = x171 := by rw [← hx171]; simp only [ldb, if_neg d18, if_neg d73, if_pos d139, if_pos d170] <;> rfl
              have hfh : ldHx g = 0 := by simp only [ldHx, if_neg d18, if_neg d73, if_pos d139, if_pos d170]
              obtain ⟨dv0, fd0, -, -⟩ := zh_fT (k := 38) (t := (1, (-9223372036854775808), 9223372036854775807)) hh171 ha (show RTg[11]? = some (0, 11, 0, fsX12) from rfl) rfl
              exact W.vret hx hb hr (fun t ht hW => ⟨rfl, by rw [ht]; exact hh171.l0, by rw [ht]; exact kp171, by rw [ht, hfin]; exact jv171, by rw [ht]; exact jg171, _, _, by rw [ht]; exact mf171_39, by rw [hfh]; omega, by rw [ht]; exact fd0, fun q9 => by omega⟩) hh171.2.2.1 (eX12_lookAtDate (174, .return_, 1) (List.mem_of_getElem? (i := 93) rfl))
      · skip
        have d172 : g 1 = 0 ∨ g 1 = 4 := by omega
        refine lv_iload hx hb (eX12_lookAtDate (66, .iload 4, 2) (List.mem_of_getElem? (i := 40) rfl)) (lv_at hl37 3 rfl) ?_
        refine ff_i2l hx hb (eX12_lookAtDate (68, .i2l, 1) (List.mem_of_getElem? (i := 41) rfl)) (fun v173 e173 => ?_)
        refine ff_lconst hx hb (eX12_lookAtDate (69, .lconst 1, 1) (List.mem_of_getElem? (i := 42) rfl)) rfl (fun v174 e174 => ?_)
        refine ff_ldc2 (n := 12) hx hb hown h2 (clX12_ok 153 12 (List.mem_of_getElem? (i := 17) rfl)) (eX12_lookAtDate (70, .ldc2_w 153, 3) (List.mem_of_getElem? (i := 43) rfl)) (fun v175 e175 => ?_)
        refine zu_S (vs := [.long v173, .long v174, .long v175]) (rest := []) hx hb hml hown hts0 zu_BT (hX12_isIn l v173 v174 v175) ⟨rfl, rfl⟩ ⟨by decide, by decide⟩ ⟨by decide, by decide⟩ (tb_7 47 rfl rfl) (tb_1 12 rfl rfl) (tb_7 45 rfl rfl) (tb_7 46 rfl rfl) (show yX12_isIn.cls ≠ "java/lang/invoke/MethodHandle" ∧ yX12_isIn.cls ≠ "java/lang/invoke/VarHandle" ∧ (parseMethodDescriptor yX12_isIn.desc).map (fun d => d.parameters.length) = some 3 by decide +kernel) rfl (fun _ _ _ => trivial) hl37.1 (Nat.le_of_ble_eq_true rfl) (eX12_lookAtDate (73, .invokestatic 130, 3) (List.mem_of_getElem? (i := 44) rfl)) (fun w176 f176 => ?_)
        obtain ⟨v176, rfl, e176⟩ := f176
        refine ff_if_ne hx hb (eX12_lookAtDate (76, .ifCond .ne 10, 3) (List.mem_of_getElem? (i := 45) rfl)) (tgt := 86) rfl (fun c177 => ?_) (fun c177 => ?_)
        · skip
          have d178 : ¬ ¬ (1 ≤ g 4 ∧ g 4 ≤ 12) := by omega
          refine lv_iload_n hx hb (eX12_lookAtDate (86, .iload_n 1, 1) (List.mem_of_getElem? (i := 50) rfl)) rfl (lv_at hl37 5 rfl) ?_
          refine ff_if_ne hx hb (eX12_lookAtDate (87, .ifCond .ne 27, 3) (List.mem_of_getElem? (i := 51) rfl)) (tgt := 114) rfl (fun c179 => ?_) (fun c179 => ?_)
          · skip
            have d180 : ¬ (g 1 = 0 ∧ ¬ (1 ≤ g 6 ∧ g 6 ≤ mlI (g 2) (g 4))) := by omega
            refine lv_aload_n hx hb (eX12_lookAtDate (114, .aload_n 0, 1) (List.mem_of_getElem? (i := 65) rfl)) rfl (lv_at hl37 6 rfl) ?_
            refine lv_lload_n hx hb (eX12_lookAtDate (115, .lload_n 2, 1) (List.mem_of_getElem? (i := 66) rfl)) rfl (lv_at hl37 4 rfl) ?_
            refine lv_iload hx hb (eX12_lookAtDate (116, .iload 4, 2) (List.mem_of_getElem? (i := 67) rfl)) (lv_at hl37 3 rfl) ?_
            refine lv_iload_n hx hb (eX12_lookAtDate (118, .iload_n 1, 1) (List.mem_of_getElem? (i := 68) rfl)) rfl (lv_at hl37 5 rfl) ?_
            refine ff_if_ne hx hb (eX12_lookAtDate (119, .ifCond .ne 8, 3) (List.mem_of_getElem? (i := 69) rfl)) (tgt := 127) rfl (fun c181 => ?_) (fun c181 => ?_)
            · skip
              refine ff_iconst hx hb (eX12_lookAtDate (127, .iconst 1, 1) (List.mem_of_getElem? (i := 72) rfl)) (by decide) (by decide) (fun v182 e182 => ?_)
              refine zu_S (vs := [.long v20, .int v24, .int v182]) (rest := [.ref a]) hx hb hml hown hts0 zu_BT (hX12_dayOfW l v20 v24 v182 (by omega) (by omega) (by omega) (by omega) (by omega) (by omega)) ⟨rfl, rfl⟩ ⟨by decide, by decide⟩ ⟨by decide, by decide⟩ (tb_6 135 rfl rfl) (tb_1 12 rfl rfl) (tb_6 133 rfl rfl) (tb_6 134 rfl rfl) (show yX12_dayOf.cls ≠ "java/lang/invoke/MethodHandle" ∧ yX12_dayOf.cls ≠ "java/lang/invoke/VarHandle" ∧ (parseMethodDescriptor yX12_dayOf.desc).map (fun d => d.parameters.length) = some 3 by decide +kernel) rfl (fun _ _ _ => trivial) hl37.1 (Nat.le_of_ble_eq_true rfl) (eX12_lookAtDate (128, .invokestatic 70, 3) (List.mem_of_getElem? (i := 73) rfl)) (fun w183 f183 => ?_)
              obtain ⟨v183, rfl, e183⟩ := f183
              have g183 := (show v183.toInt = nuI (g 2) (g 4) 1 by rw [e183, show v20.toInt = g 2 by omega, show v24.toInt = (g 4) by omega, show v182.toInt = 1 by omega])
              have hld : v183.toInt = ldD g := by unfold ldD; rw [if_pos (show g 1 = 0 ∨ g 1 = 4 by omega)]; first | (rw [if_pos (show g 1 = 0 by omega)]; omega) | (rw [if_neg (show ¬ g 1 = 0 by omega)]; omega)
              refine tz_put (r := 11) (k := 38) (t := (1, (-9223372036854775808), 9223372036854775807)) hx hb hD hh35 ha rfl rfl ((hcl11 407 38 (1, (-9223372036854775808), 9223372036854775807) (by decide) rfl).2 (by decide)) (tz_l (zn_i64 _).1 (zn_i64 _).2) (eX12_lookAtDate (131, .putfield 407, 3) (List.mem_of_getElem? (i := 74) rfl)) (fun H184 lo184 hh184 hf184 hk184 _ hq184 => ?_)
              have mf184_a_39 := (hk184.1 a 11 39 11 0 fsX12 ha rfl (by decide) (by decide)).trans hf2
              have kp184 := kp2.trans (hk184.mono (ms' := lkM) (fun x hx => by cases List.mem_singleton.mp hx; decide))
              have jv184 := jv2.kept ha hk184 (by decide)
              have jg184 := jg2.kept ha hk184 (by decide)
              refine lv_goto hx hb (eX12_lookAtDate (134, .goto 158, 3) (List.mem_of_getElem? (i := 75) rfl)) (tgt := 292) rfl ?_
              exact jn292 v183 v1 ls37 _ _ hh184 kp184 jv184 jg184 hf184 mf184_a_39 (by omega) hld (by first | (simp only [ldb, if_neg d18, if_pos d172, if_neg d178, if_neg d180, up_eq]; done) | (simp only [ldb, if_neg d18, if_pos d172, if_neg d178, if_neg d180, up_eq] <;> rfl) | rfl) (by first | (simp only [ldHx, if_neg d18, if_pos d172, if_neg d178, if_neg d180, up_eq]; done) | (simp only [ldHx, if_neg d18, if_pos d172, if_neg d178, if_neg d180, up_eq] <;> rfl) | rfl) (lv_sub hl37 [6] rfl)
            · skip
              refine lv_iload hx hb (eX12_lookAtDate (122, .iload 5, 2) (List.mem_of_getElem? (i := 70) rfl)) (lv_at hl37 2 rfl) ?_
              refine lv_goto hx hb (eX12_lookAtDate (124, .goto 4, 3) (List.mem_of_getElem? (i := 71) rfl)) (tgt := 128) rfl ?_
              refine zu_S (vs := [.long v20, .int v24, .int v28]) (rest := [.ref a]) hx hb hml hown hts0 zu_BT (hX12_dayOfW l v20 v24 v28 (by omega) (by omega) (by omega) (by omega) (by omega) (by omega)) ⟨rfl, rfl⟩ ⟨by decide, by decide⟩ ⟨by decide, by decide⟩ (tb_6 135 rfl rfl) (tb_1 12 rfl rfl) (tb_6 133 rfl rfl) (tb_6 134 rfl rfl) (show yX12_dayOf.cls ≠ "java/lang/invoke/MethodHandle" ∧ yX12_dayOf.cls ≠ "java/lang/invoke/VarHandle" ∧ (parseMethodDescriptor yX12_dayOf.desc).map (fun d => d.parameters.length) = some 3 by decide +kernel) rfl (fun _ _ _ => trivial) hl37.1 (Nat.le_of_ble_eq_true rfl) (eX12_lookAtDate (128, .invokestatic 70, 3) (List.mem_of_getElem? (i := 73) rfl)) (fun w185 f185 => ?_)
              obtain ⟨v185, rfl, e185⟩ := f185
              have g185 := (show v185.toInt = nuI (g 2) (g 4) (g 6) by rw [e185, show v20.toInt = g 2 by omega, show v24.toInt = (g 4) by omega, show v28.toInt = (g 6) by omega])
              have hld : v185.toInt = ldD g := by unfold ldD; rw [if_pos (show g 1 = 0 ∨ g 1 = 4 by omega)]; first | (rw [if_pos (show g 1 = 0 by omega)]; omega) | (rw [if_neg (show ¬ g 1 = 0 by omega)]; omega)
              refine tz_put (r := 11) (k := 38) (t := (1, (-9223372036854775808), 9223372036854775807)) hx hb hD hh35 ha rfl rfl ((hcl11 407 38 (1, (-9223372036854775808), 9223372036854775807) (by decide) rfl).2 (by decide)) (tz_l (zn_i64 _).1 (zn_i64 _).2) (eX12_lookAtDate (131, .putfield 407, 3) (List.mem_of_getElem? (i := 74) rfl)) (fun H186 lo186 hh186 hf186 hk186 _ hq186 => ?_)
              have mf186_a_39 := (hk186.1 a 11 39 11 0 fsX12 ha rfl (by decide) (by decide)).trans hf2
              have kp186 := kp2.trans (hk186.mono (ms' := lkM) (fun x hx => by cases List.mem_singleton.mp hx; decide))
              have jv186 := jv2.kept ha hk186 (by decide)
              have jg186 := jg2.kept ha hk186 (by decide)
              refine lv_goto hx hb (eX12_lookAtDate (134, .goto 158, 3) (List.mem_of_getElem? (i := 75) rfl)) (tgt := 292) rfl ?_
              exact jn292 v185 v1 ls37 _ _ hh186 kp186 jv186 jg186 hf186 mf186_a_39 (by omega) hld (by first | (simp only [ldb, if_neg d18, if_pos d172, if_neg d178, if_neg d180, up_eq]; done) | (simp only [ldb, if_neg d18, if_pos d172, if_neg d178, if_neg d180, up_eq] <;> rfl) | rfl) (by first | (simp only [ldHx, if_neg d18, if_pos d172, if_neg d178, if_neg d180, up_eq]; done) | (simp only [ldHx, if_neg d18, if_pos d172, if_neg d178, if_neg d180, up_eq] <;> rfl) | rfl) (lv_sub hl37 [6] rfl)
          · skip
            refine lv_iload hx hb (eX12_lookAtDate (90, .iload 5, 2) (List.mem_of_getElem? (i := 52) rfl)) (lv_at hl37 2 rfl) ?_
            refine ff_i2l hx hb (eX12_lookAtDate (92, .i2l, 1) (List.mem_of_getElem? (i := 53) rfl)) (fun v187 e187 => ?_)
            refine ff_lconst hx hb (eX12_lookAtDate (93, .lconst 1, 1) (List.mem_of_getElem? (i := 54) rfl)) rfl (fun v188 e188 => ?_)
            refine lv_lload_n hx hb (eX12_lookAtDate (94, .lload_n 2, 1) (List.mem_of_getElem? (i := 55) rfl)) rfl (lv_at hl37 4 rfl) ?_
            refine lv_iload hx hb (eX12_lookAtDate (95, .iload 4, 2) (List.mem_of_getElem? (i := 56) rfl)) (lv_at hl37 3 rfl) ?_
            refine zu_S (vs := [.long v20, .int v24]) (rest := [.long v188, .long v187]) hx hb hml hown hts0 zu_BT (hX12_daysOf l v20 v24 (by omega) (by omega)) ⟨rfl, rfl⟩ ⟨by decide, by decide⟩ ⟨by decide, by decide⟩ (tb_7 51 rfl rfl) (tb_1 12 rfl rfl) (tb_7 49 rfl rfl) (tb_7 50 rfl rfl) (show yX12_daysOf.cls ≠ "java/lang/invoke/MethodHandle" ∧ yX12_daysOf.cls ≠ "java/lang/invoke/VarHandle" ∧ (parseMethodDescriptor yX12_daysOf.desc).map (fun d => d.parameters.length) = some 2 by decide +kernel) rfl (fun _ _ _ => trivial) hl37.1 (Nat.le_of_ble_eq_true rfl) (eX12_lookAtDate (97, .invokestatic 155, 3) (List.mem_of_getElem? (i := 57) rfl)) (fun w189 f189 => ?_)
            obtain ⟨v189, rfl, e189⟩ := f189
            have g189 := (show v189.toInt = mlI (g 2) (g 4) by rw [e189, show v20.toInt = g 2 by omega, show v24.toInt = g 4 by omega])
            refine ff_i2l hx hb (eX12_lookAtDate (100, .i2l, 1) (List.mem_of_getElem? (i := 58) rfl)) (fun v190 e190 => ?_)
            refine zu_S (vs := [.long v187, .long v188, .long v190]) (rest := []) hx hb hml hown hts0 zu_BT (hX12_isIn l v187 v188 v190) ⟨rfl, rfl⟩ ⟨by decide, by decide⟩ ⟨by decide, by decide⟩ (tb_7 47 rfl rfl) (tb_1 12 rfl rfl) (tb_7 45 rfl rfl) (tb_7 46 rfl rfl) (show yX12_isIn.cls ≠ "java/lang/invoke/MethodHandle" ∧ yX12_isIn.cls ≠ "java/lang/invoke/VarHandle" ∧ (parseMethodDescriptor yX12_isIn.desc).map (fun d => d.parameters.length) = some 3 by decide +kernel) rfl (fun _ _ _ => trivial) hl37.1 (Nat.le_of_ble_eq_true rfl) (eX12_lookAtDate (101, .invokestatic 130, 3) (List.mem_of_getElem? (i := 59) rfl)) (fun w191 f191 => ?_)
            obtain ⟨v191, rfl, e191⟩ := f191
            refine ff_if_ne hx hb (eX12_lookAtDate (104, .ifCond .ne 10, 3) (List.mem_of_getElem? (i := 60) rfl)) (tgt := 114) rfl (fun c192 => ?_) (fun c192 => ?_)
            · skip
              have d193 : ¬ (g 1 = 0 ∧ ¬ (1 ≤ g 6 ∧ g 6 ≤ mlI (g 2) (g 4))) := by omega
              refine lv_aload_n hx hb (eX12_lookAtDate (114, .aload_n 0, 1) (List.mem_of_getElem? (i := 65) rfl)) rfl (lv_at hl37 6 rfl) ?_
              refine lv_lload_n hx hb (eX12_lookAtDate (115, .lload_n 2, 1) (List.mem_of_getElem? (i := 66) rfl)) rfl (lv_at hl37 4 rfl) ?_
              refine lv_iload hx hb (eX12_lookAtDate (116, .iload 4, 2) (List.mem_of_getElem? (i := 67) rfl)) (lv_at hl37 3 rfl) ?_
              refine lv_iload_n hx hb (eX12_lookAtDate (118, .iload_n 1, 1) (List.mem_of_getElem? (i := 68) rfl)) rfl (lv_at hl37 5 rfl) ?_
              refine ff_if_ne hx hb (eX12_lookAtDate (119, .ifCond .ne 8, 3) (List.mem_of_getElem? (i := 69) rfl)) (tgt := 127) rfl (fun c194 => ?_) (fun c194 => ?_)
              · skip
                refine ff_iconst hx hb (eX12_lookAtDate (127, .iconst 1, 1) (List.mem_of_getElem? (i := 72) rfl)) (by decide) (by decide) (fun v195 e195 => ?_)
                refine zu_S (vs := [.long v20, .int v24, .int v195]) (rest := [.ref a]) hx hb hml hown hts0 zu_BT (hX12_dayOfW l v20 v24 v195 (by omega) (by omega) (by omega) (by omega) (by omega) (by omega)) ⟨rfl, rfl⟩ ⟨by decide, by decide⟩ ⟨by decide, by decide⟩ (tb_6 135 rfl rfl) (tb_1 12 rfl rfl) (tb_6 133 rfl rfl) (tb_6 134 rfl rfl) (show yX12_dayOf.cls ≠ "java/lang/invoke/MethodHandle" ∧ yX12_dayOf.cls ≠ "java/lang/invoke/VarHandle" ∧ (parseMethodDescriptor yX12_dayOf.desc).map (fun d => d.parameters.length) = some 3 by decide +kernel) rfl (fun _ _ _ => trivial) hl37.1 (Nat.le_of_ble_eq_true rfl) (eX12_lookAtDate (128, .invokestatic 70, 3) (List.mem_of_getElem? (i := 73) rfl)) (fun w196 f196 => ?_)
                obtain ⟨v196, rfl, e196⟩ := f196
                have g196 := (show v196.toInt = nuI (g 2) (g 4) 1 by rw [e196, show v20.toInt = g 2 by omega, show v24.toInt = (g 4) by omega, show v195.toInt = 1 by omega])
                have hld : v196.toInt = ldD g := by unfold ldD; rw [if_pos (show g 1 = 0 ∨ g 1 = 4 by omega)]; first | (rw [if_pos (show g 1 = 0 by omega)]; omega) | (rw [if_neg (show ¬ g 1 = 0 by omega)]; omega)
                refine tz_put (r := 11) (k := 38) (t := (1, (-9223372036854775808), 9223372036854775807)) hx hb hD hh35 ha rfl rfl ((hcl11 407 38 (1, (-9223372036854775808), 9223372036854775807) (by decide) rfl).2 (by decide)) (tz_l (zn_i64 _).1 (zn_i64 _).2) (eX12_lookAtDate (131, .putfield 407, 3) (List.mem_of_getElem? (i := 74) rfl)) (fun H197 lo197 hh197 hf197 hk197 _ hq197 => ?_)
                have mf197_a_39 := (hk197.1 a 11 39 11 0 fsX12 ha rfl (by decide) (by decide)).trans hf2
                have kp197 := kp2.trans (hk197.mono (ms' := lkM) (fun x hx => by cases List.mem_singleton.mp hx; decide))
                have jv197 := jv2.kept ha hk197 (by decide)
                have jg197 := jg2.kept ha hk197 (by decide)
                refine lv_goto hx hb (eX12_lookAtDate (134, .goto 158, 3) (List.mem_of_getElem? (i := 75) rfl)) (tgt := 292) rfl ?_
                exact jn292 v196 v1 ls37 _ _ hh197 kp197 jv197 jg197 hf197 mf197_a_39 (by omega) hld (by first | (simp only [ldb, if_neg d18, if_pos d172, if_neg d178, if_neg d193, up_eq]; done) | (simp only [ldb, if_neg d18, if_pos d172, if_neg d178, if_neg d193, up_eq] <;> rfl) | rfl) (by first | (simp only [ldHx, if_neg d18, if_pos d172, if_neg d178, if_neg d193, up_eq]; done) | (simp only [ldHx, if_neg d18, if_pos d172, if_neg d178, if_neg d193, up_eq] <;> rfl) | rfl) (lv_sub hl37 [6] rfl)
              · skip
                refine lv_iload hx hb (eX12_lookAtDate (122, .iload 5, 2) (List.mem_of_getElem? (i := 70) rfl)) (lv_at hl37 2 rfl) ?_
                refine lv_goto hx hb (eX12_lookAtDate (124, .goto 4, 3) (List.mem_of_getElem? (i := 71) rfl)) (tgt := 128) rfl ?_
                refine zu_S (vs := [.long v20, .int v24, .int v28]) (rest := [.ref a]) hx hb hml hown hts0 zu_BT (hX12_dayOfW l v20 v24 v28 (by omega) (by omega) (by omega) (by omega) (by omega) (by omega)) ⟨rfl, rfl⟩ ⟨by decide, by decide⟩ ⟨by decide, by decide⟩ (tb_6 135 rfl rfl) (tb_1 12 rfl rfl) (tb_6 133 rfl rfl) (tb_6 134 rfl rfl) (show yX12_dayOf.cls ≠ "java/lang/invoke/MethodHandle" ∧ yX12_dayOf.cls ≠ "java/lang/invoke/VarHandle" ∧ (parseMethodDescriptor yX12_dayOf.desc).map (fun d => d.parameters.length) = some 3 by decide +kernel) rfl (fun _ _ _ => trivial) hl37.1 (Nat.le_of_ble_eq_true rfl) (eX12_lookAtDate (128, .invokestatic 70, 3) (List.mem_of_getElem? (i := 73) rfl)) (fun w198 f198 => ?_)
                obtain ⟨v198, rfl, e198⟩ := f198
                have g198 := (show v198.toInt = nuI (g 2) (g 4) (g 6) by rw [e198, show v20.toInt = g 2 by omega, show v24.toInt = (g 4) by omega, show v28.toInt = (g 6) by omega])
                have hld : v198.toInt = ldD g := by unfold ldD; rw [if_pos (show g 1 = 0 ∨ g 1 = 4 by omega)]; first | (rw [if_pos (show g 1 = 0 by omega)]; omega) | (rw [if_neg (show ¬ g 1 = 0 by omega)]; omega)
                refine tz_put (r := 11) (k := 38) (t := (1, (-9223372036854775808), 9223372036854775807)) hx hb hD hh35 ha rfl rfl ((hcl11 407 38 (1, (-9223372036854775808), 9223372036854775807) (by decide) rfl).2 (by decide)) (tz_l (zn_i64 _).1 (zn_i64 _).2) (eX12_lookAtDate (131, .putfield 407, 3) (List.mem_of_getElem? (i := 74) rfl)) (fun H199 lo199 hh199 hf199 hk199 _ hq199 => ?_)
                have mf199_a_39 := (hk199.1 a 11 39 11 0 fsX12 ha rfl (by decide) (by decide)).trans hf2
                have kp199 := kp2.trans (hk199.mono (ms' := lkM) (fun x hx => by cases List.mem_singleton.mp hx; decide))
                have jv199 := jv2.kept ha hk199 (by decide)
                have jg199 := jg2.kept ha hk199 (by decide)
                refine lv_goto hx hb (eX12_lookAtDate (134, .goto 158, 3) (List.mem_of_getElem? (i := 75) rfl)) (tgt := 292) rfl ?_
                exact jn292 v198 v1 ls37 _ _ hh199 kp199 jv199 jg199 hf199 mf199_a_39 (by omega) hld (by first | (simp only [ldb, if_neg d18, if_pos d172, if_neg d178, if_neg d193, up_eq]; done) | (simp only [ldb, if_neg d18, if_pos d172, if_neg d178, if_neg d193, up_eq] <;> rfl) | rfl) (by first | (simp only [ldHx, if_neg d18, if_pos d172, if_neg d178, if_neg d193, up_eq]; done) | (simp only [ldHx, if_neg d18, if_pos d172, if_neg d178, if_neg d193, up_eq] <;> rfl) | rfl) (lv_sub hl37 [6] rfl)
            · skip
              have d200 : g 1 = 0 ∧ ¬ (1 ≤ g 6 ∧ g 6 ≤ mlI (g 2) (g 4)) := by omega
              refine lv_aload_n hx hb (eX12_lookAtDate (107, .aload_n 0, 1) (List.mem_of_getElem? (i := 61) rfl)) rfl (lv_at hl37 6 rfl) ?_
              refine lv_iload hx hb (eX12_lookAtDate (108, .iload 7, 2) (List.mem_of_getElem? (i := 62) rfl)) (lv_at hl37 0 rfl) ?_
              refine tz_rowV (As := [.int v36]) (st := []) (b := a) (C := RX12) (Ts := gT) hx hb hml hown h2 (fun _ h => h) (hX12_bad l D cA ro sz H0 a v36 (g 7) T (sg) ha (by omega)) ⟨rfl, rfl⟩ ⟨by decide, by decide⟩ ⟨by decide, by decide⟩ (tb_8 47 rfl rfl) (tb_1 12 rfl rfl) (tb_8 44 rfl rfl) (tb_8 46 rfl rfl) (tb_0 37 rfl rfl) (show yX12_bad.cls ≠ "java/lang/invoke/MethodHandle" ∧ yX12_bad.cls ≠ "java/lang/invoke/VarHandle" ∧ (parseMethodDescriptor yX12_bad.desc).map (fun d => d.parameters.length) = some 1 by decide +kernel) zs_blind (zs_ob hh35 ha (show RTg[11]? = some (0, 11, 0, fsX12) from rfl) (zCX12 hKn.1)) (fun U hU hW => ⟨rfl, by rw [hU]; exact hh35.l0, zKb s U hW.alike hKn, by rw [hU]; exact jv2⟩) hh35.2.2.1 hl37.1 (Nat.le_of_ble_eq_true rfl) (eX12_lookAtDate (110, .invokevirtual 335, 3) (List.mem_of_getElem? (i := 63) rfl)) (fun r201 s201 t201 lo201 g201 f201 l201 => ?_)
              obtain ⟨q201, z201, c201, jv201⟩ := f201
              cases q201
              rw [g201] at c201
              have hh201 : zh_ok D cA RTg ro sz H0 t201.heap lo201 := ⟨z201.1, z201.2.1, l201, z201.2.2.2⟩
              have kp201 := kp2.trans (c201.mono (ms' := lkM) (by decide))
              generalize hx201 : bdG (g 7) sg = x201 at jv201
              have uu201 := jv201.2.2
              unfold vOK at uu201
              have bb201 := byI_bd T x201.1
              have jg201 := jg2.kept ha c201 (by decide)
              have mf201_39 := (c201.1 a 11 39 11 0 fsX12 ha rfl (by decide) (by decide)).trans hf2
              refine W.eq (g2 := F0 m 113 ls37 []) rfl ?_
              have hfin : ((sg.1, sg.2.1, ldb g sg.2.2) : uS) = x201 := by rw [← hx201]; simp only [ldb, if_neg d18, if_pos d172, if_neg d178, if_pos d200] <;> rfl
              have hfh : ldHx g = 0 := by simp only [ldHx, if_neg d18, if_pos d172, if_neg d178, if_pos d200]
              obtain ⟨dv0, fd0, -, -⟩ := zh_fT (k := 38) (t := (1, (-9223372036854775808), 9223372036854775807)) hh201 ha (show RTg[11]? = some (0, 11, 0, fsX12) from rfl) rfl
              exact W.vret hx hb hr (fun t ht hW => ⟨rfl, by rw [ht]; exact hh201.l0, by rw [ht]; exact kp201, by rw [ht, hfin]; exact jv201, by rw [ht]; exact jg201, _, _, by rw [ht]; exact mf201_39, by rw [hfh]; omega, by rw [ht]; exact fd0, fun q9 => by omega⟩) hh201.2.2.1 (eX12_lookAtDate (113, .return_, 1) (List.mem_of_getElem? (i := 64) rfl))
        · skip
          have d202 : ¬ (1 ≤ g 4 ∧ g 4 ≤ 12) := by omega
          refine lv_aload_n hx hb (eX12_lookAtDate (79, .aload_n 0, 1) (List.mem_of_getElem? (i := 46) rfl)) rfl (lv_at hl37 6 rfl) ?_
          refine lv_iload hx hb (eX12_lookAtDate (80, .iload 6, 2) (List.mem_of_getElem? (i := 47) rfl)) (lv_at hl37 1 rfl) ?_
          refine tz_rowV (As := [.int v32]) (st := []) (b := a) (C := RX12) (Ts := gT) hx hb hml hown h2 (fun _ h => h) (hX12_bad l D cA ro sz H0 a v32 (g 5) T (sg) ha (by omega)) ⟨rfl, rfl⟩ ⟨by decide, by decide⟩ ⟨by decide, by decide⟩ (tb_8 47 rfl rfl) (tb_1 12 rfl rfl) (tb_8 44 rfl rfl) (tb_8 46 rfl rfl) (tb_0 37 rfl rfl) (show yX12_bad.cls ≠ "java/lang/invoke/MethodHandle" ∧ yX12_bad.cls ≠ "java/lang/invoke/VarHandle" ∧ (parseMethodDescriptor yX12_bad.desc).map (fun d => d.parameters.length) = some 1 by decide +kernel) zs_blind (zs_ob hh35 ha (show RTg[11]? = some (0, 11, 0, fsX12) from rfl) (zCX12 hKn.1)) (fun U hU hW => ⟨rfl, by rw [hU]; exact hh35.l0, zKb s U hW.alike hKn, by rw [hU]; exact jv2⟩) hh35.2.2.1 hl37.1 (Nat.le_of_ble_eq_true rfl) (eX12_lookAtDate (82, .invokevirtual 335, 3) (List.mem_of_getElem? (i := 48) rfl)) (fun r203 s203 t203 lo203 g203 f203 l203 => ?_)
          obtain ⟨q203, z203, c203, jv203⟩ := f203
          cases q203
          rw [g203] at c203
          have hh203 : zh_ok D cA RTg ro sz H0 t203.heap lo203 := ⟨z203.1, z203.2.1, l203, z203.2.2.2⟩
          have kp203 := kp2.trans (c203.mono (ms' := lkM) (by decide))
          generalize hx203 : bdG (g 5) sg = x203 at jv203
          have uu203 := jv203.2.2
          unfold vOK at uu203
          have bb203 := byI_bd T x203.1
          have jg203 := jg2.kept ha c203 (by decide)
          have mf203_39 := (c203.1 a 11 39 11 0 fsX12 ha rfl (by decide) (by decide)).trans hf2
          refine W.eq (g2 := F0 m 85 ls37 []) rfl ?_
          have hfin : ((sg.1, sg.2.1, ldb g sg.2.2) : uS) = x203 := by rw [← hx203]; simp only [ldb, if_neg d18, if_pos d172, if_pos d202] <;> rfl
          have hfh : ldHx g = 0 := by simp only [ldHx, if_neg d18, if_pos d172, if_pos d202]
          obtain ⟨dv0, fd0, -, -⟩ := zh_fT (k := 38) (t := (1, (-9223372036854775808), 9223372036854775807)) hh203 ha (show RTg[11]? = some (0, 11, 0, fsX12) from rfl) rfl
          exact W.vret hx hb hr (fun t ht hW => ⟨rfl, by rw [ht]; exact hh203.l0, by rw [ht]; exact kp203, by rw [ht, hfin]; exact jv203, by rw [ht]; exact jg203, _, _, by rw [ht]; exact mf203_39, by rw [hfh]; omega, by rw [ht]; exact fd0, fun q9 => by omega⟩) hh203.2.2.1 (eX12_lookAtDate (85, .return_, 1) (List.mem_of_getElem? (i := 49) rfl))
  · skip
    have d204 : g 1 < 0 := by omega
    have hfin : ((sg.1, sg.2.1, ldb g sg.2.2) : uS) = sg := by simp only [ldb, if_pos d204] <;> rfl
    have hfh : ldHx g = 0 := by simp only [ldHx, if_pos d204]
    obtain ⟨dv0, fd0, -, -⟩ := zh_fT (k := 38) (t := (1, (-9223372036854775808), 9223372036854775807)) hh14 ha (show RTg[11]? = some (0, 11, 0, fsX12) from rfl) rfl
    exact W.vret hx hb hr (fun t ht hW => ⟨rfl, by rw [ht]; exact hh14.l0, by rw [ht]; exact kp2, by rw [ht, hfin]; exact jv2, by rw [ht]; exact jg2, _, _, by rw [ht]; exact hf2, by rw [hfh]; omega, by rw [ht]; exact fd0, fun q9 => by omega⟩) hh14.2.2.1 (eX12_lookAtDate (16, .return_, 1) (List.mem_of_getElem? (i := 10) rfl))
