set_option maxRecDepth 100000 in
set_option maxHeartbeats 4000000 in
theorem hX12_readDate (l : Launch) (D : va_G) (cA : Nat → ClassId) (ro : Nat → Option Nat) (sz : Nat) (H0 : Heap) (a : Nat) (wq : Int32) (wh : Int) (T : List Int) (sg : uS) (n : Nat) (g h : fN) (ha : ro a = some 11) (hn1 : n ≤ 1) (hT : (T.length : Int) ≤ 120) (hwh : wq.toInt = wh) (hwb : wh = 0 ∨ wh = 1) : Met l yX12_readDate (gW yX12_readDate cX12_readDate 8 none) { frames := 3, cells := 0, slots := 0, locals := 65 } (zs_P D cA ro sz H0 (fun H => jV D cA ro H a T sg ∧ jG D cA ro H a n g h) [.ref a, .int wq]) (fun _ st oc t => oc = .returned none ∧ zh_ok D cA RTg ro sz H0 t.heap [] ∧ zc_kept D RTg ro gM st.heap t.heap ∧ jV D cA ro t.heap a T (drG T wh (g, sg)).2 ∧ jG D cA ro t.heap a n (drG T wh (g, sg)).1 h ∧ ∃ hv : Int32, zh_f D t.heap a 11 37 = .int hv ∧ hv.toInt = hdG T (g, sg)) 0 0 (zy_fr sz) := by
  refine zy_ofW (cc := cX12_readDate) (maxL := 8) (ret := none) (by decide +kernel) rfl ?_
  intro p e s m args below meth c s1 B hml hv
  obtain ⟨rfl, hh, hKn, hJ⟩ := hv
  have hx := B.exec
  have hb := B.bytes
  have hr := B.returns
  have hlk := B.notSynchronized
  have hts0 := atoms_spec (ws := gW yX12_readDate cX12_readDate 8 none) B.pre
  have h2 : ∀ w ∈ gT, w.before ([.ref a, .int wq] : List Value).toArray s = true := fun w hw => hts0 w (List.mem_cons_of_mem _ hw)
  have hown : s.vm.findClass RX12 = some m.cls := findClass_of_methodNamed B.named
  have hl := lv_entry [.ref a, .int wq] (n := 8) (Nat.le_of_ble_eq_true rfl)
  rw [lg_entry_eq]
  generalize (lg_sl [.ref a, .int wq] ++ List.replicate (8 - (lg_sl [.ref a, .int wq]).length) Slot.unset).toArray = ls at hl ⊢
  have b_wq := zn_i32 wq
  have hD := zD_all h2 hKn.1
  have hcl11 := fun (idx k : Nat) (t : zt_T) (h : (idx, 11, k) ∈ gfX12) (hk : fsX12[k]? = some t) => zf_clause (ro := ro) (ms := gM) h2 hown hKn.1 gfX12_ok (by decide +kernel) idx 11 k 11 0 fsX12 t h rfl hk
  have kp0 : zc_kept D RTg ro gM s.heap s.heap := zc_kept.refl
  obtain ⟨jv0, jg0⟩ := hJ
  have hu := jv0.2.2
  unfold vOK at hu
  have hbb := byI_bd T sg.1
  have jn144 : ∀ (fj : fN) (gj : uS) (sv : Int32) (sd : Int) (ls : Array Slot) (H : Heap) (lo0 : List Loc), zh_ok D cA RTg ro sz H0 H lo0 → zc_kept D RTg ro gM s.heap H → jV D cA ro H a T gj → jG D cA ro H a n fj h → sv.toInt = sd → yrG T (g, sg) = (fj, gj) → sdI T sg = sd → (sd = 0 ∨ sd = 1) → lv_has ls 8 [(2, .int sv), (0, .ref a), (1, .int wq)] → W p l e (headSpec (gW yX12_readDate cX12_readDate 8 none) { frames := 3, cells := 0, slots := 0, locals := 65 }).room s m ([.ref a, .int wq] : List Value).toArray below meth c H lo0 0 0 (MQ below (fun _ st oc t => oc = .returned none ∧ zh_ok D cA RTg ro sz H0 t.heap [] ∧ zc_kept D RTg ro gM st.heap t.heap ∧ jV D cA ro t.heap a T (drG T wh (g, sg)).2 ∧ jG D cA ro t.heap a n (drG T wh (g, sg)).1 h ∧ ∃ hv : Int32, zh_f D t.heap a 11 37 = .int hv ∧ hv.toInt = hdG T (g, sg)) ([.ref a, .int wq] : List Value).toArray s 0 0 (zy_fr sz)) (F0 m 144 ls []) := by
    intro fj gj sv  sd  ls H lo0 hh0 kpl jl jgl hsv hyr hsd hsd1 hl
    have hul := jl.2.2
    unfold vOK at hul
    have hbj := byI_bd T gj.1
    refine lv_aload_n hx hb (eX12_readDate (144, .aload_n 0, 1) (List.mem_of_getElem? (i := 76) rfl)) rfl (lv_at hl 1 rfl) ?_
    refine lv_aload_n hx hb (eX12_readDate (145, .aload_n 0, 1) (List.mem_of_getElem? (i := 77) rfl)) rfl (lv_at hl 1 rfl) ?_
    refine ff_bipush hx hb (eX12_readDate (146, .bipush 45, 2) (List.mem_of_getElem? (i := 78) rfl)) (by decide) (by decide) (fun v1 e1 => ?_)
    refine tz_rowV (As := [.int v1]) (st := [.ref a]) (b := a) (C := RX12) (Ts := gT) hx hb hml hown h2 (fun _ h => h) (hX12_takes l D cA ro sz H0 a v1 45 T (gj) ha (by omega) (by decide)) ⟨rfl, rfl⟩ ⟨by decide, by decide⟩ ⟨by decide, by decide⟩ (tb_8 13 rfl rfl) (tb_1 12 rfl rfl) (tb_8 10 rfl rfl) (tb_8 12 rfl rfl) (tb_0 30 rfl rfl) (show yX12_takes.cls ≠ "java/lang/invoke/MethodHandle" ∧ yX12_takes.cls ≠ "java/lang/invoke/VarHandle" ∧ (parseMethodDescriptor yX12_takes.desc).map (fun d => d.parameters.length) = some 1 by decide +kernel) zs_blind (zs_ob hh0 ha (show RTg[11]? = some (0, 11, 0, fsX12) from rfl) (zCX12 hKn.1)) (fun U hU hW => ⟨rfl, by rw [hU]; exact hh0.l0, zKb s U hW.alike hKn, by rw [hU]; exact jl⟩) hh0.2.2.1 hl.1 (Nat.le_of_ble_eq_true rfl) (eX12_readDate (148, .invokevirtual 313, 3) (List.mem_of_getElem? (i := 79) rfl)) (fun r2 s2 t2 lo2 g2 f2 l2 => ?_)
    obtain ⟨v2, q2, e2, z2, c2, jv2⟩ := f2
    cases q2
    rw [g2] at c2
    have hh2 : zh_ok D cA RTg ro sz H0 t2.heap lo2 := ⟨z2.1, z2.2.1, l2, z2.2.2.2⟩
    have kp2 := kpl.trans (c2.mono (ms' := gM) (by decide))
    have kf2 := tkG_01 T 45 gj
    generalize hx2 : tkG T 45 gj = x2 at jv2 e2 kf2
    have uu2 := jv2.2.2
    unfold vOK at uu2
    have bb2 := byI_bd T x2.2.1
    have jg2 := jgl.kept ha c2 (by decide)
    refine W.eq (g2 := F0 m 151 ls [.int v2, .ref a]) rfl ?_
    refine tz_put (r := 11) (k := 37) (t := (0, 0, 1)) hx hb hD hh2 ha rfl rfl ((hcl11 365 37 (0, 0, 1) (by decide) rfl).2 (by decide)) (tz_i (by omega) (by omega)) (eX12_readDate (151, .putfield 365, 3) (List.mem_of_getElem? (i := 80) rfl)) (fun H3 lo3 hh3 hf3 hk3 _ hq3 => ?_)
    have kp3 := kp2.trans (hk3.mono (ms' := gM) (fun x hx => by cases List.mem_singleton.mp hx; decide))
    have jv3 := jv2.kept ha hk3 (by decide)
    have jg3 := jg2.kept ha hk3 (by decide)
    refine lv_aload_n hx hb (eX12_readDate (154, .aload_n 0, 1) (List.mem_of_getElem? (i := 81) rfl)) rfl (lv_at hl 1 rfl) ?_
    refine tz_rowV (As := []) (st := []) (b := a) (C := RX12) (Ts := gT) hx hb hml hown h2 (fun _ h => h) (hX12_isGood l D cA ro sz H0 a T (x2.2) ha) ⟨rfl, rfl⟩ ⟨by decide, by decide⟩ ⟨by decide, by decide⟩ (tb_8 17 rfl rfl) (tb_1 12 rfl rfl) (tb_8 14 rfl rfl) (tb_8 16 rfl rfl) (tb_0 31 rfl rfl) (show yX12_isGood.cls ≠ "java/lang/invoke/MethodHandle" ∧ yX12_isGood.cls ≠ "java/lang/invoke/VarHandle" ∧ (parseMethodDescriptor yX12_isGood.desc).map (fun d => d.parameters.length) = some 0 by decide +kernel) zs_blind (zs_ob hh3 ha (show RTg[11]? = some (0, 11, 0, fsX12) from rfl) (zCX12 hKn.1)) (fun U hU hW => ⟨rfl, by rw [hU]; exact hh3.l0, zKb s U hW.alike hKn, by rw [hU]; exact jv3⟩) hh3.2.2.1 hl.1 (Nat.le_of_ble_eq_true rfl) (eX12_readDate (155, .invokevirtual 305, 3) (List.mem_of_getElem? (i := 82) rfl)) (fun r4 s4 t4 lo4 g4 f4 l4 => ?_)
    obtain ⟨z4, v4, q4, e4⟩ := f4
    cases q4
    rw [z4, g4]
    have hh4 : zh_ok D cA RTg ro sz H0 H3 lo4 := ⟨hh3.1, hh3.2.1, l4, hh3.2.2.2⟩
    refine W.eq (g2 := F0 m 158 ls [.int v4]) rfl ?_
    refine ff_if_ne hx hb (eX12_readDate (158, .ifCond .ne 4, 3) (List.mem_of_getElem? (i := 83) rfl)) (tgt := 162) rfl (fun c5 => ?_) (fun c5 => ?_)
    · skip
      have d6 : x2.2.2.1 < 0 := by omega
      refine lv_aload_n hx hb (eX12_readDate (162, .aload_n 0, 1) (List.mem_of_getElem? (i := 85) rfl)) rfl (lv_at hl 1 rfl) ?_
      refine tz_get (r := 11) (k := 37) (t := (0, 0, 1)) hx hb hh4 ha rfl rfl (hcl11 365 37 (0, 0, 1) (by decide) rfl).1 hf3 (eX12_readDate (163, .getfield 365, 3) (List.mem_of_getElem? (i := 86) rfl)) ?_
      refine ff_if_eq hx hb (eX12_readDate (166, .ifCond .eq 15, 3) (List.mem_of_getElem? (i := 87) rfl)) (tgt := 181) rfl (fun c7 => ?_) (fun c7 => ?_)
      · have d8 : ¬ x2.1 = 1 := by omega
        refine lv_iload_n hx hb (eX12_readDate (181, .iload_n 2, 1) (List.mem_of_getElem? (i := 93) rfl)) rfl (lv_at hl 0 rfl) ?_
        refine ff_if_ne hx hb (eX12_readDate (182, .ifCond .ne 115, 3) (List.mem_of_getElem? (i := 94) rfl)) (tgt := 297) rfl (fun c9 => ?_) (fun c9 => ?_)
        · skip
          have d10 : ¬ ((x2.1 = 1 ∨ sd = 0) ∧ byI T x2.2.1 = 87) := by omega
          refine lv_aload_n hx hb (eX12_readDate (297, .aload_n 0, 1) (List.mem_of_getElem? (i := 151) rfl)) rfl (lv_at hl 1 rfl) ?_
          refine tz_get (r := 11) (k := 37) (t := (0, 0, 1)) hx hb hh4 ha rfl rfl (hcl11 365 37 (0, 0, 1) (by decide) rfl).1 hf3 (eX12_readDate (298, .getfield 365, 3) (List.mem_of_getElem? (i := 152) rfl)) ?_
          refine ff_if_eq hx hb (eX12_readDate (301, .ifCond .eq 100, 3) (List.mem_of_getElem? (i := 153) rfl)) (tgt := 401) rfl (fun c11 => ?_) (fun c11 => (by exfalso; omega))
          refine lv_iload_n hx hb (eX12_readDate (401, .iload_n 2, 1) (List.mem_of_getElem? (i := 205) rfl)) rfl (lv_at hl 0 rfl) ?_
          refine ff_if_ne hx hb (eX12_readDate (402, .ifCond .ne 107, 3) (List.mem_of_getElem? (i := 206) rfl)) (tgt := 509) rfl (fun c12 => ?_) (fun c12 => ?_)
          · skip
            have d13 : ¬ (sd = 0 ∧ isD (byI T x2.2.1)) := by omega
            refine lv_iload_n hx hb (eX12_readDate (509, .iload_n 1, 1) (List.mem_of_getElem? (i := 262) rfl)) rfl (lv_at hl 2 rfl) ?_
            refine ff_if_eq hx hb (eX12_readDate (510, .ifCond .eq 7, 3) (List.mem_of_getElem? (i := 263) rfl)) (tgt := 517) rfl (fun c14 => ?_) (fun c14 => ?_)
            · skip
              have d15 : ¬ wh = 1 := by omega
              have hhd : hdG T (g, sg) = x2.1 := by simp only [hdG, hyr, hx2]
              have hfin : drG T wh (g, sg) = (fj, x2.2) := by first | (simp only [drG, hdG, beG, wkG, wk1G, wk2G, daG, da1G, da2G, plG, pl1G, pl2G, upS, ad1, hyr, hsd, hx2, if_pos d6, if_neg d8, if_neg d10, if_neg d13, if_neg d15, up_eq, up_ne (show (4 : Nat) ≠ 1 by decide)]; done) | (simp only [drG, hdG, beG, wkG, wk1G, wk2G, daG, da1G, da2G, plG, pl1G, pl2G, upS, ad1, hyr, hsd, hx2, if_pos d6, if_neg d8, if_neg d10, if_neg d13, if_neg d15, up_eq, up_ne (show (4 : Nat) ≠ 1 by decide)] <;> rfl) | rfl
              exact W.vret hx hb hr (fun t ht hW => ⟨rfl, by rw [ht]; exact hh4.l0, by rw [ht]; exact kp3, by rw [ht, hfin]; exact jv3, by rw [ht, hfin]; exact jg3, by rw [ht, hhd]; exact ⟨_, hf3, by omega⟩⟩) hh4.2.2.1 (eX12_readDate (517, .return_, 1) (List.mem_of_getElem? (i := 266) rfl))
            · skip
              have d16 : wh = 1 := by omega
              refine lv_aload_n hx hb (eX12_readDate (513, .aload_n 0, 1) (List.mem_of_getElem? (i := 264) rfl)) rfl (lv_at hl 1 rfl) ?_
              refine tz_rowV (As := []) (st := []) (b := a) (C := RX12) (Ts := gT) hx hb hml hown h2 (fun _ h => h) (hX12_fail l D cA ro sz H0 a T (x2.2) ha) ⟨rfl, rfl⟩ ⟨by decide, by decide⟩ ⟨by decide, by decide⟩ (tb_8 31 rfl rfl) (tb_1 12 rfl rfl) (tb_8 28 rfl rfl) (tb_8 30 rfl rfl) (tb_0 33 rfl rfl) (show yX12_fail.cls ≠ "java/lang/invoke/MethodHandle" ∧ yX12_fail.cls ≠ "java/lang/invoke/VarHandle" ∧ (parseMethodDescriptor yX12_fail.desc).map (fun d => d.parameters.length) = some 0 by decide +kernel) zs_blind (zs_ob hh4 ha (show RTg[11]? = some (0, 11, 0, fsX12) from rfl) (zCX12 hKn.1)) (fun U hU hW => ⟨rfl, by rw [hU]; exact hh4.l0, zKb s U hW.alike hKn, by rw [hU]; exact jv3⟩) hh4.2.2.1 hl.1 (Nat.le_of_ble_eq_true rfl) (eX12_readDate (514, .invokevirtual 316, 3) (List.mem_of_getElem? (i := 265) rfl)) (fun r17 s17 t17 lo17 g17 f17 l17 => ?_)
              obtain ⟨q17, z17, c17, jv17⟩ := f17
              cases q17
              rw [g17] at c17
              have hh17 : zh_ok D cA RTg ro sz H0 t17.heap lo17 := ⟨z17.1, z17.2.1, l17, z17.2.2.2⟩
              have kp17 := kp3.trans (c17.mono (ms' := gM) (by decide))
              have kf17 := flG_nn (T := T) (r := x2.2) jv3.2.2
              generalize hx17 : flG x2.2 = x17 at jv17 kf17
              have uu17 := jv17.2.2
              unfold vOK at uu17
              have bb17 := byI_bd T x17.1
              have jg17 := jg3.kept ha c17 (by decide)
              have mf17_37 := (c17.1 a 11 37 11 0 fsX12 ha rfl (by decide) (by decide)).trans hf3
              refine W.eq (g2 := F0 m 517 ls []) rfl ?_
              have hhd : hdG T (g, sg) = x2.1 := by simp only [hdG, hyr, hx2]
              have hfin : drG T wh (g, sg) = (fj, x17) := by first | (simp only [drG, hdG, beG, wkG, wk1G, wk2G, daG, da1G, da2G, plG, pl1G, pl2G, upS, ad1, hyr, hsd, hx2, hx17, if_pos d6, if_neg d8, if_neg d10, if_neg d13, if_pos d16, up_eq, up_ne (show (4 : Nat) ≠ 1 by decide)]; done) | (simp only [drG, hdG, beG, wkG, wk1G, wk2G, daG, da1G, da2G, plG, pl1G, pl2G, upS, ad1, hyr, hsd, hx2, hx17, if_pos d6, if_neg d8, if_neg d10, if_neg d13, if_pos d16, up_eq, up_ne (show (4 : Nat) ≠ 1 by decide)] <;> rfl) | rfl
              exact W.vret hx hb hr (fun t ht hW => ⟨rfl, by rw [ht]; exact hh17.l0, by rw [ht]; exact kp17, by rw [ht, hfin]; exact jv17, by rw [ht, hfin]; exact jg17, by rw [ht, hhd]; exact ⟨_, mf17_37, by omega⟩⟩) hh17.2.2.1 (eX12_readDate (517, .return_, 1) (List.mem_of_getElem? (i := 266) rfl))
          · skip
            refine lv_aload_n hx hb (eX12_readDate (405, .aload_n 0, 1) (List.mem_of_getElem? (i := 207) rfl)) rfl (lv_at hl 1 rfl) ?_
            refine tz_rowV (As := []) (st := []) (b := a) (C := RX12) (Ts := gT) hx hb hml hown h2 (fun _ h => h) (hX12_sign l D cA ro sz H0 a T (x2.2) ha) ⟨rfl, rfl⟩ ⟨by decide, by decide⟩ ⟨by decide, by decide⟩ (tb_8 21 rfl rfl) (tb_1 12 rfl rfl) (tb_8 18 rfl rfl) (tb_8 20 rfl rfl) (tb_0 32 rfl rfl) (show yX12_sign.cls ≠ "java/lang/invoke/MethodHandle" ∧ yX12_sign.cls ≠ "java/lang/invoke/VarHandle" ∧ (parseMethodDescriptor yX12_sign.desc).map (fun d => d.parameters.length) = some 0 by decide +kernel) zs_blind (zs_ob hh4 ha (show RTg[11]? = some (0, 11, 0, fsX12) from rfl) (zCX12 hKn.1)) (fun U hU hW => ⟨rfl, by rw [hU]; exact hh4.l0, zKb s U hW.alike hKn, by rw [hU]; exact jv3⟩) hh4.2.2.1 hl.1 (Nat.le_of_ble_eq_true rfl) (eX12_readDate (406, .invokevirtual 309, 3) (List.mem_of_getElem? (i := 208) rfl)) (fun r18 s18 t18 lo18 g18 f18 l18 => ?_)
            obtain ⟨z18, v18, q18, e18⟩ := f18
            cases q18
            rw [z18, g18]
            have hh18 : zh_ok D cA RTg ro sz H0 H3 lo18 := ⟨hh4.1, hh4.2.1, l18, hh4.2.2.2⟩
            refine W.eq (g2 := F0 m 409 ls [.int v18]) rfl ?_
            refine zu_S (vs := [.int v18]) (rest := []) hx hb hml hown hts0 zu_BT (hX12_isDigit l v18) ⟨rfl, rfl⟩ ⟨by decide, by decide⟩ ⟨by decide, by decide⟩ (tb_8 27 rfl rfl) (tb_1 12 rfl rfl) (tb_8 25 rfl rfl) (tb_8 26 rfl rfl) (show yX12_isDigit.cls ≠ "java/lang/invoke/MethodHandle" ∧ yX12_isDigit.cls ≠ "java/lang/invoke/VarHandle" ∧ (parseMethodDescriptor yX12_isDigit.desc).map (fun d => d.parameters.length) = some 1 by decide +kernel) rfl (fun _ _ _ => trivial) hl.1 (Nat.le_of_ble_eq_true rfl) (eX12_readDate (409, .invokestatic 319, 3) (List.mem_of_getElem? (i := 209) rfl)) (fun w19 f19 => ?_)
            obtain ⟨v19, rfl, e19⟩ := f19
            refine ff_if_eq hx hb (eX12_readDate (412, .ifCond .eq 97, 3) (List.mem_of_getElem? (i := 210) rfl)) (tgt := 509) rfl (fun c20 => ?_) (fun c20 => ?_)
            · skip
              have d21 : ¬ (sd = 0 ∧ isD (byI T x2.2.1)) := by omega
              refine lv_iload_n hx hb (eX12_readDate (509, .iload_n 1, 1) (List.mem_of_getElem? (i := 262) rfl)) rfl (lv_at hl 2 rfl) ?_
              refine ff_if_eq hx hb (eX12_readDate (510, .ifCond .eq 7, 3) (List.mem_of_getElem? (i := 263) rfl)) (tgt := 517) rfl (fun c22 => ?_) (fun c22 => ?_)
              · skip
                have d23 : ¬ wh = 1 := by omega
                have hhd : hdG T (g, sg) = x2.1 := by simp only [hdG, hyr, hx2]
                have hfin : drG T wh (g, sg) = (fj, x2.2) := by first | (simp only [drG, hdG, beG, wkG, wk1G, wk2G, daG, da1G, da2G, plG, pl1G, pl2G, upS, ad1, hyr, hsd, hx2, if_pos d6, if_neg d8, if_neg d10, if_neg d21, if_neg d23, up_eq, up_ne (show (4 : Nat) ≠ 1 by decide)]; done) | (simp only [drG, hdG, beG, wkG, wk1G, wk2G, daG, da1G, da2G, plG, pl1G, pl2G, upS, ad1, hyr, hsd, hx2, if_pos d6, if_neg d8, if_neg d10, if_neg d21, if_neg d23, up_eq, up_ne (show (4 : Nat) ≠ 1 by decide)] <;> rfl) | rfl
                exact W.vret hx hb hr (fun t ht hW => ⟨rfl, by rw [ht]; exact hh18.l0, by rw [ht]; exact kp3, by rw [ht, hfin]; exact jv3, by rw [ht, hfin]; exact jg3, by rw [ht, hhd]; exact ⟨_, hf3, by omega⟩⟩) hh18.2.2.1 (eX12_readDate (517, .return_, 1) (List.mem_of_getElem? (i := 266) rfl))
              · skip
                have d24 : wh = 1 := by omega
                refine lv_aload_n hx hb (eX12_readDate (513, .aload_n 0, 1) (List.mem_of_getElem? (i := 264) rfl)) rfl (lv_at hl 1 rfl) ?_
                refine tz_rowV (As := []) (st := []) (b := a) (C := RX12) (Ts := gT) hx hb hml hown h2 (fun _ h => h) (hX12_fail l D cA ro sz H0 a T (x2.2) ha) ⟨rfl, rfl⟩ ⟨by decide, by decide⟩ ⟨by decide, by decide⟩ (tb_8 31 rfl rfl) (tb_1 12 rfl rfl) (tb_8 28 rfl rfl) (tb_8 30 rfl rfl) (tb_0 33 rfl rfl) (show yX12_fail.cls ≠ "java/lang/invoke/MethodHandle" ∧ yX12_fail.cls ≠ "java/lang/invoke/VarHandle" ∧ (parseMethodDescriptor yX12_fail.desc).map (fun d => d.parameters.length) = some 0 by decide +kernel) zs_blind (zs_ob hh18 ha (show RTg[11]? = some (0, 11, 0, fsX12) from rfl) (zCX12 hKn.1)) (fun U hU hW => ⟨rfl, by rw [hU]; exact hh18.l0, zKb s U hW.alike hKn, by rw [hU]; exact jv3⟩) hh18.2.2.1 hl.1 (Nat.le_of_ble_eq_true rfl) (eX12_readDate (514, .invokevirtual 316, 3) (List.mem_of_getElem? (i := 265) rfl)) (fun r25 s25 t25 lo25 g25 f25 l25 => ?_)
                obtain ⟨q25, z25, c25, jv25⟩ := f25
                cases q25
                rw [g25] at c25
                have hh25 : zh_ok D cA RTg ro sz H0 t25.heap lo25 := ⟨z25.1, z25.2.1, l25, z25.2.2.2⟩
                have kp25 := kp3.trans (c25.mono (ms' := gM) (by decide))
                have kf25 := flG_nn (T := T) (r := x2.2) jv3.2.2
                generalize hx25 : flG x2.2 = x25 at jv25 kf25
                have uu25 := jv25.2.2
                unfold vOK at uu25
                have bb25 := byI_bd T x25.1
                have jg25 := jg3.kept ha c25 (by decide)
                have mf25_37 := (c25.1 a 11 37 11 0 fsX12 ha rfl (by decide) (by decide)).trans hf3
                refine W.eq (g2 := F0 m 517 ls []) rfl ?_
                have hhd : hdG T (g, sg) = x2.1 := by simp only [hdG, hyr, hx2]
                have hfin : drG T wh (g, sg) = (fj, x25) := by first | (simp only [drG, hdG, beG, wkG, wk1G, wk2G, daG, da1G, da2G, plG, pl1G, pl2G, upS, ad1, hyr, hsd, hx2, hx25, if_pos d6, if_neg d8, if_neg d10, if_neg d21, if_pos d24, up_eq, up_ne (show (4 : Nat) ≠ 1 by decide)]; done) | (simp only [drG, hdG, beG, wkG, wk1G, wk2G, daG, da1G, da2G, plG, pl1G, pl2G, upS, ad1, hyr, hsd, hx2, hx25, if_pos d6, if_neg d8, if_neg d10, if_neg d21, if_pos d24, up_eq, up_ne (show (4 : Nat) ≠ 1 by decide)] <;> rfl) | rfl
                exact W.vret hx hb hr (fun t ht hW => ⟨rfl, by rw [ht]; exact hh25.l0, by rw [ht]; exact kp25, by rw [ht, hfin]; exact jv25, by rw [ht, hfin]; exact jg25, by rw [ht, hhd]; exact ⟨_, mf25_37, by omega⟩⟩) hh25.2.2.1 (eX12_readDate (517, .return_, 1) (List.mem_of_getElem? (i := 266) rfl))
            · skip
              have d26 : sd = 0 ∧ isD (byI T x2.2.1) := by omega
              refine lv_aload_n hx hb (eX12_readDate (415, .aload_n 0, 1) (List.mem_of_getElem? (i := 211) rfl)) rfl (lv_at hl 1 rfl) ?_
              refine ff_iconst hx hb (eX12_readDate (416, .iconst 4, 1) (List.mem_of_getElem? (i := 212) rfl)) (by decide) (by decide) (fun v27 e27 => ?_)
              refine ff_iconst hx hb (eX12_readDate (417, .iconst 3, 1) (List.mem_of_getElem? (i := 213) rfl)) (by decide) (by decide) (fun v28 e28 => ?_)
              refine tz_rowV (As := [.int v27, .int v28]) (st := []) (b := a) (C := RX12) (Ts := gT) hx hb hml hown h2 (fun _ h => h) (hX12_dateNumber l D cA ro sz H0 a v27 v28 4 3 T (x2.2) n fj h ha hn1 hT (by omega) (by omega) (by decide) (by decide)) ⟨rfl, rfl⟩ ⟨by decide, by decide⟩ ⟨by decide, by decide⟩ (tb_8 76 rfl rfl) (tb_1 12 rfl rfl) (tb_8 73 rfl rfl) (tb_8 75 rfl rfl) (tb_0 43 rfl rfl) (show yX12_dateNumber.cls ≠ "java/lang/invoke/MethodHandle" ∧ yX12_dateNumber.cls ≠ "java/lang/invoke/VarHandle" ∧ (parseMethodDescriptor yX12_dateNumber.desc).map (fun d => d.parameters.length) = some 2 by decide +kernel) zs_blind (zs_ob hh18 ha (show RTg[11]? = some (0, 11, 0, fsX12) from rfl) (zCX12 hKn.1)) (fun U hU hW => ⟨rfl, by rw [hU]; exact hh18.l0, zKb s U hW.alike hKn, by rw [hU]; exact ⟨jv3, jg3⟩⟩) hh18.2.2.1 hl.1 (Nat.le_of_ble_eq_true rfl) (eX12_readDate (418, .invokevirtual 369, 3) (List.mem_of_getElem? (i := 214) rfl)) (fun r29 s29 t29 lo29 g29 f29 l29 => ?_)
              obtain ⟨q29, z29, c29, jv29, jg29⟩ := f29
              cases q29
              rw [g29] at c29
              have hh29 : zh_ok D cA RTg ro sz H0 t29.heap lo29 := ⟨z29.1, z29.2.1, l29, z29.2.2.2⟩
              have kp29 := kp3.trans (c29.mono (ms' := gM) (by decide))
              generalize hx29 : nuG T 4 3 (fj, x2.2) = x29 at jv29 jg29
              have uu29 := jv29.2.2
              unfold vOK at uu29
              have bb29 := byI_bd T x29.2.1
              have mf29_37 := (c29.1 a 11 37 11 0 fsX12 ha rfl (by decide) (by decide)).trans hf3
              have nb29 : 0 ≤ x29.1 4 ∧ x29.1 4 ≤ 999 := by rw [← hx29]; exact nuG_bd (by decide)
              refine W.eq (g2 := F0 m 421 ls []) rfl ?_
              refine lv_aload_n hx hb (eX12_readDate (421, .aload_n 0, 1) (List.mem_of_getElem? (i := 215) rfl)) rfl (lv_at hl 1 rfl) ?_
              refine ff_iconst hx hb (eX12_readDate (422, .iconst 1, 1) (List.mem_of_getElem? (i := 216) rfl)) (by decide) (by decide) (fun v30 e30 => ?_)
              refine ff_ldc2 (n := 2) hx hb hown h2 (clX12_ok 105 2 (List.mem_of_getElem? (i := 7) rfl)) (eX12_readDate (423, .ldc2_w 105, 3) (List.mem_of_getElem? (i := 217) rfl)) (fun v31 e31 => ?_)
              refine tz_rowV (As := [.int v30, .long v31]) (st := []) (b := a) (C := RX12) (Ts := gT) hx hb hml hown h2 (fun _ h => h) (hX12_set l D cA ro sz H0 a v30 v31 1 n x29.1 h ha hn1 (by omega) (by decide)) ⟨rfl, rfl⟩ ⟨by decide, by decide⟩ ⟨by decide, by decide⟩ (tb_8 72 rfl rfl) (tb_1 12 rfl rfl) (tb_8 69 rfl rfl) (tb_8 71 rfl rfl) (tb_0 42 rfl rfl) (show yX12_set.cls ≠ "java/lang/invoke/MethodHandle" ∧ yX12_set.cls ≠ "java/lang/invoke/VarHandle" ∧ (parseMethodDescriptor yX12_set.desc).map (fun d => d.parameters.length) = some 2 by decide +kernel) zs_blind (zs_ob hh29 ha (show RTg[11]? = some (0, 11, 0, fsX12) from rfl) (zCX12 hKn.1)) (fun U hU hW => ⟨rfl, by rw [hU]; exact hh29.l0, zKb s U hW.alike hKn, by rw [hU]; exact jg29⟩) hh29.2.2.1 hl.1 (Nat.le_of_ble_eq_true rfl) (eX12_readDate (426, .invokevirtual 357, 3) (List.mem_of_getElem? (i := 218) rfl)) (fun r32 s32 t32 lo32 g32 f32 l32 => ?_)
              obtain ⟨q32, z32, c32, jg32⟩ := f32
              cases q32
              rw [g32] at c32
              have hh32 : zh_ok D cA RTg ro sz H0 t32.heap lo32 := ⟨z32.1, z32.2.1, l32, z32.2.2.2⟩
              have kp32 := kp29.trans (c32.mono (ms' := gM) (by decide))
              have jg32 : jG D cA ro t32.heap a n (upF x29.1 1 (2)) h := by rw [← show v31.toInt = 2 by omega]; exact jg32
              have jv32 := jv29.kept ha c32 (by decide)
              have mf32_37 := (c32.1 a 11 37 11 0 fsX12 ha rfl (by decide) (by decide)).trans mf29_37
              refine W.eq (g2 := F0 m 429 ls []) rfl ?_
              refine lv_aload_n hx hb (eX12_readDate (429, .aload_n 0, 1) (List.mem_of_getElem? (i := 219) rfl)) rfl (lv_at hl 1 rfl) ?_
              refine tz_rowV (As := []) (st := []) (b := a) (C := RX12) (Ts := gT) hx hb hml hown h2 (fun _ h => h) (hX12_isGood l D cA ro sz H0 a T (x29.2) ha) ⟨rfl, rfl⟩ ⟨by decide, by decide⟩ ⟨by decide, by decide⟩ (tb_8 17 rfl rfl) (tb_1 12 rfl rfl) (tb_8 14 rfl rfl) (tb_8 16 rfl rfl) (tb_0 31 rfl rfl) (show yX12_isGood.cls ≠ "java/lang/invoke/MethodHandle" ∧ yX12_isGood.cls ≠ "java/lang/invoke/VarHandle" ∧ (parseMethodDescriptor yX12_isGood.desc).map (fun d => d.parameters.length) = some 0 by decide +kernel) zs_blind (zs_ob hh32 ha (show RTg[11]? = some (0, 11, 0, fsX12) from rfl) (zCX12 hKn.1)) (fun U hU hW => ⟨rfl, by rw [hU]; exact hh32.l0, zKb s U hW.alike hKn, by rw [hU]; exact jv32⟩) hh32.2.2.1 hl.1 (Nat.le_of_ble_eq_true rfl) (eX12_readDate (430, .invokevirtual 305, 3) (List.mem_of_getElem? (i := 220) rfl)) (fun r33 s33 t33 lo33 g33 f33 l33 => ?_)
              obtain ⟨z33, v33, q33, e33⟩ := f33
              cases q33
              rw [z33, g33]
              have hh33 : zh_ok D cA RTg ro sz H0 t32.heap lo33 := ⟨hh32.1, hh32.2.1, l33, hh32.2.2.2⟩
              refine W.eq (g2 := F0 m 433 ls [.int v33]) rfl ?_
              refine ff_if_eq hx hb (eX12_readDate (433, .ifCond .eq 84, 3) (List.mem_of_getElem? (i := 221) rfl)) (tgt := 517) rfl (fun c34 => ?_) (fun c34 => ?_)
              · skip
                have d35 : ¬ (x29.2.2.1 < 0 ∧ isD (byI T x29.2.1)) := by omega
                have hhd : hdG T (g, sg) = x2.1 := by simp only [hdG, hyr, hx2]
                have hfin : drG T wh (g, sg) = ((upF x29.1 1 (2)), x29.2) := by first | (simp only [drG, hdG, beG, wkG, wk1G, wk2G, daG, da1G, da2G, plG, pl1G, pl2G, upS, ad1, hyr, hsd, hx2, hx29, if_pos d6, if_neg d8, if_neg d10, if_pos d26, if_neg d35, up_eq, up_ne (show (4 : Nat) ≠ 1 by decide)]; done) | (simp only [drG, hdG, beG, wkG, wk1G, wk2G, daG, da1G, da2G, plG, pl1G, pl2G, upS, ad1, hyr, hsd, hx2, hx29, if_pos d6, if_neg d8, if_neg d10, if_pos d26, if_neg d35, up_eq, up_ne (show (4 : Nat) ≠ 1 by decide)] <;> rfl) | rfl
                exact W.vret hx hb hr (fun t ht hW => ⟨rfl, by rw [ht]; exact hh33.l0, by rw [ht]; exact kp32, by rw [ht, hfin]; exact jv32, by rw [ht, hfin]; exact jg32, by rw [ht, hhd]; exact ⟨_, mf32_37, by omega⟩⟩) hh33.2.2.1 (eX12_readDate (517, .return_, 1) (List.mem_of_getElem? (i := 266) rfl))
              · skip
                refine lv_aload_n hx hb (eX12_readDate (436, .aload_n 0, 1) (List.mem_of_getElem? (i := 222) rfl)) rfl (lv_at hl 1 rfl) ?_
                refine tz_rowV (As := []) (st := []) (b := a) (C := RX12) (Ts := gT) hx hb hml hown h2 (fun _ h => h) (hX12_sign l D cA ro sz H0 a T (x29.2) ha) ⟨rfl, rfl⟩ ⟨by decide, by decide⟩ ⟨by decide, by decide⟩ (tb_8 21 rfl rfl) (tb_1 12 rfl rfl) (tb_8 18 rfl rfl) (tb_8 20 rfl rfl) (tb_0 32 rfl rfl) (show yX12_sign.cls ≠ "java/lang/invoke/MethodHandle" ∧ yX12_sign.cls ≠ "java/lang/invoke/VarHandle" ∧ (parseMethodDescriptor yX12_sign.desc).map (fun d => d.parameters.length) = some 0 by decide +kernel) zs_blind (zs_ob hh33 ha (show RTg[11]? = some (0, 11, 0, fsX12) from rfl) (zCX12 hKn.1)) (fun U hU hW => ⟨rfl, by rw [hU]; exact hh33.l0, zKb s U hW.alike hKn, by rw [hU]; exact jv32⟩) hh33.2.2.1 hl.1 (Nat.le_of_ble_eq_true rfl) (eX12_readDate (437, .invokevirtual 309, 3) (List.mem_of_getElem? (i := 223) rfl)) (fun r36 s36 t36 lo36 g36 f36 l36 => ?_)
                obtain ⟨z36, v36, q36, e36⟩ := f36
                cases q36
                rw [z36, g36]
                have hh36 : zh_ok D cA RTg ro sz H0 t32.heap lo36 := ⟨hh33.1, hh33.2.1, l36, hh33.2.2.2⟩
                refine W.eq (g2 := F0 m 440 ls [.int v36]) rfl ?_
                refine zu_S (vs := [.int v36]) (rest := []) hx hb hml hown hts0 zu_BT (hX12_isDigit l v36) ⟨rfl, rfl⟩ ⟨by decide, by decide⟩ ⟨by decide, by decide⟩ (tb_8 27 rfl rfl) (tb_1 12 rfl rfl) (tb_8 25 rfl rfl) (tb_8 26 rfl rfl) (show yX12_isDigit.cls ≠ "java/lang/invoke/MethodHandle" ∧ yX12_isDigit.cls ≠ "java/lang/invoke/VarHandle" ∧ (parseMethodDescriptor yX12_isDigit.desc).map (fun d => d.parameters.length) = some 1 by decide +kernel) rfl (fun _ _ _ => trivial) hl.1 (Nat.le_of_ble_eq_true rfl) (eX12_readDate (440, .invokestatic 319, 3) (List.mem_of_getElem? (i := 224) rfl)) (fun w37 f37 => ?_)
                obtain ⟨v37, rfl, e37⟩ := f37
                refine ff_if_eq hx hb (eX12_readDate (443, .ifCond .eq 74, 3) (List.mem_of_getElem? (i := 225) rfl)) (tgt := 517) rfl (fun c38 => ?_) (fun c38 => ?_)
                · skip
                  have d39 : ¬ (x29.2.2.1 < 0 ∧ isD (byI T x29.2.1)) := by omega
                  have hhd : hdG T (g, sg) = x2.1 := by simp only [hdG, hyr, hx2]
                  have hfin : drG T wh (g, sg) = ((upF x29.1 1 (2)), x29.2) := by first | (simp only [drG, hdG, beG, wkG, wk1G, wk2G, daG, da1G, da2G, plG, pl1G, pl2G, upS, ad1, hyr, hsd, hx2, hx29, if_pos d6, if_neg d8, if_neg d10, if_pos d26, if_neg d39, up_eq, up_ne (show (4 : Nat) ≠ 1 by decide)]; done) | (simp only [drG, hdG, beG, wkG, wk1G, wk2G, daG, da1G, da2G, plG, pl1G, pl2G, upS, ad1, hyr, hsd, hx2, hx29, if_pos d6, if_neg d8, if_neg d10, if_pos d26, if_neg d39, up_eq, up_ne (show (4 : Nat) ≠ 1 by decide)] <;> rfl) | rfl
                  exact W.vret hx hb hr (fun t ht hW => ⟨rfl, by rw [ht]; exact hh36.l0, by rw [ht]; exact kp32, by rw [ht, hfin]; exact jv32, by rw [ht, hfin]; exact jg32, by rw [ht, hhd]; exact ⟨_, mf32_37, by omega⟩⟩) hh36.2.2.1 (eX12_readDate (517, .return_, 1) (List.mem_of_getElem? (i := 266) rfl))
                · skip
                  have d40 : x29.2.2.1 < 0 ∧ isD (byI T x29.2.1) := by omega
                  refine lv_aload_n hx hb (eX12_readDate (446, .aload_n 0, 1) (List.mem_of_getElem? (i := 226) rfl)) rfl (lv_at hl 1 rfl) ?_
                  refine ff_iconst hx hb (eX12_readDate (447, .iconst 4, 1) (List.mem_of_getElem? (i := 227) rfl)) (by decide) (by decide) (fun v41 e41 => ?_)
                  refine tz_rowV (As := [.int v41]) (st := []) (b := a) (C := RX12) (Ts := gT) hx hb hml hown h2 (fun _ h => h) (hX12_get l D cA ro sz H0 a v41 4 n (upF x29.1 1 (2)) h ha hn1 (by omega) (by decide)) ⟨rfl, rfl⟩ ⟨by decide, by decide⟩ ⟨by decide, by decide⟩ (tb_8 94 rfl rfl) (tb_1 12 rfl rfl) (tb_8 91 rfl rfl) (tb_8 93 rfl rfl) (tb_0 47 rfl rfl) (show yX12_get.cls ≠ "java/lang/invoke/MethodHandle" ∧ yX12_get.cls ≠ "java/lang/invoke/VarHandle" ∧ (parseMethodDescriptor yX12_get.desc).map (fun d => d.parameters.length) = some 1 by decide +kernel) zs_blind (zs_ob hh36 ha (show RTg[11]? = some (0, 11, 0, fsX12) from rfl) (zCX12 hKn.1)) (fun U hU hW => ⟨rfl, by rw [hU]; exact hh36.l0, zKb s U hW.alike hKn, by rw [hU]; exact jg32⟩) hh36.2.2.1 hl.1 (Nat.le_of_ble_eq_true rfl) (eX12_readDate (448, .invokevirtual 361, 3) (List.mem_of_getElem? (i := 228) rfl)) (fun r42 s42 t42 lo42 g42 f42 l42 => ?_)
                  obtain ⟨z42, v42, q42, e42⟩ := f42
                  cases q42
                  rw [z42, g42]
                  have hh42 : zh_ok D cA RTg ro sz H0 t32.heap lo42 := ⟨hh36.1, hh36.2.1, l42, hh36.2.2.2⟩
                  rw [up_ne (show (4 : Nat) ≠ 1 by decide)] at e42
                  refine W.eq (g2 := F0 m 451 ls [.long v42]) rfl ?_
                  refine lv_lstore hx hb (eX12_readDate (451, .lstore 6, 2) (List.mem_of_getElem? (i := 229) rfl)) hl (by decide) rfl (fun ls43 hl43 => ?_)
                  refine lv_aload_n hx hb (eX12_readDate (453, .aload_n 0, 1) (List.mem_of_getElem? (i := 230) rfl)) rfl (lv_at hl43 2 rfl) ?_
                  refine ff_iconst hx hb (eX12_readDate (454, .iconst 1, 1) (List.mem_of_getElem? (i := 231) rfl)) (by decide) (by decide) (fun v44 e44 => ?_)
                  refine ff_lconst hx hb (eX12_readDate (455, .lconst 0, 1) (List.mem_of_getElem? (i := 232) rfl)) rfl (fun v45 e45 => ?_)
                  refine tz_rowV (As := [.int v44, .long v45]) (st := []) (b := a) (C := RX12) (Ts := gT) hx hb hml hown h2 (fun _ h => h) (hX12_set l D cA ro sz H0 a v44 v45 1 n (upF x29.1 1 (2)) h ha hn1 (by omega) (by decide)) ⟨rfl, rfl⟩ ⟨by decide, by decide⟩ ⟨by decide, by decide⟩ (tb_8 72 rfl rfl) (tb_1 12 rfl rfl) (tb_8 69 rfl rfl) (tb_8 71 rfl rfl) (tb_0 42 rfl rfl) (show yX12_set.cls ≠ "java/lang/invoke/MethodHandle" ∧ yX12_set.cls ≠ "java/lang/invoke/VarHandle" ∧ (parseMethodDescriptor yX12_set.desc).map (fun d => d.parameters.length) = some 2 by decide +kernel) zs_blind (zs_ob hh42 ha (show RTg[11]? = some (0, 11, 0, fsX12) from rfl) (zCX12 hKn.1)) (fun U hU hW => ⟨rfl, by rw [hU]; exact hh42.l0, zKb s U hW.alike hKn, by rw [hU]; exact jg32⟩) hh42.2.2.1 hl43.1 (Nat.le_of_ble_eq_true rfl) (eX12_readDate (456, .invokevirtual 357, 3) (List.mem_of_getElem? (i := 233) rfl)) (fun r46 s46 t46 lo46 g46 f46 l46 => ?_)
                  obtain ⟨q46, z46, c46, jg46⟩ := f46
                  cases q46
                  rw [g46] at c46
                  have hh46 : zh_ok D cA RTg ro sz H0 t46.heap lo46 := ⟨z46.1, z46.2.1, l46, z46.2.2.2⟩
                  have kp46 := kp32.trans (c46.mono (ms' := gM) (by decide))
                  have jg46 : jG D cA ro t46.heap a n (upF (upF x29.1 1 (2)) 1 (0)) h := by rw [← show v45.toInt = 0 by omega]; exact jg46
                  have jv46 := jv32.kept ha c46 (by decide)
                  have mf46_37 := (c46.1 a 11 37 11 0 fsX12 ha rfl (by decide) (by decide)).trans mf32_37
                  refine W.eq (g2 := F0 m 459 ls43 []) rfl ?_
                  refine lv_aload_n hx hb (eX12_readDate (459, .aload_n 0, 1) (List.mem_of_getElem? (i := 234) rfl)) rfl (lv_at hl43 2 rfl) ?_
                  refine ff_iconst hx hb (eX12_readDate (460, .iconst 4, 1) (List.mem_of_getElem? (i := 235) rfl)) (by decide) (by decide) (fun v47 e47 => ?_)
                  refine lv_lload hx hb (eX12_readDate (461, .lload 6, 2) (List.mem_of_getElem? (i := 236) rfl)) (lv_at hl43 0 rfl) ?_
                  refine ff_ldc2 (n := 10) hx hb hown h2 (clX12_ok 373 10 (List.mem_of_getElem? (i := 32) rfl)) (eX12_readDate (463, .ldc2_w 373, 3) (List.mem_of_getElem? (i := 237) rfl)) (fun v48 e48 => ?_)
                  refine ff_ldivP hx hb (eX12_readDate (466, .ldiv, 1) (List.mem_of_getElem? (i := 238) rfl)) (by omega) (e48) (by decide) (fun v49 e49 => ?_)
                  refine tz_rowV (As := [.int v47, .long v49]) (st := []) (b := a) (C := RX12) (Ts := gT) hx hb hml hown h2 (fun _ h => h) (hX12_set l D cA ro sz H0 a v47 v49 4 n (upF (upF x29.1 1 (2)) 1 (0)) h ha hn1 (by omega) (by decide)) ⟨rfl, rfl⟩ ⟨by decide, by decide⟩ ⟨by decide, by decide⟩ (tb_8 72 rfl rfl) (tb_1 12 rfl rfl) (tb_8 69 rfl rfl) (tb_8 71 rfl rfl) (tb_0 42 rfl rfl) (show yX12_set.cls ≠ "java/lang/invoke/MethodHandle" ∧ yX12_set.cls ≠ "java/lang/invoke/VarHandle" ∧ (parseMethodDescriptor yX12_set.desc).map (fun d => d.parameters.length) = some 2 by decide +kernel) zs_blind (zs_ob hh46 ha (show RTg[11]? = some (0, 11, 0, fsX12) from rfl) (zCX12 hKn.1)) (fun U hU hW => ⟨rfl, by rw [hU]; exact hh46.l0, zKb s U hW.alike hKn, by rw [hU]; exact jg46⟩) hh46.2.2.1 hl43.1 (Nat.le_of_ble_eq_true rfl) (eX12_readDate (467, .invokevirtual 357, 3) (List.mem_of_getElem? (i := 239) rfl)) (fun r50 s50 t50 lo50 g50 f50 l50 => ?_)
                  obtain ⟨q50, z50, c50, jg50⟩ := f50
                  cases q50
                  rw [g50] at c50
                  have hh50 : zh_ok D cA RTg ro sz H0 t50.heap lo50 := ⟨z50.1, z50.2.1, l50, z50.2.2.2⟩
                  have kp50 := kp46.trans (c50.mono (ms' := gM) (by decide))
                  have jg50 : jG D cA ro t50.heap a n (upF (upF (upF x29.1 1 (2)) 1 (0)) 4 (x29.1 4 / 10)) h := by rw [← show v49.toInt = x29.1 4 / 10 by omega]; exact jg50
                  have jv50 := jv46.kept ha c50 (by decide)
                  have mf50_37 := (c50.1 a 11 37 11 0 fsX12 ha rfl (by decide) (by decide)).trans mf46_37
                  refine W.eq (g2 := F0 m 470 ls43 []) rfl ?_
                  refine lv_aload_n hx hb (eX12_readDate (470, .aload_n 0, 1) (List.mem_of_getElem? (i := 240) rfl)) rfl (lv_at hl43 2 rfl) ?_
                  refine ff_bipush hx hb (eX12_readDate (471, .bipush 7, 2) (List.mem_of_getElem? (i := 241) rfl)) (by decide) (by decide) (fun v51 e51 => ?_)
                  refine lv_aload_n hx hb (eX12_readDate (473, .aload_n 0, 1) (List.mem_of_getElem? (i := 242) rfl)) rfl (lv_at hl43 2 rfl) ?_
                  obtain ⟨jt52, ⟨av52, fv52, bv52, f2952, f3052, f3152, hav52, hfv52, hbv52⟩, hu52⟩ := id jv50
                  refine tz_get (r := 11) (k := 29) (t := (0, 0, 120)) hx hb hh50 ha rfl rfl (hcl11 293 29 (0, 0, 120) (by decide) rfl).1 f2952 (eX12_readDate (474, .getfield 293, 3) (List.mem_of_getElem? (i := 243) rfl)) ?_
                  refine ff_iconst hx hb (eX12_readDate (477, .iconst 1, 1) (List.mem_of_getElem? (i := 244) rfl)) (by decide) (by decide) (fun v53 e53 => ?_)
                  refine ff_isub hx hb (eX12_readDate (478, .isub, 1) (List.mem_of_getElem? (i := 245) rfl)) (by omega) (by omega) (fun v54 e54 => ?_)
                  refine ff_i2l hx hb (eX12_readDate (479, .i2l, 1) (List.mem_of_getElem? (i := 246) rfl)) (fun v55 e55 => ?_)
                  refine tz_rowV (As := [.int v51, .long v55]) (st := []) (b := a) (C := RX12) (Ts := gT) hx hb hml hown h2 (fun _ h => h) (hX12_set l D cA ro sz H0 a v51 v55 7 n (upF (upF (upF x29.1 1 (2)) 1 (0)) 4 (x29.1 4 / 10)) h ha hn1 (by omega) (by decide)) ⟨rfl, rfl⟩ ⟨by decide, by decide⟩ ⟨by decide, by decide⟩ (tb_8 72 rfl rfl) (tb_1 12 rfl rfl) (tb_8 69 rfl rfl) (tb_8 71 rfl rfl) (tb_0 42 rfl rfl) (show yX12_set.cls ≠ "java/lang/invoke/MethodHandle" ∧ yX12_set.cls ≠ "java/lang/invoke/VarHandle" ∧ (parseMethodDescriptor yX12_set.desc).map (fun d => d.parameters.length) = some 2 by decide +kernel) zs_blind (zs_ob hh50 ha (show RTg[11]? = some (0, 11, 0, fsX12) from rfl) (zCX12 hKn.1)) (fun U hU hW => ⟨rfl, by rw [hU]; exact hh50.l0, zKb s U hW.alike hKn, by rw [hU]; exact jg50⟩) hh50.2.2.1 hl43.1 (Nat.le_of_ble_eq_true rfl) (eX12_readDate (480, .invokevirtual 357, 3) (List.mem_of_getElem? (i := 247) rfl)) (fun r56 s56 t56 lo56 g56 f56 l56 => ?_)
                  obtain ⟨q56, z56, c56, jg56⟩ := f56
                  cases q56
                  rw [g56] at c56
                  have hh56 : zh_ok D cA RTg ro sz H0 t56.heap lo56 := ⟨z56.1, z56.2.1, l56, z56.2.2.2⟩
                  have kp56 := kp50.trans (c56.mono (ms' := gM) (by decide))
                  have jg56 : jG D cA ro t56.heap a n (upF (upF (upF (upF x29.1 1 (2)) 1 (0)) 4 (x29.1 4 / 10)) 7 (x29.2.1 - 1)) h := by rw [← show v55.toInt = x29.2.1 - 1 by omega]; exact jg56
                  have jv56 := jv50.kept ha c56 (by decide)
                  have mf56_37 := (c56.1 a 11 37 11 0 fsX12 ha rfl (by decide) (by decide)).trans mf50_37
                  refine W.eq (g2 := F0 m 483 ls43 []) rfl ?_
                  refine lv_aload_n hx hb (eX12_readDate (483, .aload_n 0, 1) (List.mem_of_getElem? (i := 248) rfl)) rfl (lv_at hl43 2 rfl) ?_
                  refine ff_bipush hx hb (eX12_readDate (484, .bipush 6, 2) (List.mem_of_getElem? (i := 249) rfl)) (by decide) (by decide) (fun v57 e57 => ?_)
                  refine lv_lload hx hb (eX12_readDate (486, .lload 6, 2) (List.mem_of_getElem? (i := 250) rfl)) (lv_at hl43 0 rfl) ?_
                  refine ff_ldc2 (n := 10) hx hb hown h2 (clX12_ok 373 10 (List.mem_of_getElem? (i := 32) rfl)) (eX12_readDate (488, .ldc2_w 373, 3) (List.mem_of_getElem? (i := 251) rfl)) (fun v58 e58 => ?_)
                  refine ff_lremP hx hb (eX12_readDate (491, .lrem, 1) (List.mem_of_getElem? (i := 252) rfl)) (by omega) (e58) (by decide) (fun v59 e59 => ?_)
                  refine ff_ldc2 (n := 10) hx hb hown h2 (clX12_ok 373 10 (List.mem_of_getElem? (i := 32) rfl)) (eX12_readDate (492, .ldc2_w 373, 3) (List.mem_of_getElem? (i := 253) rfl)) (fun v60 e60 => ?_)
                  refine ff_lmulR hx hb (eX12_readDate (495, .lmul, 1) (List.mem_of_getElem? (i := 254) rfl)) (e60) (by omega) (by omega) (fun v61 e61 => ?_)
                  refine lv_aload_n hx hb (eX12_readDate (496, .aload_n 0, 1) (List.mem_of_getElem? (i := 255) rfl)) rfl (lv_at hl43 2 rfl) ?_
                  refine ff_iconst hx hb (eX12_readDate (497, .iconst 1, 1) (List.mem_of_getElem? (i := 256) rfl)) (by decide) (by decide) (fun v62 e62 => ?_)
                  refine tz_rowV (As := [.int v62]) (st := [.long v61, .int v57, .ref a]) (b := a) (C := RX12) (Ts := gT) hx hb hml hown h2 (fun _ h => h) (hX12_digitsW l D cA ro sz H0 a v62 1 T (x29.2) ha (by omega) (by decide)) ⟨rfl, rfl⟩ ⟨by decide, by decide⟩ ⟨by decide, by decide⟩ (tb_8 43 rfl rfl) (tb_1 12 rfl rfl) (tb_8 40 rfl rfl) (tb_8 42 rfl rfl) (tb_0 36 rfl rfl) (show yX12_digits.cls ≠ "java/lang/invoke/MethodHandle" ∧ yX12_digits.cls ≠ "java/lang/invoke/VarHandle" ∧ (parseMethodDescriptor yX12_digits.desc).map (fun d => d.parameters.length) = some 1 by decide +kernel) zs_blind (zs_ob hh56 ha (show RTg[11]? = some (0, 11, 0, fsX12) from rfl) (zCX12 hKn.1)) (fun U hU hW => ⟨rfl, by rw [hU]; exact hh56.l0, zKb s U hW.alike hKn, by rw [hU]; exact jv56⟩) hh56.2.2.1 hl43.1 (Nat.le_of_ble_eq_true rfl) (eX12_readDate (498, .invokevirtual 331, 3) (List.mem_of_getElem? (i := 257) rfl)) (fun r63 s63 t63 lo63 g63 f63 l63 => ?_)
                  obtain ⟨v63, q63, e63, z63, c63, jv63⟩ := f63
                  cases q63
                  rw [g63] at c63
                  have hh63 : zh_ok D cA RTg ro sz H0 t63.heap lo63 := ⟨z63.1, z63.2.1, l63, z63.2.2.2⟩
                  have kp63 := kp56.trans (c63.mono (ms' := gM) (by decide))
                  have kf63 := dgG_w (T := T) (n := 1) (r := x29.2) (M := 9) (by decide)
                  generalize hx63 : dgG T 1 0 x29.2 = x63 at jv63 e63 kf63
                  have uu63 := jv63.2.2
                  unfold vOK at uu63
                  have bb63 := byI_bd T x63.2.1
                  have jg63 := jg56.kept ha c63 (by decide)
                  have mf63_37 := (c63.1 a 11 37 11 0 fsX12 ha rfl (by decide) (by decide)).trans mf56_37
                  refine W.eq (g2 := F0 m 501 ls43 [.int v63, .long v61, .int v57, .ref a]) rfl ?_
                  refine ff_i2l hx hb (eX12_readDate (501, .i2l, 1) (List.mem_of_getElem? (i := 258) rfl)) (fun v64 e64 => ?_)
                  refine ff_ladd hx hb (eX12_readDate (502, .ladd, 1) (List.mem_of_getElem? (i := 259) rfl)) (by omega) (by omega) (fun v65 e65 => ?_)
                  refine tz_rowV (As := [.int v57, .long v65]) (st := []) (b := a) (C := RX12) (Ts := gT) hx hb hml hown h2 (fun _ h => h) (hX12_set l D cA ro sz H0 a v57 v65 6 n (upF (upF (upF (upF x29.1 1 (2)) 1 (0)) 4 (x29.1 4 / 10)) 7 (x29.2.1 - 1)) h ha hn1 (by omega) (by decide)) ⟨rfl, rfl⟩ ⟨by decide, by decide⟩ ⟨by decide, by decide⟩ (tb_8 72 rfl rfl) (tb_1 12 rfl rfl) (tb_8 69 rfl rfl) (tb_8 71 rfl rfl) (tb_0 42 rfl rfl) (show yX12_set.cls ≠ "java/lang/invoke/MethodHandle" ∧ yX12_set.cls ≠ "java/lang/invoke/VarHandle" ∧ (parseMethodDescriptor yX12_set.desc).map (fun d => d.parameters.length) = some 2 by decide +kernel) zs_blind (zs_ob hh63 ha (show RTg[11]? = some (0, 11, 0, fsX12) from rfl) (zCX12 hKn.1)) (fun U hU hW => ⟨rfl, by rw [hU]; exact hh63.l0, zKb s U hW.alike hKn, by rw [hU]; exact jg63⟩) hh63.2.2.1 hl43.1 (Nat.le_of_ble_eq_true rfl) (eX12_readDate (503, .invokevirtual 357, 3) (List.mem_of_getElem? (i := 260) rfl)) (fun r66 s66 t66 lo66 g66 f66 l66 => ?_)
                  obtain ⟨q66, z66, c66, jg66⟩ := f66
                  cases q66
                  rw [g66] at c66
                  have hh66 : zh_ok D cA RTg ro sz H0 t66.heap lo66 := ⟨z66.1, z66.2.1, l66, z66.2.2.2⟩
                  have kp66 := kp63.trans (c66.mono (ms' := gM) (by decide))
                  have jg66 : jG D cA ro t66.heap a n (upF (upF (upF (upF (upF x29.1 1 (2)) 1 (0)) 4 (x29.1 4 / 10)) 7 (x29.2.1 - 1)) 6 (x29.1 4 % 10 * 10 + x63.1)) h := by rw [← show v65.toInt = x29.1 4 % 10 * 10 + x63.1 by omega]; exact jg66
                  have jv66 := jv63.kept ha c66 (by decide)
                  have mf66_37 := (c66.1 a 11 37 11 0 fsX12 ha rfl (by decide) (by decide)).trans mf63_37
                  refine W.eq (g2 := F0 m 506 ls43 []) rfl ?_
                  refine lv_goto hx hb (eX12_readDate (506, .goto 11, 3) (List.mem_of_getElem? (i := 261) rfl)) (tgt := 517) rfl ?_
                  have hhd : hdG T (g, sg) = x2.1 := by simp only [hdG, hyr, hx2]
                  have hfin : drG T wh (g, sg) = ((upF (upF (upF (upF (upF x29.1 1 (2)) 1 (0)) 4 (x29.1 4 / 10)) 7 (x29.2.1 - 1)) 6 (x29.1 4 % 10 * 10 + x63.1)), x63.2) := by first | (simp only [drG, hdG, beG, wkG, wk1G, wk2G, daG, da1G, da2G, plG, pl1G, pl2G, upS, ad1, hyr, hsd, hx2, hx29, hx63, if_pos d6, if_neg d8, if_neg d10, if_pos d26, if_pos d40, up_eq, up_ne (show (4 : Nat) ≠ 1 by decide)]; done) | (simp only [drG, hdG, beG, wkG, wk1G, wk2G, daG, da1G, da2G, plG, pl1G, pl2G, upS, ad1, hyr, hsd, hx2, hx29, hx63, if_pos d6, if_neg d8, if_neg d10, if_pos d26, if_pos d40, up_eq, up_ne (show (4 : Nat) ≠ 1 by decide)] <;> rfl) | rfl
                  exact W.vret hx hb hr (fun t ht hW => ⟨rfl, by rw [ht]; exact hh66.l0, by rw [ht]; exact kp66, by rw [ht, hfin]; exact jv66, by rw [ht, hfin]; exact jg66, by rw [ht, hhd]; exact ⟨_, mf66_37, by omega⟩⟩) hh66.2.2.1 (eX12_readDate (517, .return_, 1) (List.mem_of_getElem? (i := 266) rfl))
        · skip
          refine lv_aload_n hx hb (eX12_readDate (185, .aload_n 0, 1) (List.mem_of_getElem? (i := 95) rfl)) rfl (lv_at hl 1 rfl) ?_
          refine tz_rowV (As := []) (st := []) (b := a) (C := RX12) (Ts := gT) hx hb hml hown h2 (fun _ h => h) (hX12_sign l D cA ro sz H0 a T (x2.2) ha) ⟨rfl, rfl⟩ ⟨by decide, by decide⟩ ⟨by decide, by decide⟩ (tb_8 21 rfl rfl) (tb_1 12 rfl rfl) (tb_8 18 rfl rfl) (tb_8 20 rfl rfl) (tb_0 32 rfl rfl) (show yX12_sign.cls ≠ "java/lang/invoke/MethodHandle" ∧ yX12_sign.cls ≠ "java/lang/invoke/VarHandle" ∧ (parseMethodDescriptor yX12_sign.desc).map (fun d => d.parameters.length) = some 0 by decide +kernel) zs_blind (zs_ob hh4 ha (show RTg[11]? = some (0, 11, 0, fsX12) from rfl) (zCX12 hKn.1)) (fun U hU hW => ⟨rfl, by rw [hU]; exact hh4.l0, zKb s U hW.alike hKn, by rw [hU]; exact jv3⟩) hh4.2.2.1 hl.1 (Nat.le_of_ble_eq_true rfl) (eX12_readDate (186, .invokevirtual 309, 3) (List.mem_of_getElem? (i := 96) rfl)) (fun r67 s67 t67 lo67 g67 f67 l67 => ?_)
          obtain ⟨z67, v67, q67, e67⟩ := f67
          cases q67
          rw [z67, g67]
          have hh67 : zh_ok D cA RTg ro sz H0 H3 lo67 := ⟨hh4.1, hh4.2.1, l67, hh4.2.2.2⟩
          refine W.eq (g2 := F0 m 189 ls [.int v67]) rfl ?_
          refine ff_bipush hx hb (eX12_readDate (189, .bipush 87, 2) (List.mem_of_getElem? (i := 97) rfl)) (by decide) (by decide) (fun v68 e68 => ?_)
          refine ff_icmp_ne hx hb (eX12_readDate (191, .if_icmp .ne 106, 3) (List.mem_of_getElem? (i := 98) rfl)) (tgt := 297) rfl (fun c69 => ?_) (fun c69 => ?_)
          · skip
            have d70 : ¬ ((x2.1 = 1 ∨ sd = 0) ∧ byI T x2.2.1 = 87) := by omega
            refine lv_aload_n hx hb (eX12_readDate (297, .aload_n 0, 1) (List.mem_of_getElem? (i := 151) rfl)) rfl (lv_at hl 1 rfl) ?_
            refine tz_get (r := 11) (k := 37) (t := (0, 0, 1)) hx hb hh67 ha rfl rfl (hcl11 365 37 (0, 0, 1) (by decide) rfl).1 hf3 (eX12_readDate (298, .getfield 365, 3) (List.mem_of_getElem? (i := 152) rfl)) ?_
            refine ff_if_eq hx hb (eX12_readDate (301, .ifCond .eq 100, 3) (List.mem_of_getElem? (i := 153) rfl)) (tgt := 401) rfl (fun c71 => ?_) (fun c71 => (by exfalso; omega))
            refine lv_iload_n hx hb (eX12_readDate (401, .iload_n 2, 1) (List.mem_of_getElem? (i := 205) rfl)) rfl (lv_at hl 0 rfl) ?_
            refine ff_if_ne hx hb (eX12_readDate (402, .ifCond .ne 107, 3) (List.mem_of_getElem? (i := 206) rfl)) (tgt := 509) rfl (fun c72 => ?_) (fun c72 => ?_)
            · skip
              have d73 : ¬ (sd = 0 ∧ isD (byI T x2.2.1)) := by omega
              refine lv_iload_n hx hb (eX12_readDate (509, .iload_n 1, 1) (List.mem_of_getElem? (i := 262) rfl)) rfl (lv_at hl 2 rfl) ?_
              refine ff_if_eq hx hb (eX12_readDate (510, .ifCond .eq 7, 3) (List.mem_of_getElem? (i := 263) rfl)) (tgt := 517) rfl (fun c74 => ?_) (fun c74 => ?_)
              · skip
                have d75 : ¬ wh = 1 := by omega
                have hhd : hdG T (g, sg) = x2.1 := by simp only [hdG, hyr, hx2]
                have hfin : drG T wh (g, sg) = (fj, x2.2) := by first | (simp only [drG, hdG, beG, wkG, wk1G, wk2G, daG, da1G, da2G, plG, pl1G, pl2G, upS, ad1, hyr, hsd, hx2, if_pos d6, if_neg d8, if_neg d70, if_neg d73, if_neg d75, up_eq, up_ne (show (4 : Nat) ≠ 1 by decide)]; done) | (simp only [drG, hdG, beG, wkG, wk1G, wk2G, daG, da1G, da2G, plG, pl1G, pl2G, upS, ad1, hyr, hsd, hx2, if_pos d6, if_neg d8, if_neg d70, if_neg d73, if_neg d75, up_eq, up_ne (show (4 : Nat) ≠ 1 by decide)] <;> rfl) | rfl
                exact W.vret hx hb hr (fun t ht hW => ⟨rfl, by rw [ht]; exact hh67.l0, by rw [ht]; exact kp3, by rw [ht, hfin]; exact jv3, by rw [ht, hfin]; exact jg3, by rw [ht, hhd]; exact ⟨_, hf3, by omega⟩⟩) hh67.2.2.1 (eX12_readDate (517, .return_, 1) (List.mem_of_getElem? (i := 266) rfl))
              · skip
                have d76 : wh = 1 := by omega
                refine lv_aload_n hx hb (eX12_readDate (513, .aload_n 0, 1) (List.mem_of_getElem? (i := 264) rfl)) rfl (lv_at hl 1 rfl) ?_
                refine tz_rowV (As := []) (st := []) (b := a) (C := RX12) (Ts := gT) hx hb hml hown h2 (fun _ h => h) (hX12_fail l D cA ro sz H0 a T (x2.2) ha) ⟨rfl, rfl⟩ ⟨by decide, by decide⟩ ⟨by decide, by decide⟩ (tb_8 31 rfl rfl) (tb_1 12 rfl rfl) (tb_8 28 rfl rfl) (tb_8 30 rfl rfl) (tb_0 33 rfl rfl) (show yX12_fail.cls ≠ "java/lang/invoke/MethodHandle" ∧ yX12_fail.cls ≠ "java/lang/invoke/VarHandle" ∧ (parseMethodDescriptor yX12_fail.desc).map (fun d => d.parameters.length) = some 0 by decide +kernel) zs_blind (zs_ob hh67 ha (show RTg[11]? = some (0, 11, 0, fsX12) from rfl) (zCX12 hKn.1)) (fun U hU hW => ⟨rfl, by rw [hU]; exact hh67.l0, zKb s U hW.alike hKn, by rw [hU]; exact jv3⟩) hh67.2.2.1 hl.1 (Nat.le_of_ble_eq_true rfl) (eX12_readDate (514, .invokevirtual 316, 3) (List.mem_of_getElem? (i := 265) rfl)) (fun r77 s77 t77 lo77 g77 f77 l77 => ?_)
                obtain ⟨q77, z77, c77, jv77⟩ := f77
                cases q77
                rw [g77] at c77
                have hh77 : zh_ok D cA RTg ro sz H0 t77.heap lo77 := ⟨z77.1, z77.2.1, l77, z77.2.2.2⟩
                have kp77 := kp3.trans (c77.mono (ms' := gM) (by decide))
                have kf77 := flG_nn (T := T) (r := x2.2) jv3.2.2
                generalize hx77 : flG x2.2 = x77 at jv77 kf77
                have uu77 := jv77.2.2
                unfold vOK at uu77
                have bb77 := byI_bd T x77.1
                have jg77 := jg3.kept ha c77 (by decide)
                have mf77_37 := (c77.1 a 11 37 11 0 fsX12 ha rfl (by decide) (by decide)).trans hf3
                refine W.eq (g2 := F0 m 517 ls []) rfl ?_
                have hhd : hdG T (g, sg) = x2.1 := by simp only [hdG, hyr, hx2]
                have hfin : drG T wh (g, sg) = (fj, x77) := by first | (simp only [drG, hdG, beG, wkG, wk1G, wk2G, daG, da1G, da2G, plG, pl1G, pl2G, upS, ad1, hyr, hsd, hx2, hx77, if_pos d6, if_neg d8, if_neg d70, if_neg d73, if_pos d76, up_eq, up_ne (show (4 : Nat) ≠ 1 by decide)]; done) | (simp only [drG, hdG, beG, wkG, wk1G, wk2G, daG, da1G, da2G, plG, pl1G, pl2G, upS, ad1, hyr, hsd, hx2, hx77, if_pos d6, if_neg d8, if_neg d70, if_neg d73, if_pos d76, up_eq, up_ne (show (4 : Nat) ≠ 1 by decide)] <;> rfl) | rfl
                exact W.vret hx hb hr (fun t ht hW => ⟨rfl, by rw [ht]; exact hh77.l0, by rw [ht]; exact kp77, by rw [ht, hfin]; exact jv77, by rw [ht, hfin]; exact jg77, by rw [ht, hhd]; exact ⟨_, mf77_37, by omega⟩⟩) hh77.2.2.1 (eX12_readDate (517, .return_, 1) (List.mem_of_getElem? (i := 266) rfl))
            · skip
              refine lv_aload_n hx hb (eX12_readDate (405, .aload_n 0, 1) (List.mem_of_getElem? (i := 207) rfl)) rfl (lv_at hl 1 rfl) ?_
              refine tz_rowV (As := []) (st := []) (b := a) (C := RX12) (Ts := gT) hx hb hml hown h2 (fun _ h => h) (hX12_sign l D cA ro sz H0 a T (x2.2) ha) ⟨rfl, rfl⟩ ⟨by decide, by decide⟩ ⟨by decide, by decide⟩ (tb_8 21 rfl rfl) (tb_1 12 rfl rfl) (tb_8 18 rfl rfl) (tb_8 20 rfl rfl) (tb_0 32 rfl rfl) (show yX12_sign.cls ≠ "java/lang/invoke/MethodHandle" ∧ yX12_sign.cls ≠ "java/lang/invoke/VarHandle" ∧ (parseMethodDescriptor yX12_sign.desc).map (fun d => d.parameters.length) = some 0 by decide +kernel) zs_blind (zs_ob hh67 ha (show RTg[11]? = some (0, 11, 0, fsX12) from rfl) (zCX12 hKn.1)) (fun U hU hW => ⟨rfl, by rw [hU]; exact hh67.l0, zKb s U hW.alike hKn, by rw [hU]; exact jv3⟩) hh67.2.2.1 hl.1 (Nat.le_of_ble_eq_true rfl) (eX12_readDate (406, .invokevirtual 309, 3) (List.mem_of_getElem? (i := 208) rfl)) (fun r78 s78 t78 lo78 g78 f78 l78 => ?_)
              obtain ⟨z78, v78, q78, e78⟩ := f78
              cases q78
              rw [z78, g78]
              have hh78 : zh_ok D cA RTg ro sz H0 H3 lo78 := ⟨hh67.1, hh67.2.1, l78, hh67.2.2.2⟩
              refine W.eq (g2 := F0 m 409 ls [.int v78]) rfl ?_
              refine zu_S (vs := [.int v78]) (rest := []) hx hb hml hown hts0 zu_BT (hX12_isDigit l v78) ⟨rfl, rfl⟩ ⟨by decide, by decide⟩ ⟨by decide, by decide⟩ (tb_8 27 rfl rfl) (tb_1 12 rfl rfl) (tb_8 25 rfl rfl) (tb_8 26 rfl rfl) (show yX12_isDigit.cls ≠ "java/lang/invoke/MethodHandle" ∧ yX12_isDigit.cls ≠ "java/lang/invoke/VarHandle" ∧ (parseMethodDescriptor yX12_isDigit.desc).map (fun d => d.parameters.length) = some 1 by decide +kernel) rfl (fun _ _ _ => trivial) hl.1 (Nat.le_of_ble_eq_true rfl) (eX12_readDate (409, .invokestatic 319, 3) (List.mem_of_getElem? (i := 209) rfl)) (fun w79 f79 => ?_)
              obtain ⟨v79, rfl, e79⟩ := f79
              refine ff_if_eq hx hb (eX12_readDate (412, .ifCond .eq 97, 3) (List.mem_of_getElem? (i := 210) rfl)) (tgt := 509) rfl (fun c80 => ?_) (fun c80 => ?_)
              · skip
                have d81 : ¬ (sd = 0 ∧ isD (byI T x2.2.1)) := by omega
                refine lv_iload_n hx hb (eX12_readDate (509, .iload_n 1, 1) (List.mem_of_getElem? (i := 262) rfl)) rfl (lv_at hl 2 rfl) ?_
                refine ff_if_eq hx hb (eX12_readDate (510, .ifCond .eq 7, 3) (List.mem_of_getElem? (i := 263) rfl)) (tgt := 517) rfl (fun c82 => ?_) (fun c82 => ?_)
                · skip
                  have d83 : ¬ wh = 1 := by omega
                  have hhd : hdG T (g, sg) = x2.1 := by simp only [hdG, hyr, hx2]
                  have hfin : drG T wh (g, sg) = (fj, x2.2) := by first | (simp only [drG, hdG, beG, wkG, wk1G, wk2G, daG, da1G, da2G, plG, pl1G, pl2G, upS, ad1, hyr, hsd, hx2, if_pos d6, if_neg d8, if_neg d70, if_neg d81, if_neg d83, up_eq, up_ne (show (4 : Nat) ≠ 1 by decide)]; done) | (simp only [drG, hdG, beG, wkG, wk1G, wk2G, daG, da1G, da2G, plG, pl1G, pl2G, upS, ad1, hyr, hsd, hx2, if_pos d6, if_neg d8, if_neg d70, if_neg d81, if_neg d83, up_eq, up_ne (show (4 : Nat) ≠ 1 by decide)] <;> rfl) | rfl
                  exact W.vret hx hb hr (fun t ht hW => ⟨rfl, by rw [ht]; exact hh78.l0, by rw [ht]; exact kp3, by rw [ht, hfin]; exact jv3, by rw [ht, hfin]; exact jg3, by rw [ht, hhd]; exact ⟨_, hf3, by omega⟩⟩) hh78.2.2.1 (eX12_readDate (517, .return_, 1) (List.mem_of_getElem? (i := 266) rfl))
                · skip
                  have d84 : wh = 1 := by omega
                  refine lv_aload_n hx hb (eX12_readDate (513, .aload_n 0, 1) (List.mem_of_getElem? (i := 264) rfl)) rfl (lv_at hl 1 rfl) ?_
                  refine tz_rowV (As := []) (st := []) (b := a) (C := RX12) (Ts := gT) hx hb hml hown h2 (fun _ h => h) (hX12_fail l D cA ro sz H0 a T (x2.2) ha) ⟨rfl, rfl⟩ ⟨by decide, by decide⟩ ⟨by decide, by decide⟩ (tb_8 31 rfl rfl) (tb_1 12 rfl rfl) (tb_8 28 rfl rfl) (tb_8 30 rfl rfl) (tb_0 33 rfl rfl) (show yX12_fail.cls ≠ "java/lang/invoke/MethodHandle" ∧ yX12_fail.cls ≠ "java/lang/invoke/VarHandle" ∧ (parseMethodDescriptor yX12_fail.desc).map (fun d => d.parameters.length) = some 0 by decide +kernel) zs_blind (zs_ob hh78 ha (show RTg[11]? = some (0, 11, 0, fsX12) from rfl) (zCX12 hKn.1)) (fun U hU hW => ⟨rfl, by rw [hU]; exact hh78.l0, zKb s U hW.alike hKn, by rw [hU]; exact jv3⟩) hh78.2.2.1 hl.1 (Nat.le_of_ble_eq_true rfl) (eX12_readDate (514, .invokevirtual 316, 3) (List.mem_of_getElem? (i := 265) rfl)) (fun r85 s85 t85 lo85 g85 f85 l85 => ?_)
                  obtain ⟨q85, z85, c85, jv85⟩ := f85
                  cases q85
                  rw [g85] at c85
                  have hh85 : zh_ok D cA RTg ro sz H0 t85.heap lo85 := ⟨z85.1, z85.2.1, l85, z85.2.2.2⟩
                  have kp85 := kp3.trans (c85.mono (ms' := gM) (by decide))
                  have kf85 := flG_nn (T := T) (r := x2.2) jv3.2.2
                  generalize hx85 : flG x2.2 = x85 at jv85 kf85
                  have uu85 := jv85.2.2
                  unfold vOK at uu85
                  have bb85 := byI_bd T x85.1
                  have jg85 := jg3.kept ha c85 (by decide)
                  have mf85_37 := (c85.1 a 11 37 11 0 fsX12 ha rfl (by decide) (by decide)).trans hf3
                  refine W.eq (g2 := F0 m 517 ls []) rfl ?_
                  have hhd : hdG T (g, sg) = x2.1 := by simp only [hdG, hyr, hx2]
                  have hfin : drG T wh (g, sg) = (fj, x85) := by first | (simp only [drG, hdG, beG, wkG, wk1G, wk2G, daG, da1G, da2G, plG, pl1G, pl2G, upS, ad1, hyr, hsd, hx2, hx85, if_pos d6, if_neg d8, if_neg d70, if_neg d81, if_pos d84, up_eq, up_ne (show (4 : Nat) ≠ 1 by decide)]; done) | (simp only [drG, hdG, beG, wkG, wk1G, wk2G, daG, da1G, da2G, plG, pl1G, pl2G, upS, ad1, hyr, hsd, hx2, hx85, if_pos d6, if_neg d8, if_neg d70, if_neg d81, if_pos d84, up_eq, up_ne (show (4 : Nat) ≠ 1 by decide)] <;> rfl) | rfl
                  exact W.vret hx hb hr (fun t ht hW => ⟨rfl, by rw [ht]; exact hh85.l0, by rw [ht]; exact kp85, by rw [ht, hfin]; exact jv85, by rw [ht, hfin]; exact jg85, by rw [ht, hhd]; exact ⟨_, mf85_37, by omega⟩⟩) hh85.2.2.1 (eX12_readDate (517, .return_, 1) (List.mem_of_getElem? (i := 266) rfl))
              · skip
                have d86 : sd = 0 ∧ isD (byI T x2.2.1) := by omega
                refine lv_aload_n hx hb (eX12_readDate (415, .aload_n 0, 1) (List.mem_of_getElem? (i := 211) rfl)) rfl (lv_at hl 1 rfl) ?_
                refine ff_iconst hx hb (eX12_readDate (416, .iconst 4, 1) (List.mem_of_getElem? (i := 212) rfl)) (by decide) (by decide) (fun v87 e87 => ?_)
                refine ff_iconst hx hb (eX12_readDate (417, .iconst 3, 1) (List.mem_of_getElem? (i := 213) rfl)) (by decide) (by decide) (fun v88 e88 => ?_)
                refine tz_rowV (As := [.int v87, .int v88]) (st := []) (b := a) (C := RX12) (Ts := gT) hx hb hml hown h2 (fun _ h => h) (hX12_dateNumber l D cA ro sz H0 a v87 v88 4 3 T (x2.2) n fj h ha hn1 hT (by omega) (by omega) (by decide) (by decide)) ⟨rfl, rfl⟩ ⟨by decide, by decide⟩ ⟨by decide, by decide⟩ (tb_8 76 rfl rfl) (tb_1 12 rfl rfl) (tb_8 73 rfl rfl) (tb_8 75 rfl rfl) (tb_0 43 rfl rfl) (show yX12_dateNumber.cls ≠ "java/lang/invoke/MethodHandle" ∧ yX12_dateNumber.cls ≠ "java/lang/invoke/VarHandle" ∧ (parseMethodDescriptor yX12_dateNumber.desc).map (fun d => d.parameters.length) = some 2 by decide +kernel) zs_blind (zs_ob hh78 ha (show RTg[11]? = some (0, 11, 0, fsX12) from rfl) (zCX12 hKn.1)) (fun U hU hW => ⟨rfl, by rw [hU]; exact hh78.l0, zKb s U hW.alike hKn, by rw [hU]; exact ⟨jv3, jg3⟩⟩) hh78.2.2.1 hl.1 (Nat.le_of_ble_eq_true rfl) (eX12_readDate (418, .invokevirtual 369, 3) (List.mem_of_getElem? (i := 214) rfl)) (fun r89 s89 t89 lo89 g89 f89 l89 => ?_)
                obtain ⟨q89, z89, c89, jv89, jg89⟩ := f89
                cases q89
                rw [g89] at c89
                have hh89 : zh_ok D cA RTg ro sz H0 t89.heap lo89 := ⟨z89.1, z89.2.1, l89, z89.2.2.2⟩
                have kp89 := kp3.trans (c89.mono (ms' := gM) (by decide))
                generalize hx89 : nuG T 4 3 (fj, x2.2) = x89 at jv89 jg89
                have uu89 := jv89.2.2
                unfold vOK at uu89
                have bb89 := byI_bd T x89.2.1
                have mf89_37 := (c89.1 a 11 37 11 0 fsX12 ha rfl (by decide) (by decide)).trans hf3
                have nb89 : 0 ≤ x89.1 4 ∧ x89.1 4 ≤ 999 := by rw [← hx89]; exact nuG_bd (by decide)
                refine W.eq (g2 := F0 m 421 ls []) rfl ?_
                refine lv_aload_n hx hb (eX12_readDate (421, .aload_n 0, 1) (List.mem_of_getElem? (i := 215) rfl)) rfl (lv_at hl 1 rfl) ?_
                refine ff_iconst hx hb (eX12_readDate (422, .iconst 1, 1) (List.mem_of_getElem? (i := 216) rfl)) (by decide) (by decide) (fun v90 e90 => ?_)
                refine ff_ldc2 (n := 2) hx hb hown h2 (clX12_ok 105 2 (List.mem_of_getElem? (i := 7) rfl)) (eX12_readDate (423, .ldc2_w 105, 3) (List.mem_of_getElem? (i := 217) rfl)) (fun v91 e91 => ?_)
                refine tz_rowV (As := [.int v90, .long v91]) (st := []) (b := a) (C := RX12) (Ts := gT) hx hb hml hown h2 (fun _ h => h) (hX12_set l D cA ro sz H0 a v90 v91 1 n x89.1 h ha hn1 (by omega) (by decide)) ⟨rfl, rfl⟩ ⟨by decide, by decide⟩ ⟨by decide, by decide⟩ (tb_8 72 rfl rfl) (tb_1 12 rfl rfl) (tb_8 69 rfl rfl) (tb_8 71 rfl rfl) (tb_0 42 rfl rfl) (show yX12_set.cls ≠ "java/lang/invoke/MethodHandle" ∧ yX12_set.cls ≠ "java/lang/invoke/VarHandle" ∧ (parseMethodDescriptor yX12_set.desc).map (fun d => d.parameters.length) = some 2 by decide +kernel) zs_blind (zs_ob hh89 ha (show RTg[11]? = some (0, 11, 0, fsX12) from rfl) (zCX12 hKn.1)) (fun U hU hW => ⟨rfl, by rw [hU]; exact hh89.l0, zKb s U hW.alike hKn, by rw [hU]; exact jg89⟩) hh89.2.2.1 hl.1 (Nat.le_of_ble_eq_true rfl) (eX12_readDate (426, .invokevirtual 357, 3) (List.mem_of_getElem? (i := 218) rfl)) (fun r92 s92 t92 lo92 g92 f92 l92 => ?_)
                obtain ⟨q92, z92, c92, jg92⟩ := f92
                cases q92
                rw [g92] at c92
                have hh92 : zh_ok D cA RTg ro sz H0 t92.heap lo92 := ⟨z92.1, z92.2.1, l92, z92.2.2.2⟩
                have kp92 := kp89.trans (c92.mono (ms' := gM) (by decide))
                have jg92 : jG D cA ro t92.heap a n (upF x89.1 1 (2)) h := by rw [← show v91.toInt = 2 by omega]; exact jg92
                have jv92 := jv89.kept ha c92 (by decide)
                have mf92_37 := (c92.1 a 11 37 11 0 fsX12 ha rfl (by decide) (by decide)).trans mf89_37
                refine W.eq (g2 := F0 m 429 ls []) rfl ?_
                refine lv_aload_n hx hb (eX12_readDate (429, .aload_n 0, 1) (List.mem_of_getElem? (i := 219) rfl)) rfl (lv_at hl 1 rfl) ?_
                refine tz_rowV (As := []) (st := []) (b := a) (C := RX12) (Ts := gT) hx hb hml hown h2 (fun _ h => h) (hX12_isGood l D cA ro sz H0 a T (x89.2) ha) ⟨rfl, rfl⟩ ⟨by decide, by decide⟩ ⟨by decide, by decide⟩ (tb_8 17 rfl rfl) (tb_1 12 rfl rfl) (tb_8 14 rfl rfl) (tb_8 16 rfl rfl) (tb_0 31 rfl rfl) (show yX12_isGood.cls ≠ "java/lang/invoke/MethodHandle" ∧ yX12_isGood.cls ≠ "java/lang/invoke/VarHandle" ∧ (parseMethodDescriptor yX12_isGood.desc).map (fun d => d.parameters.length) = some 0 by decide +kernel) zs_blind (zs_ob hh92 ha (show RTg[11]? = some (0, 11, 0, fsX12) from rfl) (zCX12 hKn.1)) (fun U hU hW => ⟨rfl, by rw [hU]; exact hh92.l0, zKb s U hW.alike hKn, by rw [hU]; exact jv92⟩) hh92.2.2.1 hl.1 (Nat.le_of_ble_eq_true rfl) (eX12_readDate (430, .invokevirtual 305, 3) (List.mem_of_getElem? (i := 220) rfl)) (fun r93 s93 t93 lo93 g93 f93 l93 => ?_)
                obtain ⟨z93, v93, q93, e93⟩ := f93
                cases q93
                rw [z93, g93]
                have hh93 : zh_ok D cA RTg ro sz H0 t92.heap lo93 := ⟨hh92.1, hh92.2.1, l93, hh92.2.2.2⟩
                refine W.eq (g2 := F0 m 433 ls [.int v93]) rfl ?_
                refine ff_if_eq hx hb (eX12_readDate (433, .ifCond .eq 84, 3) (List.mem_of_getElem? (i := 221) rfl)) (tgt := 517) rfl (fun c94 => ?_) (fun c94 => ?_)
                · skip
                  have d95 : ¬ (x89.2.2.1 < 0 ∧ isD (byI T x89.2.1)) := by omega
                  have hhd : hdG T (g, sg) = x2.1 := by simp only [hdG, hyr, hx2]
                  have hfin : drG T wh (g, sg) = ((upF x89.1 1 (2)), x89.2) := by first | (simp only [drG, hdG, beG, wkG, wk1G, wk2G, daG, da1G, da2G, plG, pl1G, pl2G, upS, ad1, hyr, hsd, hx2, hx89, if_pos d6, if_neg d8, if_neg d70, if_pos d86, if_neg d95, up_eq, up_ne (show (4 : Nat) ≠ 1 by decide)]; done) | (simp only [drG, hdG, beG, wkG, wk1G, wk2G, daG, da1G, da2G, plG, pl1G, pl2G, upS, ad1, hyr, hsd, hx2, hx89, if_pos d6, if_neg d8, if_neg d70, if_pos d86, if_neg d95, up_eq, up_ne (show (4 : Nat) ≠ 1 by decide)] <;> rfl) | rfl
                  exact W.vret hx hb hr (fun t ht hW => ⟨rfl, by rw [ht]; exact hh93.l0, by rw [ht]; exact kp92, by rw [ht, hfin]; exact jv92, by rw [ht, hfin]; exact jg92, by rw [ht, hhd]; exact ⟨_, mf92_37, by omega⟩⟩) hh93.2.2.1 (eX12_readDate (517, .return_, 1) (List.mem_of_getElem? (i := 266) rfl))
                · skip
                  refine lv_aload_n hx hb (eX12_readDate (436, .aload_n 0, 1) (List.mem_of_getElem? (i := 222) rfl)) rfl (lv_at hl 1 rfl) ?_
                  refine tz_rowV (As := []) (st := []) (b := a) (C := RX12) (Ts := gT) hx hb hml hown h2 (fun _ h => h) (hX12_sign l D cA ro sz H0 a T (x89.2) ha) ⟨rfl, rfl⟩ ⟨by decide, by decide⟩ ⟨by decide, by decide⟩ (tb_8 21 rfl rfl) (tb_1 12 rfl rfl) (tb_8 18 rfl rfl) (tb_8 20 rfl rfl) (tb_0 32 rfl rfl) (show yX12_sign.cls ≠ "java/lang/invoke/MethodHandle" ∧ yX12_sign.cls ≠ "java/lang/invoke/VarHandle" ∧ (parseMethodDescriptor yX12_sign.desc).map (fun d => d.parameters.length) = some 0 by decide +kernel) zs_blind (zs_ob hh93 ha (show RTg[11]? = some (0, 11, 0, fsX12) from rfl) (zCX12 hKn.1)) (fun U hU hW => ⟨rfl, by rw [hU]; exact hh93.l0, zKb s U hW.alike hKn, by rw [hU]; exact jv92⟩) hh93.2.2.1 hl.1 (Nat.le_of_ble_eq_true rfl) (eX12_readDate (437, .invokevirtual 309, 3) (List.mem_of_getElem? (i := 223) rfl)) (fun r96 s96 t96 lo96 g96 f96 l96 => ?_)
                  obtain ⟨z96, v96, q96, e96⟩ := f96
                  cases q96
                  rw [z96, g96]
                  have hh96 : zh_ok D cA RTg ro sz H0 t92.heap lo96 := ⟨hh93.1, hh93.2.1, l96, hh93.2.2.2⟩
                  refine W.eq (g2 := F0 m 440 ls [.int v96]) rfl ?_
                  refine zu_S (vs := [.int v96]) (rest := []) hx hb hml hown hts0 zu_BT (hX12_isDigit l v96) ⟨rfl, rfl⟩ ⟨by decide, by decide⟩ ⟨by decide, by decide⟩ (tb_8 27 rfl rfl) (tb_1 12 rfl rfl) (tb_8 25 rfl rfl) (tb_8 26 rfl rfl) (show yX12_isDigit.cls ≠ "java/lang/invoke/MethodHandle" ∧ yX12_isDigit.cls ≠ "java/lang/invoke/VarHandle" ∧ (parseMethodDescriptor yX12_isDigit.desc).map (fun d => d.parameters.length) = some 1 by decide +kernel) rfl (fun _ _ _ => trivial) hl.1 (Nat.le_of_ble_eq_true rfl) (eX12_readDate (440, .invokestatic 319, 3) (List.mem_of_getElem? (i := 224) rfl)) (fun w97 f97 => ?_)
                  obtain ⟨v97, rfl, e97⟩ := f97
                  refine ff_if_eq hx hb (eX12_readDate (443, .ifCond .eq 74, 3) (List.mem_of_getElem? (i := 225) rfl)) (tgt := 517) rfl (fun c98 => ?_) (fun c98 => ?_)
                  · skip
                    have d99 : ¬ (x89.2.2.1 < 0 ∧ isD (byI T x89.2.1)) := by omega
                    have hhd : hdG T (g, sg) = x2.1 := by simp only [hdG, hyr, hx2]
                    have hfin : drG T wh (g, sg) = ((upF x89.1 1 (2)), x89.2) := by first | (simp only [drG, hdG, beG, wkG, wk1G, wk2G, daG, da1G, da2G, plG, pl1G, pl2G, upS, ad1, hyr, hsd, hx2, hx89, if_pos d6, if_neg d8, if_neg d70, if_pos d86, if_neg d99, up_eq, up_ne (show (4 : Nat) ≠ 1 by decide)]; done) | (simp only [drG, hdG, beG, wkG, wk1G, wk2G, daG, da1G, da2G, plG, pl1G, pl2G, upS, ad1, hyr, hsd, hx2, hx89, if_pos d6, if_neg d8, if_neg d70, if_pos d86, if_neg d99, up_eq, up_ne (show (4 : Nat) ≠ 1 by decide)] <;> rfl) | rfl
                    exact W.vret hx hb hr (fun t ht hW => ⟨rfl, by rw [ht]; exact hh96.l0, by rw [ht]; exact kp92, by rw [ht, hfin]; exact jv92, by rw [ht, hfin]; exact jg92, by rw [ht, hhd]; exact ⟨_, mf92_37, by omega⟩⟩) hh96.2.2.1 (eX12_readDate (517, .return_, 1) (List.mem_of_getElem? (i := 266) rfl))
                  · skip
                    have d100 : x89.2.2.1 < 0 ∧ isD (byI T x89.2.1) := by omega
                    refine lv_aload_n hx hb (eX12_readDate (446, .aload_n 0, 1) (List.mem_of_getElem? (i := 226) rfl)) rfl (lv_at hl 1 rfl) ?_
                    refine ff_iconst hx hb (eX12_readDate (447, .iconst 4, 1) (List.mem_of_getElem? (i := 227) rfl)) (by decide) (by decide) (fun v101 e101 => ?_)
                    refine tz_rowV (As := [.int v101]) (st := []) (b := a) (C := RX12) (Ts := gT) hx hb hml hown h2 (fun _ h => h) (hX12_get l D cA ro sz H0 a v101 4 n (upF x89.1 1 (2)) h ha hn1 (by omega) (by decide)) ⟨rfl, rfl⟩ ⟨by decide, by decide⟩ ⟨by decide, by decide⟩ (tb_8 94 rfl rfl) (tb_1 12 rfl rfl) (tb_8 91 rfl rfl) (tb_8 93 rfl rfl) (tb_0 47 rfl rfl) (show yX12_get.cls ≠ "java/lang/invoke/MethodHandle" ∧ yX12_get.cls ≠ "java/lang/invoke/VarHandle" ∧ (parseMethodDescriptor yX12_get.desc).map (fun d => d.parameters.length) = some 1 by decide +kernel) zs_blind (zs_ob hh96 ha (show RTg[11]? = some (0, 11, 0, fsX12) from rfl) (zCX12 hKn.1)) (fun U hU hW => ⟨rfl, by rw [hU]; exact hh96.l0, zKb s U hW.alike hKn, by rw [hU]; exact jg92⟩) hh96.2.2.1 hl.1 (Nat.le_of_ble_eq_true rfl) (eX12_readDate (448, .invokevirtual 361, 3) (List.mem_of_getElem? (i := 228) rfl)) (fun r102 s102 t102 lo102 g102 f102 l102 => ?_)
                    obtain ⟨z102, v102, q102, e102⟩ := f102
                    cases q102
                    rw [z102, g102]
                    have hh102 : zh_ok D cA RTg ro sz H0 t92.heap lo102 := ⟨hh96.1, hh96.2.1, l102, hh96.2.2.2⟩
                    rw [up_ne (show (4 : Nat) ≠ 1 by decide)] at e102
                    refine W.eq (g2 := F0 m 451 ls [.long v102]) rfl ?_
                    refine lv_lstore hx hb (eX12_readDate (451, .lstore 6, 2) (List.mem_of_getElem? (i := 229) rfl)) hl (by decide) rfl (fun ls103 hl103 => ?_)
                    refine lv_aload_n hx hb (eX12_readDate (453, .aload_n 0, 1) (List.mem_of_getElem? (i := 230) rfl)) rfl (lv_at hl103 2 rfl) ?_
                    refine ff_iconst hx hb (eX12_readDate (454, .iconst 1, 1) (List.mem_of_getElem? (i := 231) rfl)) (by decide) (by decide) (fun v104 e104 => ?_)
                    refine ff_lconst hx hb (eX12_readDate (455, .lconst 0, 1) (List.mem_of_getElem? (i := 232) rfl)) rfl (fun v105 e105 => ?_)
                    refine tz_rowV (As := [.int v104, .long v105]) (st := []) (b := a) (C := RX12) (Ts := gT) hx hb hml hown h2 (fun _ h => h) (hX12_set l D cA ro sz H0 a v104 v105 1 n (upF x89.1 1 (2)) h ha hn1 (by omega) (by decide)) ⟨rfl, rfl⟩ ⟨by decide, by decide⟩ ⟨by decide, by decide⟩ (tb_8 72 rfl rfl) (tb_1 12 rfl rfl) (tb_8 69 rfl rfl) (tb_8 71 rfl rfl) (tb_0 42 rfl rfl) (show yX12_set.cls ≠ "java/lang/invoke/MethodHandle" ∧ yX12_set.cls ≠ "java/lang/invoke/VarHandle" ∧ (parseMethodDescriptor yX12_set.desc).map (fun d => d.parameters.length) = some 2 by decide +kernel) zs_blind (zs_ob hh102 ha (show RTg[11]? = some (0, 11, 0, fsX12) from rfl) (zCX12 hKn.1)) (fun U hU hW => ⟨rfl, by rw [hU]; exact hh102.l0, zKb s U hW.alike hKn, by rw [hU]; exact jg92⟩) hh102.2.2.1 hl103.1 (Nat.le_of_ble_eq_true rfl) (eX12_readDate (456, .invokevirtual 357, 3) (List.mem_of_getElem? (i := 233) rfl)) (fun r106 s106 t106 lo106 g106 f106 l106 => ?_)
                    obtain ⟨q106, z106, c106, jg106⟩ := f106
                    cases q106
                    rw [g106] at c106
                    have hh106 : zh_ok D cA RTg ro sz H0 t106.heap lo106 := ⟨z106.1, z106.2.1, l106, z106.2.2.2⟩
                    have kp106 := kp92.trans (c106.mono (ms' := gM) (by decide))
                    have jg106 : jG D cA ro t106.heap a n (upF (upF x89.1 1 (2)) 1 (0)) h := by rw [← show v105.toInt = 0 by omega]; exact jg106
                    have jv106 := jv92.kept ha c106 (by decide)
                    have mf106_37 := (c106.1 a 11 37 11 0 fsX12 ha rfl (by decide) (by decide)).trans mf92_37
                    refine W.eq (g2 := F0 m 459 ls103 []) rfl ?_
                    refine lv_aload_n hx hb (eX12_readDate (459, .aload_n 0, 1) (List.mem_of_getElem? (i := 234) rfl)) rfl (lv_at hl103 2 rfl) ?_
                    refine ff_iconst hx hb (eX12_readDate (460, .iconst 4, 1) (List.mem_of_getElem? (i := 235) rfl)) (by decide) (by decide) (fun v107 e107 => ?_)
                    refine lv_lload hx hb (eX12_readDate (461, .lload 6, 2) (List.mem_of_getElem? (i := 236) rfl)) (lv_at hl103 0 rfl) ?_
                    refine ff_ldc2 (n := 10) hx hb hown h2 (clX12_ok 373 10 (List.mem_of_getElem? (i := 32) rfl)) (eX12_readDate (463, .ldc2_w 373, 3) (List.mem_of_getElem? (i := 237) rfl)) (fun v108 e108 => ?_)
                    refine ff_ldivP hx hb (eX12_readDate (466, .ldiv, 1) (List.mem_of_getElem? (i := 238) rfl)) (by omega) (e108) (by decide) (fun v109 e109 => ?_)
                    refine tz_rowV (As := [.int v107, .long v109]) (st := []) (b := a) (C := RX12) (Ts := gT) hx hb hml hown h2 (fun _ h => h) (hX12_set l D cA ro sz H0 a v107 v109 4 n (upF (upF x89.1 1 (2)) 1 (0)) h ha hn1 (by omega) (by decide)) ⟨rfl, rfl⟩ ⟨by decide, by decide⟩ ⟨by decide, by decide⟩ (tb_8 72 rfl rfl) (tb_1 12 rfl rfl) (tb_8 69 rfl rfl) (tb_8 71 rfl rfl) (tb_0 42 rfl rfl) (show yX12_set.cls ≠ "java/lang/invoke/MethodHandle" ∧ yX12_set.cls ≠ "java/lang/invoke/VarHandle" ∧ (parseMethodDescriptor yX12_set.desc).map (fun d => d.parameters.length) = some 2 by decide +kernel) zs_blind (zs_ob hh106 ha (show RTg[11]? = some (0, 11, 0, fsX12) from rfl) (zCX12 hKn.1)) (fun U hU hW => ⟨rfl, by rw [hU]; exact hh106.l0, zKb s U hW.alike hKn, by rw [hU]; exact jg106⟩) hh106.2.2.1 hl103.1 (Nat.le_of_ble_eq_true rfl) (eX12_readDate (467, .invokevirtual 357, 3) (List.mem_of_getElem? (i := 239) rfl)) (fun r110 s110 t110 lo110 g110 f110 l110 => ?_)
                    obtain ⟨q110, z110, c110, jg110⟩ := f110
                    cases q110
                    rw [g110] at c110
                    have hh110 : zh_ok D cA RTg ro sz H0 t110.heap lo110 := ⟨z110.1, z110.2.1, l110, z110.2.2.2⟩
                    have kp110 := kp106.trans (c110.mono (ms' := gM) (by decide))
                    have jg110 : jG D cA ro t110.heap a n (upF (upF (upF x89.1 1 (2)) 1 (0)) 4 (x89.1 4 / 10)) h := by rw [← show v109.toInt = x89.1 4 / 10 by omega]; exact jg110
                    have jv110 := jv106.kept ha c110 (by decide)
                    have mf110_37 := (c110.1 a 11 37 11 0 fsX12 ha rfl (by decide) (by decide)).trans mf106_37
                    refine W.eq (g2 := F0 m 470 ls103 []) rfl ?_
                    refine lv_aload_n hx hb (eX12_readDate (470, .aload_n 0, 1) (List.mem_of_getElem? (i := 240) rfl)) rfl (lv_at hl103 2 rfl) ?_
                    refine ff_bipush hx hb (eX12_readDate (471, .bipush 7, 2) (List.mem_of_getElem? (i := 241) rfl)) (by decide) (by decide) (fun v111 e111 => ?_)
                    refine lv_aload_n hx hb (eX12_readDate (473, .aload_n 0, 1) (List.mem_of_getElem? (i := 242) rfl)) rfl (lv_at hl103 2 rfl) ?_
                    obtain ⟨jt112, ⟨av112, fv112, bv112, f29112, f30112, f31112, hav112, hfv112, hbv112⟩, hu112⟩ := id jv110
                    refine tz_get (r := 11) (k := 29) (t := (0, 0, 120)) hx hb hh110 ha rfl rfl (hcl11 293 29 (0, 0, 120) (by decide) rfl).1 f29112 (eX12_readDate (474, .getfield 293, 3) (List.mem_of_getElem? (i := 243) rfl)) ?_
                    refine ff_iconst hx hb (eX12_readDate (477, .iconst 1, 1) (List.mem_of_getElem? (i := 244) rfl)) (by decide) (by decide) (fun v113 e113 => ?_)
                    refine ff_isub hx hb (eX12_readDate (478, .isub, 1) (List.mem_of_getElem? (i := 245) rfl)) (by omega) (by omega) (fun v114 e114 => ?_)
                    refine ff_i2l hx hb (eX12_readDate (479, .i2l, 1) (List.mem_of_getElem? (i := 246) rfl)) (fun v115 e115 => ?_)
                    refine tz_rowV (As := [.int v111, .long v115]) (st := []) (b := a) (C := RX12) (Ts := gT) hx hb hml hown h2 (fun _ h => h) (hX12_set l D cA ro sz H0 a v111 v115 7 n (upF (upF (upF x89.1 1 (2)) 1 (0)) 4 (x89.1 4 / 10)) h ha hn1 (by omega) (by decide)) ⟨rfl, rfl⟩ ⟨by decide, by decide⟩ ⟨by decide, by decide⟩ (tb_8 72 rfl rfl) (tb_1 12 rfl rfl) (tb_8 69 rfl rfl) (tb_8 71 rfl rfl) (tb_0 42 rfl rfl) (show yX12_set.cls ≠ "java/lang/invoke/MethodHandle" ∧ yX12_set.cls ≠ "java/lang/invoke/VarHandle" ∧ (parseMethodDescriptor yX12_set.desc).map (fun d => d.parameters.length) = some 2 by decide +kernel) zs_blind (zs_ob hh110 ha (show RTg[11]? = some (0, 11, 0, fsX12) from rfl) (zCX12 hKn.1)) (fun U hU hW => ⟨rfl, by rw [hU]; exact hh110.l0, zKb s U hW.alike hKn, by rw [hU]; exact jg110⟩) hh110.2.2.1 hl103.1 (Nat.le_of_ble_eq_true rfl) (eX12_readDate (480, .invokevirtual 357, 3) (List.mem_of_getElem? (i := 247) rfl)) (fun r116 s116 t116 lo116 g116 f116 l116 => ?_)
                    obtain ⟨q116, z116, c116, jg116⟩ := f116
                    cases q116
                    rw [g116] at c116
                    have hh116 : zh_ok D cA RTg ro sz H0 t116.heap lo116 := ⟨z116.1, z116.2.1, l116, z116.2.2.2⟩
                    have kp116 := kp110.trans (c116.mono (ms' := gM) (by decide))
                    have jg116 : jG D cA ro t116.heap a n (upF (upF (upF (upF x89.1 1 (2)) 1 (0)) 4 (x89.1 4 / 10)) 7 (x89.2.1 - 1)) h := by rw [← show v115.toInt = x89.2.1 - 1 by omega]; exact jg116
                    have jv116 := jv110.kept ha c116 (by decide)
                    have mf116_37 := (c116.1 a 11 37 11 0 fsX12 ha rfl (by decide) (by decide)).trans mf110_37
                    refine W.eq (g2 := F0 m 483 ls103 []) rfl ?_
                    refine lv_aload_n hx hb (eX12_readDate (483, .aload_n 0, 1) (List.mem_of_getElem? (i := 248) rfl)) rfl (lv_at hl103 2 rfl) ?_
                    refine ff_bipush hx hb (eX12_readDate (484, .bipush 6, 2) (List.mem_of_getElem? (i := 249) rfl)) (by decide) (by decide) (fun v117 e117 => ?_)
                    refine lv_lload hx hb (eX12_readDate (486, .lload 6, 2) (List.mem_of_getElem? (i := 250) rfl)) (lv_at hl103 0 rfl) ?_
                    refine ff_ldc2 (n := 10) hx hb hown h2 (clX12_ok 373 10 (List.mem_of_getElem? (i := 32) rfl)) (eX12_readDate (488, .ldc2_w 373, 3) (List.mem_of_getElem? (i := 251) rfl)) (fun v118 e118 => ?_)
                    refine ff_lremP hx hb (eX12_readDate (491, .lrem, 1) (List.mem_of_getElem? (i := 252) rfl)) (by omega) (e118) (by decide) (fun v119 e119 => ?_)
                    refine ff_ldc2 (n := 10) hx hb hown h2 (clX12_ok 373 10 (List.mem_of_getElem? (i := 32) rfl)) (eX12_readDate (492, .ldc2_w 373, 3) (List.mem_of_getElem? (i := 253) rfl)) (fun v120 e120 => ?_)
                    refine ff_lmulR hx hb (eX12_readDate (495, .lmul, 1) (List.mem_of_getElem? (i := 254) rfl)) (e120) (by omega) (by omega) (fun v121 e121 => ?_)
                    refine lv_aload_n hx hb (eX12_readDate (496, .aload_n 0, 1) (List.mem_of_getElem? (i := 255) rfl)) rfl (lv_at hl103 2 rfl) ?_
                    refine ff_iconst hx hb (eX12_readDate (497, .iconst 1, 1) (List.mem_of_getElem? (i := 256) rfl)) (by decide) (by decide) (fun v122 e122 => ?_)
                    refine tz_rowV (As := [.int v122]) (st := [.long v121, .int v117, .ref a]) (b := a) (C := RX12) (Ts := gT) hx hb hml hown h2 (fun _ h => h) (hX12_digitsW l D cA ro sz H0 a v122 1 T (x89.2) ha (by omega) (by decide)) ⟨rfl, rfl⟩ ⟨by decide, by decide⟩ ⟨by decide, by decide⟩ (tb_8 43 rfl rfl) (tb_1 12 rfl rfl) (tb_8 40 rfl rfl) (tb_8 42 rfl rfl) (tb_0 36 rfl rfl) (show yX12_digits.cls ≠ "java/lang/invoke/MethodHandle" ∧ yX12_digits.cls ≠ "java/lang/invoke/VarHandle" ∧ (parseMethodDescriptor yX12_digits.desc).map (fun d => d.parameters.length) = some 1 by decide +kernel) zs_blind (zs_ob hh116 ha (show RTg[11]? = some (0, 11, 0, fsX12) from rfl) (zCX12 hKn.1)) (fun U hU hW => ⟨rfl, by rw [hU]; exact hh116.l0, zKb s U hW.alike hKn, by rw [hU]; exact jv116⟩) hh116.2.2.1 hl103.1 (Nat.le_of_ble_eq_true rfl) (eX12_readDate (498, .invokevirtual 331, 3) (List.mem_of_getElem? (i := 257) rfl)) (fun r123 s123 t123 lo123 g123 f123 l123 => ?_)
                    obtain ⟨v123, q123, e123, z123, c123, jv123⟩ := f123
                    cases q123
                    rw [g123] at c123
                    have hh123 : zh_ok D cA RTg ro sz H0 t123.heap lo123 := ⟨z123.1, z123.2.1, l123, z123.2.2.2⟩
                    have kp123 := kp116.trans (c123.mono (ms' := gM) (by decide))
                    have kf123 := dgG_w (T := T) (n := 1) (r := x89.2) (M := 9) (by decide)
                    generalize hx123 : dgG T 1 0 x89.2 = x123 at jv123 e123 kf123
                    have uu123 := jv123.2.2
                    unfold vOK at uu123
                    have bb123 := byI_bd T x123.2.1
                    have jg123 := jg116.kept ha c123 (by decide)
                    have mf123_37 := (c123.1 a 11 37 11 0 fsX12 ha rfl (by decide) (by decide)).trans mf116_37
                    refine W.eq (g2 := F0 m 501 ls103 [.int v123, .long v121, .int v117, .ref a]) rfl ?_
                    refine ff_i2l hx hb (eX12_readDate (501, .i2l, 1) (List.mem_of_getElem? (i := 258) rfl)) (fun v124 e124 => ?_)
                    refine ff_ladd hx hb (eX12_readDate (502, .ladd, 1) (List.mem_of_getElem? (i := 259) rfl)) (by omega) (by omega) (fun v125 e125 => ?_)
                    refine tz_rowV (As := [.int v117, .long v125]) (st := []) (b := a) (C := RX12) (Ts := gT) hx hb hml hown h2 (fun _ h => h) (hX12_set l D cA ro sz H0 a v117 v125 6 n (upF (upF (upF (upF x89.1 1 (2)) 1 (0)) 4 (x89.1 4 / 10)) 7 (x89.2.1 - 1)) h ha hn1 (by omega) (by decide)) ⟨rfl, rfl⟩ ⟨by decide, by decide⟩ ⟨by decide, by decide⟩ (tb_8 72 rfl rfl) (tb_1 12 rfl rfl) (tb_8 69 rfl rfl) (tb_8 71 rfl rfl) (tb_0 42 rfl rfl) (show yX12_set.cls ≠ "java/lang/invoke/MethodHandle" ∧ yX12_set.cls ≠ "java/lang/invoke/VarHandle" ∧ (parseMethodDescriptor yX12_set.desc).map (fun d => d.parameters.length) = some 2 by decide +kernel) zs_blind (zs_ob hh123 ha (show RTg[11]? = some (0, 11, 0, fsX12) from rfl) (zCX12 hKn.1)) (fun U hU hW => ⟨rfl, by rw [hU]; exact hh123.l0, zKb s U hW.alike hKn, by rw [hU]; exact jg123⟩) hh123.2.2.1 hl103.1 (Nat.le_of_ble_eq_true rfl) (eX12_readDate (503, .invokevirtual 357, 3) (List.mem_of_getElem? (i := 260) rfl)) (fun r126 s126 t126 lo126 g126 f126 l126 => ?_)
                    obtain ⟨q126, z126, c126, jg126⟩ := f126
                    cases q126
                    rw [g126] at c126
                    have hh126 : zh_ok D cA RTg ro sz H0 t126.heap lo126 := ⟨z126.1, z126.2.1, l126, z126.2.2.2⟩
                    have kp126 := kp123.trans (c126.mono (ms' := gM) (by decide))
                    have jg126 : jG D cA ro t126.heap a n (upF (upF (upF (upF (upF x89.1 1 (2)) 1 (0)) 4 (x89.1 4 / 10)) 7 (x89.2.1 - 1)) 6 (x89.1 4 % 10 * 10 + x123.1)) h := by rw [← show v125.toInt = x89.1 4 % 10 * 10 + x123.1 by omega]; exact jg126
                    have jv126 := jv123.kept ha c126 (by decide)
                    have mf126_37 := (c126.1 a 11 37 11 0 fsX12 ha rfl (by decide) (by decide)).trans mf123_37
                    refine W.eq (g2 := F0 m 506 ls103 []) rfl ?_
                    refine lv_goto hx hb (eX12_readDate (506, .goto 11, 3) (List.mem_of_getElem? (i := 261) rfl)) (tgt := 517) rfl ?_
                    have hhd : hdG T (g, sg) = x2.1 := by simp only [hdG, hyr, hx2]
                    have hfin : drG T wh (g, sg) = ((upF (upF (upF (upF (upF x89.1 1 (2)) 1 (0)) 4 (x89.1 4 / 10)) 7 (x89.2.1 - 1)) 6 (x89.1 4 % 10 * 10 + x123.1)), x123.2) := by first | (simp only [drG, hdG, beG, wkG, wk1G, wk2G, daG, da1G, da2G, plG, pl1G, pl2G, upS, ad1, hyr, hsd, hx2, hx89, hx123, if_pos d6, if_neg d8, if_neg d70, if_pos d86, if_pos d100, up_eq, up_ne (show (4 : Nat) ≠ 1 by decide)]; done) | (simp only [drG, hdG, beG, wkG, wk1G, wk2G, daG, da1G, da2G, plG, pl1G, pl2G, upS, ad1, hyr, hsd, hx2, hx89, hx123, if_pos d6, if_neg d8, if_neg d70, if_pos d86, if_pos d100, up_eq, up_ne (show (4 : Nat) ≠ 1 by decide)] <;> rfl) | rfl
                    exact W.vret hx hb hr (fun t ht hW => ⟨rfl, by rw [ht]; exact hh126.l0, by rw [ht]; exact kp126, by rw [ht, hfin]; exact jv126, by rw [ht, hfin]; exact jg126, by rw [ht, hhd]; exact ⟨_, mf126_37, by omega⟩⟩) hh126.2.2.1 (eX12_readDate (517, .return_, 1) (List.mem_of_getElem? (i := 266) rfl))
          · skip
            have d127 : ((x2.1 = 1 ∨ sd = 0) ∧ byI T x2.2.1 = 87) := by omega
            refine lv_aload_n hx hb (eX12_readDate (194, .aload_n 0, 1) (List.mem_of_getElem? (i := 99) rfl)) rfl (lv_at hl 1 rfl) ?_
            refine lv_dup hx hb (eX12_readDate (195, .dup, 1) (List.mem_of_getElem? (i := 100) rfl)) rfl ?_
            obtain ⟨jt128, ⟨av128, fv128, bv128, f29128, f30128, f31128, hav128, hfv128, hbv128⟩, hu128⟩ := id jv3
            refine tz_get (r := 11) (k := 29) (t := (0, 0, 120)) hx hb hh67 ha rfl rfl (hcl11 293 29 (0, 0, 120) (by decide) rfl).1 f29128 (eX12_readDate (196, .getfield 293, 3) (List.mem_of_getElem? (i := 101) rfl)) ?_
            refine ff_iconst hx hb (eX12_readDate (199, .iconst 1, 1) (List.mem_of_getElem? (i := 102) rfl)) (by decide) (by decide) (fun v129 e129 => ?_)
            have ha9130 : av128.toInt + v129.toInt ≤ 121 ∧ 0 ≤ av128.toInt := by omega
            refine ff_iadd hx hb (eX12_readDate (200, .iadd, 1) (List.mem_of_getElem? (i := 103) rfl)) (by omega) (by omega) (fun v130 e130 => ?_)
            have hlt := byI_lt (T := T) (a := x2.2.1) (by omega) (by omega)
            refine tz_put (r := 11) (k := 29) (t := (0, 0, 120)) hx hb hD hh67 ha rfl rfl ((hcl11 293 29 (0, 0, 120) (by decide) rfl).2 (by decide)) (tz_i (by omega) (by omega)) (eX12_readDate (201, .putfield 293, 3) (List.mem_of_getElem? (i := 104) rfl)) (fun H131 lo131 hh131 hf131 hk131 _ hq131 => ?_)
            have mf131_a_37 := (hk131.1 a 11 37 11 0 fsX12 ha rfl (by decide) (by decide)).trans hf3
            have mf131_a_30 := (hk131.1 a 11 30 11 0 fsX12 ha rfl (by decide) (by decide)).trans f30128
            have mf131_a_31 := (hk131.1 a 11 31 11 0 fsX12 ha rfl (by decide) (by decide)).trans f31128
            have kp131 := kp3.trans (hk131.mono (ms' := gM) (fun x hx => by cases List.mem_singleton.mp hx; decide))
            have jv131 : jV D cA ro H131 a T (x2.2.1 + 1, x2.2.2) := ⟨jv3.1.kept ha hk131 (by decide) (by decide) (by decide), ⟨_, _, _, hf131, mf131_a_30, mf131_a_31, by show _ = x2.2.1 + 1; omega, hfv128, hbv128⟩, adG_ok jv3.2.2 (by omega)⟩
            have jg131 := jg3.kept ha hk131 (by decide)
            have uv131 := jv131.2.2
            unfold vOK at uv131
            have bb131 := byI_bd T (x2.2.1 + 1, x2.2.2).1
            refine lv_aload_n hx hb (eX12_readDate (204, .aload_n 0, 1) (List.mem_of_getElem? (i := 105) rfl)) rfl (lv_at hl 1 rfl) ?_
            refine ff_iconst hx hb (eX12_readDate (205, .iconst 1, 1) (List.mem_of_getElem? (i := 106) rfl)) (by decide) (by decide) (fun v132 e132 => ?_)
            refine ff_ldc2 (n := 5) hx hb hown h2 (clX12_ok 107 5 (List.mem_of_getElem? (i := 8) rfl)) (eX12_readDate (206, .ldc2_w 107, 3) (List.mem_of_getElem? (i := 107) rfl)) (fun v133 e133 => ?_)
            refine tz_rowV (As := [.int v132, .long v133]) (st := []) (b := a) (C := RX12) (Ts := gT) hx hb hml hown h2 (fun _ h => h) (hX12_set l D cA ro sz H0 a v132 v133 1 n fj h ha hn1 (by omega) (by decide)) ⟨rfl, rfl⟩ ⟨by decide, by decide⟩ ⟨by decide, by decide⟩ (tb_8 72 rfl rfl) (tb_1 12 rfl rfl) (tb_8 69 rfl rfl) (tb_8 71 rfl rfl) (tb_0 42 rfl rfl) (show yX12_set.cls ≠ "java/lang/invoke/MethodHandle" ∧ yX12_set.cls ≠ "java/lang/invoke/VarHandle" ∧ (parseMethodDescriptor yX12_set.desc).map (fun d => d.parameters.length) = some 2 by decide +kernel) zs_blind (zs_ob hh131 ha (show RTg[11]? = some (0, 11, 0, fsX12) from rfl) (zCX12 hKn.1)) (fun U hU hW => ⟨rfl, by rw [hU]; exact hh131.l0, zKb s U hW.alike hKn, by rw [hU]; exact jg131⟩) hh131.2.2.1 hl.1 (Nat.le_of_ble_eq_true rfl) (eX12_readDate (209, .invokevirtual 357, 3) (List.mem_of_getElem? (i := 108) rfl)) (fun r134 s134 t134 lo134 g134 f134 l134 => ?_)
            obtain ⟨q134, z134, c134, jg134⟩ := f134
            cases q134
            rw [g134] at c134
            have hh134 : zh_ok D cA RTg ro sz H0 t134.heap lo134 := ⟨z134.1, z134.2.1, l134, z134.2.2.2⟩
            have kp134 := kp131.trans (c134.mono (ms' := gM) (by decide))
            have jg134 : jG D cA ro t134.heap a n (upF fj 1 (5)) h := by rw [← show v133.toInt = 5 by omega]; exact jg134
            have jv134 := jv131.kept ha c134 (by decide)
            have mf134_37 := (c134.1 a 11 37 11 0 fsX12 ha rfl (by decide) (by decide)).trans mf131_a_37
            refine W.eq (g2 := F0 m 212 ls []) rfl ?_
            refine lv_aload_n hx hb (eX12_readDate (212, .aload_n 0, 1) (List.mem_of_getElem? (i := 109) rfl)) rfl (lv_at hl 1 rfl) ?_
            refine ff_iconst hx hb (eX12_readDate (213, .iconst 4, 1) (List.mem_of_getElem? (i := 110) rfl)) (by decide) (by decide) (fun v135 e135 => ?_)
            refine ff_iconst hx hb (eX12_readDate (214, .iconst 2, 1) (List.mem_of_getElem? (i := 111) rfl)) (by decide) (by decide) (fun v136 e136 => ?_)
            refine tz_rowV (As := [.int v135, .int v136]) (st := []) (b := a) (C := RX12) (Ts := gT) hx hb hml hown h2 (fun _ h => h) (hX12_dateNumber l D cA ro sz H0 a v135 v136 4 2 T ((x2.2.1 + 1, x2.2.2)) n (upF fj 1 (5)) h ha hn1 hT (by omega) (by omega) (by decide) (by decide)) ⟨rfl, rfl⟩ ⟨by decide, by decide⟩ ⟨by decide, by decide⟩ (tb_8 76 rfl rfl) (tb_1 12 rfl rfl) (tb_8 73 rfl rfl) (tb_8 75 rfl rfl) (tb_0 43 rfl rfl) (show yX12_dateNumber.cls ≠ "java/lang/invoke/MethodHandle" ∧ yX12_dateNumber.cls ≠ "java/lang/invoke/VarHandle" ∧ (parseMethodDescriptor yX12_dateNumber.desc).map (fun d => d.parameters.length) = some 2 by decide +kernel) zs_blind (zs_ob hh134 ha (show RTg[11]? = some (0, 11, 0, fsX12) from rfl) (zCX12 hKn.1)) (fun U hU hW => ⟨rfl, by rw [hU]; exact hh134.l0, zKb s U hW.alike hKn, by rw [hU]; exact ⟨jv134, jg134⟩⟩) hh134.2.2.1 hl.1 (Nat.le_of_ble_eq_true rfl) (eX12_readDate (215, .invokevirtual 369, 3) (List.mem_of_getElem? (i := 112) rfl)) (fun r137 s137 t137 lo137 g137 f137 l137 => ?_)
            obtain ⟨q137, z137, c137, jv137, jg137⟩ := f137
            cases q137
            rw [g137] at c137
            have hh137 : zh_ok D cA RTg ro sz H0 t137.heap lo137 := ⟨z137.1, z137.2.1, l137, z137.2.2.2⟩
            have kp137 := kp134.trans (c137.mono (ms' := gM) (by decide))
            generalize hx137 : nuG T 4 2 ((upF fj 1 (5)), (x2.2.1 + 1, x2.2.2)) = x137 at jv137 jg137
            have uu137 := jv137.2.2
            unfold vOK at uu137
            have bb137 := byI_bd T x137.2.1
            have mf137_37 := (c137.1 a 11 37 11 0 fsX12 ha rfl (by decide) (by decide)).trans mf134_37
            have nb137 : 0 ≤ x137.1 4 ∧ x137.1 4 ≤ 99 := by rw [← hx137]; exact nuG_bd (by decide)
            refine W.eq (g2 := F0 m 218 ls []) rfl ?_
            refine lv_aload_n hx hb (eX12_readDate (218, .aload_n 0, 1) (List.mem_of_getElem? (i := 113) rfl)) rfl (lv_at hl 1 rfl) ?_
            refine tz_rowV (As := []) (st := []) (b := a) (C := RX12) (Ts := gT) hx hb hml hown h2 (fun _ h => h) (hX12_isGood l D cA ro sz H0 a T (x137.2) ha) ⟨rfl, rfl⟩ ⟨by decide, by decide⟩ ⟨by decide, by decide⟩ (tb_8 17 rfl rfl) (tb_1 12 rfl rfl) (tb_8 14 rfl rfl) (tb_8 16 rfl rfl) (tb_0 31 rfl rfl) (show yX12_isGood.cls ≠ "java/lang/invoke/MethodHandle" ∧ yX12_isGood.cls ≠ "java/lang/invoke/VarHandle" ∧ (parseMethodDescriptor yX12_isGood.desc).map (fun d => d.parameters.length) = some 0 by decide +kernel) zs_blind (zs_ob hh137 ha (show RTg[11]? = some (0, 11, 0, fsX12) from rfl) (zCX12 hKn.1)) (fun U hU hW => ⟨rfl, by rw [hU]; exact hh137.l0, zKb s U hW.alike hKn, by rw [hU]; exact jv137⟩) hh137.2.2.1 hl.1 (Nat.le_of_ble_eq_true rfl) (eX12_readDate (219, .invokevirtual 305, 3) (List.mem_of_getElem? (i := 114) rfl)) (fun r138 s138 t138 lo138 g138 f138 l138 => ?_)
            obtain ⟨z138, v138, q138, e138⟩ := f138
            cases q138
            rw [z138, g138]
            have hh138 : zh_ok D cA RTg ro sz H0 t137.heap lo138 := ⟨hh137.1, hh137.2.1, l138, hh137.2.2.2⟩
            refine W.eq (g2 := F0 m 222 ls [.int v138]) rfl ?_
            refine ff_if_eq hx hb (eX12_readDate (222, .ifCond .eq 36, 3) (List.mem_of_getElem? (i := 115) rfl)) (tgt := 258) rfl (fun c139 => ?_) (fun c139 => ?_)
            · skip
              refine ff_iconst hx hb (eX12_readDate (258, .iconst 0, 1) (List.mem_of_getElem? (i := 130) rfl)) (by decide) (by decide) (fun v140 e140 => ?_)
              refine lv_istore hx hb (eX12_readDate (259, .istore 6, 2) (List.mem_of_getElem? (i := 131) rfl)) hl (by decide) rfl (fun ls141 hl141 => ?_)
              refine lv_iload hx hb (eX12_readDate (261, .iload 6, 2) (List.mem_of_getElem? (i := 132) rfl)) (lv_at hl141 0 rfl) ?_
              refine ff_if_ne hx hb (eX12_readDate (263, .ifCond .ne 7, 3) (List.mem_of_getElem? (i := 133) rfl)) (tgt := 270) rfl (fun c142 => (by exfalso; omega)) (fun c142 => ?_)
              refine lv_iload_n hx hb (eX12_readDate (266, .iload_n 1, 1) (List.mem_of_getElem? (i := 134) rfl)) rfl (lv_at hl141 3 rfl) ?_
              refine ff_if_eq hx hb (eX12_readDate (267, .ifCond .eq 29, 3) (List.mem_of_getElem? (i := 135) rfl)) (tgt := 296) rfl (fun c143 => ?_) (fun c143 => ?_)
              · skip
                have d144 : ¬ ((x137.2.2.1 < 0 ∧ ((x2.1 = 1 ∧ byI T x137.2.1 = 45) ∨ (¬ x2.1 = 1 ∧ isD (byI T x137.2.1)))) ∨ wh = 1) := by omega
                have hhd : hdG T (g, sg) = x2.1 := by simp only [hdG, hyr, hx2]
                have hfin : drG T wh (g, sg) = (x137.1, x137.2) := by first | (simp only [drG, hdG, beG, wkG, wk1G, wk2G, daG, da1G, da2G, plG, pl1G, pl2G, upS, ad1, hyr, hsd, hx2, hx137, if_pos d6, if_neg d8, if_pos d127, if_neg d144, up_eq, up_ne (show (4 : Nat) ≠ 1 by decide)]; done) | (simp only [drG, hdG, beG, wkG, wk1G, wk2G, daG, da1G, da2G, plG, pl1G, pl2G, upS, ad1, hyr, hsd, hx2, hx137, if_pos d6, if_neg d8, if_pos d127, if_neg d144, up_eq, up_ne (show (4 : Nat) ≠ 1 by decide)] <;> rfl) | rfl
                exact W.vret hx hb hr (fun t ht hW => ⟨rfl, by rw [ht]; exact hh138.l0, by rw [ht]; exact kp137, by rw [ht, hfin]; exact jv137, by rw [ht, hfin]; exact jg137, by rw [ht, hhd]; exact ⟨_, mf137_37, by omega⟩⟩) hh138.2.2.1 (eX12_readDate (296, .return_, 1) (List.mem_of_getElem? (i := 150) rfl))
              · skip
                have d145 : (x137.2.2.1 < 0 ∧ ((x2.1 = 1 ∧ byI T x137.2.1 = 45) ∨ (¬ x2.1 = 1 ∧ isD (byI T x137.2.1)))) ∨ wh = 1 := by omega
                refine lv_aload_n hx hb (eX12_readDate (270, .aload_n 0, 1) (List.mem_of_getElem? (i := 136) rfl)) rfl (lv_at hl141 2 rfl) ?_
                refine tz_get (r := 11) (k := 37) (t := (0, 0, 1)) hx hb hh138 ha rfl rfl (hcl11 365 37 (0, 0, 1) (by decide) rfl).1 mf137_37 (eX12_readDate (271, .getfield 365, 3) (List.mem_of_getElem? (i := 137) rfl)) ?_
                refine ff_if_eq hx hb (eX12_readDate (274, .ifCond .eq 9, 3) (List.mem_of_getElem? (i := 138) rfl)) (tgt := 283) rfl (fun c146 => ?_) (fun c146 => (by exfalso; omega))
                refine lv_aload_n hx hb (eX12_readDate (283, .aload_n 0, 1) (List.mem_of_getElem? (i := 142) rfl)) rfl (lv_at hl141 2 rfl) ?_
                refine ff_iconst hx hb (eX12_readDate (284, .iconst 1, 1) (List.mem_of_getElem? (i := 143) rfl)) (by decide) (by decide) (fun v147 e147 => ?_)
                refine ff_lconst hx hb (eX12_readDate (285, .lconst 1, 1) (List.mem_of_getElem? (i := 144) rfl)) rfl (fun v148 e148 => ?_)
                refine tz_rowV (As := [.int v147, .long v148]) (st := []) (b := a) (C := RX12) (Ts := gT) hx hb hml hown h2 (fun _ h => h) (hX12_set l D cA ro sz H0 a v147 v148 1 n x137.1 h ha hn1 (by omega) (by decide)) ⟨rfl, rfl⟩ ⟨by decide, by decide⟩ ⟨by decide, by decide⟩ (tb_8 72 rfl rfl) (tb_1 12 rfl rfl) (tb_8 69 rfl rfl) (tb_8 71 rfl rfl) (tb_0 42 rfl rfl) (show yX12_set.cls ≠ "java/lang/invoke/MethodHandle" ∧ yX12_set.cls ≠ "java/lang/invoke/VarHandle" ∧ (parseMethodDescriptor yX12_set.desc).map (fun d => d.parameters.length) = some 2 by decide +kernel) zs_blind (zs_ob hh138 ha (show RTg[11]? = some (0, 11, 0, fsX12) from rfl) (zCX12 hKn.1)) (fun U hU hW => ⟨rfl, by rw [hU]; exact hh138.l0, zKb s U hW.alike hKn, by rw [hU]; exact jg137⟩) hh138.2.2.1 hl141.1 (Nat.le_of_ble_eq_true rfl) (eX12_readDate (286, .invokevirtual 357, 3) (List.mem_of_getElem? (i := 145) rfl)) (fun r149 s149 t149 lo149 g149 f149 l149 => ?_)
                obtain ⟨q149, z149, c149, jg149⟩ := f149
                cases q149
                rw [g149] at c149
                have hh149 : zh_ok D cA RTg ro sz H0 t149.heap lo149 := ⟨z149.1, z149.2.1, l149, z149.2.2.2⟩
                have kp149 := kp137.trans (c149.mono (ms' := gM) (by decide))
                have jg149 : jG D cA ro t149.heap a n (upF x137.1 1 (1)) h := by rw [← show v148.toInt = 1 by omega]; exact jg149
                have jv149 := jv137.kept ha c149 (by decide)
                have mf149_37 := (c149.1 a 11 37 11 0 fsX12 ha rfl (by decide) (by decide)).trans mf137_37
                refine W.eq (g2 := F0 m 289 ls141 []) rfl ?_
                refine lv_aload_n hx hb (eX12_readDate (289, .aload_n 0, 1) (List.mem_of_getElem? (i := 146) rfl)) rfl (lv_at hl141 2 rfl) ?_
                refine ff_bipush hx hb (eX12_readDate (290, .bipush 6, 2) (List.mem_of_getElem? (i := 147) rfl)) (by decide) (by decide) (fun v150 e150 => ?_)
                refine ff_iconst hx hb (eX12_readDate (292, .iconst 1, 1) (List.mem_of_getElem? (i := 148) rfl)) (by decide) (by decide) (fun v151 e151 => ?_)
                refine tz_rowV (As := [.int v150, .int v151]) (st := []) (b := a) (C := RX12) (Ts := gT) hx hb hml hown h2 (fun _ h => h) (hX12_dateNumber l D cA ro sz H0 a v150 v151 6 1 T (x137.2) n (upF x137.1 1 (1)) h ha hn1 hT (by omega) (by omega) (by decide) (by decide)) ⟨rfl, rfl⟩ ⟨by decide, by decide⟩ ⟨by decide, by decide⟩ (tb_8 76 rfl rfl) (tb_1 12 rfl rfl) (tb_8 73 rfl rfl) (tb_8 75 rfl rfl) (tb_0 43 rfl rfl) (show yX12_dateNumber.cls ≠ "java/lang/invoke/MethodHandle" ∧ yX12_dateNumber.cls ≠ "java/lang/invoke/VarHandle" ∧ (parseMethodDescriptor yX12_dateNumber.desc).map (fun d => d.parameters.length) = some 2 by decide +kernel) zs_blind (zs_ob hh149 ha (show RTg[11]? = some (0, 11, 0, fsX12) from rfl) (zCX12 hKn.1)) (fun U hU hW => ⟨rfl, by rw [hU]; exact hh149.l0, zKb s U hW.alike hKn, by rw [hU]; exact ⟨jv149, jg149⟩⟩) hh149.2.2.1 hl141.1 (Nat.le_of_ble_eq_true rfl) (eX12_readDate (293, .invokevirtual 369, 3) (List.mem_of_getElem? (i := 149) rfl)) (fun r152 s152 t152 lo152 g152 f152 l152 => ?_)
                obtain ⟨q152, z152, c152, jv152, jg152⟩ := f152
                cases q152
                rw [g152] at c152
                have hh152 : zh_ok D cA RTg ro sz H0 t152.heap lo152 := ⟨z152.1, z152.2.1, l152, z152.2.2.2⟩
                have kp152 := kp149.trans (c152.mono (ms' := gM) (by decide))
                generalize hx152 : nuG T 6 1 ((upF x137.1 1 (1)), x137.2) = x152 at jv152 jg152
                have uu152 := jv152.2.2
                unfold vOK at uu152
                have bb152 := byI_bd T x152.2.1
                have mf152_37 := (c152.1 a 11 37 11 0 fsX12 ha rfl (by decide) (by decide)).trans mf149_37
                have nb152 : 0 ≤ x152.1 6 ∧ x152.1 6 ≤ 9 := by rw [← hx152]; exact nuG_bd (by decide)
                refine W.eq (g2 := F0 m 296 ls141 []) rfl ?_
                have hhd : hdG T (g, sg) = x2.1 := by simp only [hdG, hyr, hx2]
                have hfin : drG T wh (g, sg) = (x152.1, x152.2) := by first | (simp only [drG, hdG, beG, wkG, wk1G, wk2G, daG, da1G, da2G, plG, pl1G, pl2G, upS, ad1, hyr, hsd, hx2, hx137, hx152, if_pos d6, if_neg d8, if_pos d127, if_pos d145, up_eq, up_ne (show (4 : Nat) ≠ 1 by decide)]; done) | (simp only [drG, hdG, beG, wkG, wk1G, wk2G, daG, da1G, da2G, plG, pl1G, pl2G, upS, ad1, hyr, hsd, hx2, hx137, hx152, if_pos d6, if_neg d8, if_pos d127, if_pos d145, up_eq, up_ne (show (4 : Nat) ≠ 1 by decide)] <;> rfl) | rfl
                exact W.vret hx hb hr (fun t ht hW => ⟨rfl, by rw [ht]; exact hh152.l0, by rw [ht]; exact kp152, by rw [ht, hfin]; exact jv152, by rw [ht, hfin]; exact jg152, by rw [ht, hhd]; exact ⟨_, mf152_37, by omega⟩⟩) hh152.2.2.1 (eX12_readDate (296, .return_, 1) (List.mem_of_getElem? (i := 150) rfl))
            · skip
              refine lv_aload_n hx hb (eX12_readDate (225, .aload_n 0, 1) (List.mem_of_getElem? (i := 116) rfl)) rfl (lv_at hl 1 rfl) ?_
              refine tz_get (r := 11) (k := 37) (t := (0, 0, 1)) hx hb hh138 ha rfl rfl (hcl11 365 37 (0, 0, 1) (by decide) rfl).1 mf137_37 (eX12_readDate (226, .getfield 365, 3) (List.mem_of_getElem? (i := 117) rfl)) ?_
              refine ff_if_eq hx hb (eX12_readDate (229, .ifCond .eq 15, 3) (List.mem_of_getElem? (i := 118) rfl)) (tgt := 244) rfl (fun c153 => ?_) (fun c153 => (by exfalso; omega))
              refine lv_aload_n hx hb (eX12_readDate (244, .aload_n 0, 1) (List.mem_of_getElem? (i := 124) rfl)) rfl (lv_at hl 1 rfl) ?_
              refine tz_rowV (As := []) (st := []) (b := a) (C := RX12) (Ts := gT) hx hb hml hown h2 (fun _ h => h) (hX12_sign l D cA ro sz H0 a T (x137.2) ha) ⟨rfl, rfl⟩ ⟨by decide, by decide⟩ ⟨by decide, by decide⟩ (tb_8 21 rfl rfl) (tb_1 12 rfl rfl) (tb_8 18 rfl rfl) (tb_8 20 rfl rfl) (tb_0 32 rfl rfl) (show yX12_sign.cls ≠ "java/lang/invoke/MethodHandle" ∧ yX12_sign.cls ≠ "java/lang/invoke/VarHandle" ∧ (parseMethodDescriptor yX12_sign.desc).map (fun d => d.parameters.length) = some 0 by decide +kernel) zs_blind (zs_ob hh138 ha (show RTg[11]? = some (0, 11, 0, fsX12) from rfl) (zCX12 hKn.1)) (fun U hU hW => ⟨rfl, by rw [hU]; exact hh138.l0, zKb s U hW.alike hKn, by rw [hU]; exact jv137⟩) hh138.2.2.1 hl.1 (Nat.le_of_ble_eq_true rfl) (eX12_readDate (245, .invokevirtual 309, 3) (List.mem_of_getElem? (i := 125) rfl)) (fun r154 s154 t154 lo154 g154 f154 l154 => ?_)
              obtain ⟨z154, v154, q154, e154⟩ := f154
              cases q154
              rw [z154, g154]
              have hh154 : zh_ok D cA RTg ro sz H0 t137.heap lo154 := ⟨hh138.1, hh138.2.1, l154, hh138.2.2.2⟩
              refine W.eq (g2 := F0 m 248 ls [.int v154]) rfl ?_
              refine zu_S (vs := [.int v154]) (rest := []) hx hb hml hown hts0 zu_BT (hX12_isDigit l v154) ⟨rfl, rfl⟩ ⟨by decide, by decide⟩ ⟨by decide, by decide⟩ (tb_8 27 rfl rfl) (tb_1 12 rfl rfl) (tb_8 25 rfl rfl) (tb_8 26 rfl rfl) (show yX12_isDigit.cls ≠ "java/lang/invoke/MethodHandle" ∧ yX12_isDigit.cls ≠ "java/lang/invoke/VarHandle" ∧ (parseMethodDescriptor yX12_isDigit.desc).map (fun d => d.parameters.length) = some 1 by decide +kernel) rfl (fun _ _ _ => trivial) hl.1 (Nat.le_of_ble_eq_true rfl) (eX12_readDate (248, .invokestatic 319, 3) (List.mem_of_getElem? (i := 126) rfl)) (fun w155 f155 => ?_)
              obtain ⟨v155, rfl, e155⟩ := f155
              refine ff_if_eq hx hb (eX12_readDate (251, .ifCond .eq 7, 3) (List.mem_of_getElem? (i := 127) rfl)) (tgt := 258) rfl (fun c156 => ?_) (fun c156 => ?_)
              · skip
                refine ff_iconst hx hb (eX12_readDate (258, .iconst 0, 1) (List.mem_of_getElem? (i := 130) rfl)) (by decide) (by decide) (fun v157 e157 => ?_)
                refine lv_istore hx hb (eX12_readDate (259, .istore 6, 2) (List.mem_of_getElem? (i := 131) rfl)) hl (by decide) rfl (fun ls158 hl158 => ?_)
                refine lv_iload hx hb (eX12_readDate (261, .iload 6, 2) (List.mem_of_getElem? (i := 132) rfl)) (lv_at hl158 0 rfl) ?_
                refine ff_if_ne hx hb (eX12_readDate (263, .ifCond .ne 7, 3) (List.mem_of_getElem? (i := 133) rfl)) (tgt := 270) rfl (fun c159 => (by exfalso; omega)) (fun c159 => ?_)
                refine lv_iload_n hx hb (eX12_readDate (266, .iload_n 1, 1) (List.mem_of_getElem? (i := 134) rfl)) rfl (lv_at hl158 3 rfl) ?_
                refine ff_if_eq hx hb (eX12_readDate (267, .ifCond .eq 29, 3) (List.mem_of_getElem? (i := 135) rfl)) (tgt := 296) rfl (fun c160 => ?_) (fun c160 => ?_)
                · skip
                  have d161 : ¬ ((x137.2.2.1 < 0 ∧ ((x2.1 = 1 ∧ byI T x137.2.1 = 45) ∨ (¬ x2.1 = 1 ∧ isD (byI T x137.2.1)))) ∨ wh = 1) := by omega
                  have hhd : hdG T (g, sg) = x2.1 := by simp only [hdG, hyr, hx2]
                  have hfin : drG T wh (g, sg) = (x137.1, x137.2) := by first | (simp only [drG, hdG, beG, wkG, wk1G, wk2G, daG, da1G, da2G, plG, pl1G, pl2G, upS, ad1, hyr, hsd, hx2, hx137, if_pos d6, if_neg d8, if_pos d127, if_neg d161, up_eq, up_ne (show (4 : Nat) ≠ 1 by decide)]; done) | (simp only [drG, hdG, beG, wkG, wk1G, wk2G, daG, da1G, da2G, plG, pl1G, pl2G, upS, ad1, hyr, hsd, hx2, hx137, if_pos d6, if_neg d8, if_pos d127, if_neg d161, up_eq, up_ne (show (4 : Nat) ≠ 1 by decide)] <;> rfl) | rfl
                  exact W.vret hx hb hr (fun t ht hW => ⟨rfl, by rw [ht]; exact hh154.l0, by rw [ht]; exact kp137, by rw [ht, hfin]; exact jv137, by rw [ht, hfin]; exact jg137, by rw [ht, hhd]; exact ⟨_, mf137_37, by omega⟩⟩) hh154.2.2.1 (eX12_readDate (296, .return_, 1) (List.mem_of_getElem? (i := 150) rfl))
                · skip
                  have d162 : (x137.2.2.1 < 0 ∧ ((x2.1 = 1 ∧ byI T x137.2.1 = 45) ∨ (¬ x2.1 = 1 ∧ isD (byI T x137.2.1)))) ∨ wh = 1 := by omega
                  refine lv_aload_n hx hb (eX12_readDate (270, .aload_n 0, 1) (List.mem_of_getElem? (i := 136) rfl)) rfl (lv_at hl158 2 rfl) ?_
                  refine tz_get (r := 11) (k := 37) (t := (0, 0, 1)) hx hb hh154 ha rfl rfl (hcl11 365 37 (0, 0, 1) (by decide) rfl).1 mf137_37 (eX12_readDate (271, .getfield 365, 3) (List.mem_of_getElem? (i := 137) rfl)) ?_
                  refine ff_if_eq hx hb (eX12_readDate (274, .ifCond .eq 9, 3) (List.mem_of_getElem? (i := 138) rfl)) (tgt := 283) rfl (fun c163 => ?_) (fun c163 => (by exfalso; omega))
                  refine lv_aload_n hx hb (eX12_readDate (283, .aload_n 0, 1) (List.mem_of_getElem? (i := 142) rfl)) rfl (lv_at hl158 2 rfl) ?_
                  refine ff_iconst hx hb (eX12_readDate (284, .iconst 1, 1) (List.mem_of_getElem? (i := 143) rfl)) (by decide) (by decide) (fun v164 e164 => ?_)
                  refine ff_lconst hx hb (eX12_readDate (285, .lconst 1, 1) (List.mem_of_getElem? (i := 144) rfl)) rfl (fun v165 e165 => ?_)
                  refine tz_rowV (As := [.int v164, .long v165]) (st := []) (b := a) (C := RX12) (Ts := gT) hx hb hml hown h2 (fun _ h => h) (hX12_set l D cA ro sz H0 a v164 v165 1 n x137.1 h ha hn1 (by omega) (by decide)) ⟨rfl, rfl⟩ ⟨by decide, by decide⟩ ⟨by decide, by decide⟩ (tb_8 72 rfl rfl) (tb_1 12 rfl rfl) (tb_8 69 rfl rfl) (tb_8 71 rfl rfl) (tb_0 42 rfl rfl) (show yX12_set.cls ≠ "java/lang/invoke/MethodHandle" ∧ yX12_set.cls ≠ "java/lang/invoke/VarHandle" ∧ (parseMethodDescriptor yX12_set.desc).map (fun d => d.parameters.length) = some 2 by decide +kernel) zs_blind (zs_ob hh154 ha (show RTg[11]? = some (0, 11, 0, fsX12) from rfl) (zCX12 hKn.1)) (fun U hU hW => ⟨rfl, by rw [hU]; exact hh154.l0, zKb s U hW.alike hKn, by rw [hU]; exact jg137⟩) hh154.2.2.1 hl158.1 (Nat.le_of_ble_eq_true rfl) (eX12_readDate (286, .invokevirtual 357, 3) (List.mem_of_getElem? (i := 145) rfl)) (fun r166 s166 t166 lo166 g166 f166 l166 => ?_)
                  obtain ⟨q166, z166, c166, jg166⟩ := f166
                  cases q166
                  rw [g166] at c166
                  have hh166 : zh_ok D cA RTg ro sz H0 t166.heap lo166 := ⟨z166.1, z166.2.1, l166, z166.2.2.2⟩
                  have kp166 := kp137.trans (c166.mono (ms' := gM) (by decide))
                  have jg166 : jG D cA ro t166.heap a n (upF x137.1 1 (1)) h := by rw [← show v165.toInt = 1 by omega]; exact jg166
                  have jv166 := jv137.kept ha c166 (by decide)
                  have mf166_37 := (c166.1 a 11 37 11 0 fsX12 ha rfl (by decide) (by decide)).trans mf137_37
                  refine W.eq (g2 := F0 m 289 ls158 []) rfl ?_
                  refine lv_aload_n hx hb (eX12_readDate (289, .aload_n 0, 1) (List.mem_of_getElem? (i := 146) rfl)) rfl (lv_at hl158 2 rfl) ?_
                  refine ff_bipush hx hb (eX12_readDate (290, .bipush 6, 2) (List.mem_of_getElem? (i := 147) rfl)) (by decide) (by decide) (fun v167 e167 => ?_)
                  refine ff_iconst hx hb (eX12_readDate (292, .iconst 1, 1) (List.mem_of_getElem? (i := 148) rfl)) (by decide) (by decide) (fun v168 e168 => ?_)
                  refine tz_rowV (As := [.int v167, .int v168]) (st := []) (b := a) (C := RX12) (Ts := gT) hx hb hml hown h2 (fun _ h => h) (hX12_dateNumber l D cA ro sz H0 a v167 v168 6 1 T (x137.2) n (upF x137.1 1 (1)) h ha hn1 hT (by omega) (by omega) (by decide) (by decide)) ⟨rfl, rfl⟩ ⟨by decide, by decide⟩ ⟨by decide, by decide⟩ (tb_8 76 rfl rfl) (tb_1 12 rfl rfl) (tb_8 73 rfl rfl) (tb_8 75 rfl rfl) (tb_0 43 rfl rfl) (show yX12_dateNumber.cls ≠ "java/lang/invoke/MethodHandle" ∧ yX12_dateNumber.cls ≠ "java/lang/invoke/VarHandle" ∧ (parseMethodDescriptor yX12_dateNumber.desc).map (fun d => d.parameters.length) = some 2 by decide +kernel) zs_blind (zs_ob hh166 ha (show RTg[11]? = some (0, 11, 0, fsX12) from rfl) (zCX12 hKn.1)) (fun U hU hW => ⟨rfl, by rw [hU]; exact hh166.l0, zKb s U hW.alike hKn, by rw [hU]; exact ⟨jv166, jg166⟩⟩) hh166.2.2.1 hl158.1 (Nat.le_of_ble_eq_true rfl) (eX12_readDate (293, .invokevirtual 369, 3) (List.mem_of_getElem? (i := 149) rfl)) (fun r169 s169 t169 lo169 g169 f169 l169 => ?_)
                  obtain ⟨q169, z169, c169, jv169, jg169⟩ := f169
                  cases q169
                  rw [g169] at c169
                  have hh169 : zh_ok D cA RTg ro sz H0 t169.heap lo169 := ⟨z169.1, z169.2.1, l169, z169.2.2.2⟩
                  have kp169 := kp166.trans (c169.mono (ms' := gM) (by decide))
                  generalize hx169 : nuG T 6 1 ((upF x137.1 1 (1)), x137.2) = x169 at jv169 jg169
                  have uu169 := jv169.2.2
                  unfold vOK at uu169
                  have bb169 := byI_bd T x169.2.1
                  have mf169_37 := (c169.1 a 11 37 11 0 fsX12 ha rfl (by decide) (by decide)).trans mf166_37
                  have nb169 : 0 ≤ x169.1 6 ∧ x169.1 6 ≤ 9 := by rw [← hx169]; exact nuG_bd (by decide)
                  refine W.eq (g2 := F0 m 296 ls158 []) rfl ?_
                  have hhd : hdG T (g, sg) = x2.1 := by simp only [hdG, hyr, hx2]
                  have hfin : drG T wh (g, sg) = (x169.1, x169.2) := by first | (simp only [drG, hdG, beG, wkG, wk1G, wk2G, daG, da1G, da2G, plG, pl1G, pl2G, upS, ad1, hyr, hsd, hx2, hx137, hx169, if_pos d6, if_neg d8, if_pos d127, if_pos d162, up_eq, up_ne (show (4 : Nat) ≠ 1 by decide)]; done) | (simp only [drG, hdG, beG, wkG, wk1G, wk2G, daG, da1G, da2G, plG, pl1G, pl2G, upS, ad1, hyr, hsd, hx2, hx137, hx169, if_pos d6, if_neg d8, if_pos d127, if_pos d162, up_eq, up_ne (show (4 : Nat) ≠ 1 by decide)] <;> rfl) | rfl
                  exact W.vret hx hb hr (fun t ht hW => ⟨rfl, by rw [ht]; exact hh169.l0, by rw [ht]; exact kp169, by rw [ht, hfin]; exact jv169, by rw [ht, hfin]; exact jg169, by rw [ht, hhd]; exact ⟨_, mf169_37, by omega⟩⟩) hh169.2.2.1 (eX12_readDate (296, .return_, 1) (List.mem_of_getElem? (i := 150) rfl))
              · skip
                refine ff_iconst hx hb (eX12_readDate (254, .iconst 1, 1) (List.mem_of_getElem? (i := 128) rfl)) (by decide) (by decide) (fun v170 e170 => ?_)
                refine lv_goto hx hb (eX12_readDate (255, .goto 4, 3) (List.mem_of_getElem? (i := 129) rfl)) (tgt := 259) rfl ?_
                refine lv_istore hx hb (eX12_readDate (259, .istore 6, 2) (List.mem_of_getElem? (i := 131) rfl)) hl (by decide) rfl (fun ls171 hl171 => ?_)
                refine lv_iload hx hb (eX12_readDate (261, .iload 6, 2) (List.mem_of_getElem? (i := 132) rfl)) (lv_at hl171 0 rfl) ?_
                refine ff_if_ne hx hb (eX12_readDate (263, .ifCond .ne 7, 3) (List.mem_of_getElem? (i := 133) rfl)) (tgt := 270) rfl (fun c172 => ?_) (fun c172 => (by exfalso; omega))
                have d173 : (x137.2.2.1 < 0 ∧ ((x2.1 = 1 ∧ byI T x137.2.1 = 45) ∨ (¬ x2.1 = 1 ∧ isD (byI T x137.2.1)))) ∨ wh = 1 := by omega
                refine lv_aload_n hx hb (eX12_readDate (270, .aload_n 0, 1) (List.mem_of_getElem? (i := 136) rfl)) rfl (lv_at hl171 2 rfl) ?_
                refine tz_get (r := 11) (k := 37) (t := (0, 0, 1)) hx hb hh154 ha rfl rfl (hcl11 365 37 (0, 0, 1) (by decide) rfl).1 mf137_37 (eX12_readDate (271, .getfield 365, 3) (List.mem_of_getElem? (i := 137) rfl)) ?_
                refine ff_if_eq hx hb (eX12_readDate (274, .ifCond .eq 9, 3) (List.mem_of_getElem? (i := 138) rfl)) (tgt := 283) rfl (fun c174 => ?_) (fun c174 => (by exfalso; omega))
                refine lv_aload_n hx hb (eX12_readDate (283, .aload_n 0, 1) (List.mem_of_getElem? (i := 142) rfl)) rfl (lv_at hl171 2 rfl) ?_
                refine ff_iconst hx hb (eX12_readDate (284, .iconst 1, 1) (List.mem_of_getElem? (i := 143) rfl)) (by decide) (by decide) (fun v175 e175 => ?_)
                refine ff_lconst hx hb (eX12_readDate (285, .lconst 1, 1) (List.mem_of_getElem? (i := 144) rfl)) rfl (fun v176 e176 => ?_)
                refine tz_rowV (As := [.int v175, .long v176]) (st := []) (b := a) (C := RX12) (Ts := gT) hx hb hml hown h2 (fun _ h => h) (hX12_set l D cA ro sz H0 a v175 v176 1 n x137.1 h ha hn1 (by omega) (by decide)) ⟨rfl, rfl⟩ ⟨by decide, by decide⟩ ⟨by decide, by decide⟩ (tb_8 72 rfl rfl) (tb_1 12 rfl rfl) (tb_8 69 rfl rfl) (tb_8 71 rfl rfl) (tb_0 42 rfl rfl) (show yX12_set.cls ≠ "java/lang/invoke/MethodHandle" ∧ yX12_set.cls ≠ "java/lang/invoke/VarHandle" ∧ (parseMethodDescriptor yX12_set.desc).map (fun d => d.parameters.length) = some 2 by decide +kernel) zs_blind (zs_ob hh154 ha (show RTg[11]? = some (0, 11, 0, fsX12) from rfl) (zCX12 hKn.1)) (fun U hU hW => ⟨rfl, by rw [hU]; exact hh154.l0, zKb s U hW.alike hKn, by rw [hU]; exact jg137⟩) hh154.2.2.1 hl171.1 (Nat.le_of_ble_eq_true rfl) (eX12_readDate (286, .invokevirtual 357, 3) (List.mem_of_getElem? (i := 145) rfl)) (fun r177 s177 t177 lo177 g177 f177 l177 => ?_)
                obtain ⟨q177, z177, c177, jg177⟩ := f177
                cases q177
                rw [g177] at c177
                have hh177 : zh_ok D cA RTg ro sz H0 t177.heap lo177 := ⟨z177.1, z177.2.1, l177, z177.2.2.2⟩
                have kp177 := kp137.trans (c177.mono (ms' := gM) (by decide))
                have jg177 : jG D cA ro t177.heap a n (upF x137.1 1 (1)) h := by rw [← show v176.toInt = 1 by omega]; exact jg177
                have jv177 := jv137.kept ha c177 (by decide)
                have mf177_37 := (c177.1 a 11 37 11 0 fsX12 ha rfl (by decide) (by decide)).trans mf137_37
                refine W.eq (g2 := F0 m 289 ls171 []) rfl ?_
                refine lv_aload_n hx hb (eX12_readDate (289, .aload_n 0, 1) (List.mem_of_getElem? (i := 146) rfl)) rfl (lv_at hl171 2 rfl) ?_
                refine ff_bipush hx hb (eX12_readDate (290, .bipush 6, 2) (List.mem_of_getElem? (i := 147) rfl)) (by decide) (by decide) (fun v178 e178 => ?_)
                refine ff_iconst hx hb (eX12_readDate (292, .iconst 1, 1) (List.mem_of_getElem? (i := 148) rfl)) (by decide) (by decide) (fun v179 e179 => ?_)
                refine tz_rowV (As := [.int v178, .int v179]) (st := []) (b := a) (C := RX12) (Ts := gT) hx hb hml hown h2 (fun _ h => h) (hX12_dateNumber l D cA ro sz H0 a v178 v179 6 1 T (x137.2) n (upF x137.1 1 (1)) h ha hn1 hT (by omega) (by omega) (by decide) (by decide)) ⟨rfl, rfl⟩ ⟨by decide, by decide⟩ ⟨by decide, by decide⟩ (tb_8 76 rfl rfl) (tb_1 12 rfl rfl) (tb_8 73 rfl rfl) (tb_8 75 rfl rfl) (tb_0 43 rfl rfl) (show yX12_dateNumber.cls ≠ "java/lang/invoke/MethodHandle" ∧ yX12_dateNumber.cls ≠ "java/lang/invoke/VarHandle" ∧ (parseMethodDescriptor yX12_dateNumber.desc).map (fun d => d.parameters.length) = some 2 by decide +kernel) zs_blind (zs_ob hh177 ha (show RTg[11]? = some (0, 11, 0, fsX12) from rfl) (zCX12 hKn.1)) (fun U hU hW => ⟨rfl, by rw [hU]; exact hh177.l0, zKb s U hW.alike hKn, by rw [hU]; exact ⟨jv177, jg177⟩⟩) hh177.2.2.1 hl171.1 (Nat.le_of_ble_eq_true rfl) (eX12_readDate (293, .invokevirtual 369, 3) (List.mem_of_getElem? (i := 149) rfl)) (fun r180 s180 t180 lo180 g180 f180 l180 => ?_)
                obtain ⟨q180, z180, c180, jv180, jg180⟩ := f180
                cases q180
                rw [g180] at c180
                have hh180 : zh_ok D cA RTg ro sz H0 t180.heap lo180 := ⟨z180.1, z180.2.1, l180, z180.2.2.2⟩
                have kp180 := kp177.trans (c180.mono (ms' := gM) (by decide))
                generalize hx180 : nuG T 6 1 ((upF x137.1 1 (1)), x137.2) = x180 at jv180 jg180
                have uu180 := jv180.2.2
                unfold vOK at uu180
                have bb180 := byI_bd T x180.2.1
                have mf180_37 := (c180.1 a 11 37 11 0 fsX12 ha rfl (by decide) (by decide)).trans mf177_37
                have nb180 : 0 ≤ x180.1 6 ∧ x180.1 6 ≤ 9 := by rw [← hx180]; exact nuG_bd (by decide)
                refine W.eq (g2 := F0 m 296 ls171 []) rfl ?_
                have hhd : hdG T (g, sg) = x2.1 := by simp only [hdG, hyr, hx2]
                have hfin : drG T wh (g, sg) = (x180.1, x180.2) := by first | (simp only [drG, hdG, beG, wkG, wk1G, wk2G, daG, da1G, da2G, plG, pl1G, pl2G, upS, ad1, hyr, hsd, hx2, hx137, hx180, if_pos d6, if_neg d8, if_pos d127, if_pos d173, up_eq, up_ne (show (4 : Nat) ≠ 1 by decide)]; done) | (simp only [drG, hdG, beG, wkG, wk1G, wk2G, daG, da1G, da2G, plG, pl1G, pl2G, upS, ad1, hyr, hsd, hx2, hx137, hx180, if_pos d6, if_neg d8, if_pos d127, if_pos d173, up_eq, up_ne (show (4 : Nat) ≠ 1 by decide)] <;> rfl) | rfl
                exact W.vret hx hb hr (fun t ht hW => ⟨rfl, by rw [ht]; exact hh180.l0, by rw [ht]; exact kp180, by rw [ht, hfin]; exact jv180, by rw [ht, hfin]; exact jg180, by rw [ht, hhd]; exact ⟨_, mf180_37, by omega⟩⟩) hh180.2.2.1 (eX12_readDate (296, .return_, 1) (List.mem_of_getElem? (i := 150) rfl))
      · have d181 : x2.1 = 1 := by omega
        refine lv_aload_n hx hb (eX12_readDate (169, .aload_n 0, 1) (List.mem_of_getElem? (i := 88) rfl)) rfl (lv_at hl 1 rfl) ?_
        refine tz_rowV (As := []) (st := []) (b := a) (C := RX12) (Ts := gT) hx hb hml hown h2 (fun _ h => h) (hX12_sign l D cA ro sz H0 a T (x2.2) ha) ⟨rfl, rfl⟩ ⟨by decide, by decide⟩ ⟨by decide, by decide⟩ (tb_8 21 rfl rfl) (tb_1 12 rfl rfl) (tb_8 18 rfl rfl) (tb_8 20 rfl rfl) (tb_0 32 rfl rfl) (show yX12_sign.cls ≠ "java/lang/invoke/MethodHandle" ∧ yX12_sign.cls ≠ "java/lang/invoke/VarHandle" ∧ (parseMethodDescriptor yX12_sign.desc).map (fun d => d.parameters.length) = some 0 by decide +kernel) zs_blind (zs_ob hh4 ha (show RTg[11]? = some (0, 11, 0, fsX12) from rfl) (zCX12 hKn.1)) (fun U hU hW => ⟨rfl, by rw [hU]; exact hh4.l0, zKb s U hW.alike hKn, by rw [hU]; exact jv3⟩) hh4.2.2.1 hl.1 (Nat.le_of_ble_eq_true rfl) (eX12_readDate (170, .invokevirtual 309, 3) (List.mem_of_getElem? (i := 89) rfl)) (fun r182 s182 t182 lo182 g182 f182 l182 => ?_)
        obtain ⟨z182, v182, q182, e182⟩ := f182
        cases q182
        rw [z182, g182]
        have hh182 : zh_ok D cA RTg ro sz H0 H3 lo182 := ⟨hh4.1, hh4.2.1, l182, hh4.2.2.2⟩
        refine W.eq (g2 := F0 m 173 ls [.int v182]) rfl ?_
        refine ff_bipush hx hb (eX12_readDate (173, .bipush 87, 2) (List.mem_of_getElem? (i := 90) rfl)) (by decide) (by decide) (fun v183 e183 => ?_)
        refine ff_icmp_ne hx hb (eX12_readDate (175, .if_icmp .ne 122, 3) (List.mem_of_getElem? (i := 91) rfl)) (tgt := 297) rfl (fun c184 => ?_) (fun c184 => ?_)
        · skip
          have d185 : ¬ ((x2.1 = 1 ∨ sd = 0) ∧ byI T x2.2.1 = 87) := by omega
          refine lv_aload_n hx hb (eX12_readDate (297, .aload_n 0, 1) (List.mem_of_getElem? (i := 151) rfl)) rfl (lv_at hl 1 rfl) ?_
          refine tz_get (r := 11) (k := 37) (t := (0, 0, 1)) hx hb hh182 ha rfl rfl (hcl11 365 37 (0, 0, 1) (by decide) rfl).1 hf3 (eX12_readDate (298, .getfield 365, 3) (List.mem_of_getElem? (i := 152) rfl)) ?_
          refine ff_if_eq hx hb (eX12_readDate (301, .ifCond .eq 100, 3) (List.mem_of_getElem? (i := 153) rfl)) (tgt := 401) rfl (fun c186 => (by exfalso; omega)) (fun c186 => ?_)
          refine lv_aload_n hx hb (eX12_readDate (304, .aload_n 0, 1) (List.mem_of_getElem? (i := 154) rfl)) rfl (lv_at hl 1 rfl) ?_
          refine ff_iconst hx hb (eX12_readDate (305, .iconst 4, 1) (List.mem_of_getElem? (i := 155) rfl)) (by decide) (by decide) (fun v187 e187 => ?_)
          refine ff_iconst hx hb (eX12_readDate (306, .iconst 2, 1) (List.mem_of_getElem? (i := 156) rfl)) (by decide) (by decide) (fun v188 e188 => ?_)
          refine tz_rowV (As := [.int v187, .int v188]) (st := []) (b := a) (C := RX12) (Ts := gT) hx hb hml hown h2 (fun _ h => h) (hX12_dateNumber l D cA ro sz H0 a v187 v188 4 2 T (x2.2) n fj h ha hn1 hT (by omega) (by omega) (by decide) (by decide)) ⟨rfl, rfl⟩ ⟨by decide, by decide⟩ ⟨by decide, by decide⟩ (tb_8 76 rfl rfl) (tb_1 12 rfl rfl) (tb_8 73 rfl rfl) (tb_8 75 rfl rfl) (tb_0 43 rfl rfl) (show yX12_dateNumber.cls ≠ "java/lang/invoke/MethodHandle" ∧ yX12_dateNumber.cls ≠ "java/lang/invoke/VarHandle" ∧ (parseMethodDescriptor yX12_dateNumber.desc).map (fun d => d.parameters.length) = some 2 by decide +kernel) zs_blind (zs_ob hh182 ha (show RTg[11]? = some (0, 11, 0, fsX12) from rfl) (zCX12 hKn.1)) (fun U hU hW => ⟨rfl, by rw [hU]; exact hh182.l0, zKb s U hW.alike hKn, by rw [hU]; exact ⟨jv3, jg3⟩⟩) hh182.2.2.1 hl.1 (Nat.le_of_ble_eq_true rfl) (eX12_readDate (307, .invokevirtual 369, 3) (List.mem_of_getElem? (i := 157) rfl)) (fun r189 s189 t189 lo189 g189 f189 l189 => ?_)
          obtain ⟨q189, z189, c189, jv189, jg189⟩ := f189
          cases q189
          rw [g189] at c189
          have hh189 : zh_ok D cA RTg ro sz H0 t189.heap lo189 := ⟨z189.1, z189.2.1, l189, z189.2.2.2⟩
          have kp189 := kp3.trans (c189.mono (ms' := gM) (by decide))
          generalize hx189 : nuG T 4 2 (fj, x2.2) = x189 at jv189 jg189
          have uu189 := jv189.2.2
          unfold vOK at uu189
          have bb189 := byI_bd T x189.2.1
          have mf189_37 := (c189.1 a 11 37 11 0 fsX12 ha rfl (by decide) (by decide)).trans hf3
          have nb189 : 0 ≤ x189.1 4 ∧ x189.1 4 ≤ 99 := by rw [← hx189]; exact nuG_bd (by decide)
          refine W.eq (g2 := F0 m 310 ls []) rfl ?_
          refine lv_aload_n hx hb (eX12_readDate (310, .aload_n 0, 1) (List.mem_of_getElem? (i := 158) rfl)) rfl (lv_at hl 1 rfl) ?_
          refine ff_iconst hx hb (eX12_readDate (311, .iconst 1, 1) (List.mem_of_getElem? (i := 159) rfl)) (by decide) (by decide) (fun v190 e190 => ?_)
          refine ff_ldc2 (n := 4) hx hb hown h2 (clX12_ok 89 4 (List.mem_of_getElem? (i := 3) rfl)) (eX12_readDate (312, .ldc2_w 89, 3) (List.mem_of_getElem? (i := 160) rfl)) (fun v191 e191 => ?_)
          refine tz_rowV (As := [.int v190, .long v191]) (st := []) (b := a) (C := RX12) (Ts := gT) hx hb hml hown h2 (fun _ h => h) (hX12_set l D cA ro sz H0 a v190 v191 1 n x189.1 h ha hn1 (by omega) (by decide)) ⟨rfl, rfl⟩ ⟨by decide, by decide⟩ ⟨by decide, by decide⟩ (tb_8 72 rfl rfl) (tb_1 12 rfl rfl) (tb_8 69 rfl rfl) (tb_8 71 rfl rfl) (tb_0 42 rfl rfl) (show yX12_set.cls ≠ "java/lang/invoke/MethodHandle" ∧ yX12_set.cls ≠ "java/lang/invoke/VarHandle" ∧ (parseMethodDescriptor yX12_set.desc).map (fun d => d.parameters.length) = some 2 by decide +kernel) zs_blind (zs_ob hh189 ha (show RTg[11]? = some (0, 11, 0, fsX12) from rfl) (zCX12 hKn.1)) (fun U hU hW => ⟨rfl, by rw [hU]; exact hh189.l0, zKb s U hW.alike hKn, by rw [hU]; exact jg189⟩) hh189.2.2.1 hl.1 (Nat.le_of_ble_eq_true rfl) (eX12_readDate (315, .invokevirtual 357, 3) (List.mem_of_getElem? (i := 161) rfl)) (fun r192 s192 t192 lo192 g192 f192 l192 => ?_)
          obtain ⟨q192, z192, c192, jg192⟩ := f192
          cases q192
          rw [g192] at c192
          have hh192 : zh_ok D cA RTg ro sz H0 t192.heap lo192 := ⟨z192.1, z192.2.1, l192, z192.2.2.2⟩
          have kp192 := kp189.trans (c192.mono (ms' := gM) (by decide))
          have jg192 : jG D cA ro t192.heap a n (upF x189.1 1 (4)) h := by rw [← show v191.toInt = 4 by omega]; exact jg192
          have jv192 := jv189.kept ha c192 (by decide)
          have mf192_37 := (c192.1 a 11 37 11 0 fsX12 ha rfl (by decide) (by decide)).trans mf189_37
          refine W.eq (g2 := F0 m 318 ls []) rfl ?_
          refine lv_aload_n hx hb (eX12_readDate (318, .aload_n 0, 1) (List.mem_of_getElem? (i := 162) rfl)) rfl (lv_at hl 1 rfl) ?_
          refine tz_rowV (As := []) (st := []) (b := a) (C := RX12) (Ts := gT) hx hb hml hown h2 (fun _ h => h) (hX12_isGood l D cA ro sz H0 a T (x189.2) ha) ⟨rfl, rfl⟩ ⟨by decide, by decide⟩ ⟨by decide, by decide⟩ (tb_8 17 rfl rfl) (tb_1 12 rfl rfl) (tb_8 14 rfl rfl) (tb_8 16 rfl rfl) (tb_0 31 rfl rfl) (show yX12_isGood.cls ≠ "java/lang/invoke/MethodHandle" ∧ yX12_isGood.cls ≠ "java/lang/invoke/VarHandle" ∧ (parseMethodDescriptor yX12_isGood.desc).map (fun d => d.parameters.length) = some 0 by decide +kernel) zs_blind (zs_ob hh192 ha (show RTg[11]? = some (0, 11, 0, fsX12) from rfl) (zCX12 hKn.1)) (fun U hU hW => ⟨rfl, by rw [hU]; exact hh192.l0, zKb s U hW.alike hKn, by rw [hU]; exact jv192⟩) hh192.2.2.1 hl.1 (Nat.le_of_ble_eq_true rfl) (eX12_readDate (319, .invokevirtual 305, 3) (List.mem_of_getElem? (i := 163) rfl)) (fun r193 s193 t193 lo193 g193 f193 l193 => ?_)
          obtain ⟨z193, v193, q193, e193⟩ := f193
          cases q193
          rw [z193, g193]
          have hh193 : zh_ok D cA RTg ro sz H0 t192.heap lo193 := ⟨hh192.1, hh192.2.1, l193, hh192.2.2.2⟩
          refine W.eq (g2 := F0 m 322 ls [.int v193]) rfl ?_
          refine ff_if_eq hx hb (eX12_readDate (322, .ifCond .eq 45, 3) (List.mem_of_getElem? (i := 164) rfl)) (tgt := 367) rfl (fun c194 => ?_) (fun c194 => ?_)
          · skip
            have d195 : ¬ (x189.2.2.1 < 0 ∧ isD (byI T x189.2.1)) := by omega
            refine lv_aload_n hx hb (eX12_readDate (367, .aload_n 0, 1) (List.mem_of_getElem? (i := 187) rfl)) rfl (lv_at hl 1 rfl) ?_
            refine ff_bipush hx hb (eX12_readDate (368, .bipush 45, 2) (List.mem_of_getElem? (i := 188) rfl)) (by decide) (by decide) (fun v196 e196 => ?_)
            refine tz_rowV (As := [.int v196]) (st := []) (b := a) (C := RX12) (Ts := gT) hx hb hml hown h2 (fun _ h => h) (hX12_takes l D cA ro sz H0 a v196 45 T (x189.2) ha (by omega) (by decide)) ⟨rfl, rfl⟩ ⟨by decide, by decide⟩ ⟨by decide, by decide⟩ (tb_8 13 rfl rfl) (tb_1 12 rfl rfl) (tb_8 10 rfl rfl) (tb_8 12 rfl rfl) (tb_0 30 rfl rfl) (show yX12_takes.cls ≠ "java/lang/invoke/MethodHandle" ∧ yX12_takes.cls ≠ "java/lang/invoke/VarHandle" ∧ (parseMethodDescriptor yX12_takes.desc).map (fun d => d.parameters.length) = some 1 by decide +kernel) zs_blind (zs_ob hh193 ha (show RTg[11]? = some (0, 11, 0, fsX12) from rfl) (zCX12 hKn.1)) (fun U hU hW => ⟨rfl, by rw [hU]; exact hh193.l0, zKb s U hW.alike hKn, by rw [hU]; exact jv192⟩) hh193.2.2.1 hl.1 (Nat.le_of_ble_eq_true rfl) (eX12_readDate (370, .invokevirtual 313, 3) (List.mem_of_getElem? (i := 189) rfl)) (fun r197 s197 t197 lo197 g197 f197 l197 => ?_)
            obtain ⟨v197, q197, e197, z197, c197, jv197⟩ := f197
            cases q197
            rw [g197] at c197
            have hh197 : zh_ok D cA RTg ro sz H0 t197.heap lo197 := ⟨z197.1, z197.2.1, l197, z197.2.2.2⟩
            have kp197 := kp192.trans (c197.mono (ms' := gM) (by decide))
            have kf197 := tkG_01 T 45 x189.2
            generalize hx197 : tkG T 45 x189.2 = x197 at jv197 e197 kf197
            have uu197 := jv197.2.2
            unfold vOK at uu197
            have bb197 := byI_bd T x197.2.1
            have jg197 := jg192.kept ha c197 (by decide)
            have mf197_37 := (c197.1 a 11 37 11 0 fsX12 ha rfl (by decide) (by decide)).trans mf192_37
            refine W.eq (g2 := F0 m 373 ls [.int v197]) rfl ?_
            refine ff_if_eq hx hb (eX12_readDate (373, .ifCond .eq 19, 3) (List.mem_of_getElem? (i := 190) rfl)) (tgt := 392) rfl (fun c198 => ?_) (fun c198 => ?_)
            · skip
              have d197 : ¬ x197.1 = 1 := by omega
              refine lv_iload_n hx hb (eX12_readDate (392, .iload_n 1, 1) (List.mem_of_getElem? (i := 200) rfl)) rfl (lv_at hl 2 rfl) ?_
              refine ff_if_eq hx hb (eX12_readDate (393, .ifCond .eq 7, 3) (List.mem_of_getElem? (i := 201) rfl)) (tgt := 400) rfl (fun c199 => ?_) (fun c199 => ?_)
              · skip
                have d200 : ¬ wh = 1 := by omega
                have hhd : hdG T (g, sg) = x2.1 := by simp only [hdG, hyr, hx2]
                have hfin : drG T wh (g, sg) = ((upF x189.1 1 (4)), x197.2) := by first | (simp only [drG, hdG, beG, wkG, wk1G, wk2G, daG, da1G, da2G, plG, pl1G, pl2G, upS, ad1, hyr, hsd, hx2, hx189, hx197, if_pos d6, if_pos d181, if_neg d185, if_neg d195, if_neg d197, if_neg d200, up_eq, up_ne (show (4 : Nat) ≠ 1 by decide)]; done) | (simp only [drG, hdG, beG, wkG, wk1G, wk2G, daG, da1G, da2G, plG, pl1G, pl2G, upS, ad1, hyr, hsd, hx2, hx189, hx197, if_pos d6, if_pos d181, if_neg d185, if_neg d195, if_neg d197, if_neg d200, up_eq, up_ne (show (4 : Nat) ≠ 1 by decide)] <;> rfl) | rfl
                exact W.vret hx hb hr (fun t ht hW => ⟨rfl, by rw [ht]; exact hh197.l0, by rw [ht]; exact kp197, by rw [ht, hfin]; exact jv197, by rw [ht, hfin]; exact jg197, by rw [ht, hhd]; exact ⟨_, mf197_37, by omega⟩⟩) hh197.2.2.1 (eX12_readDate (400, .return_, 1) (List.mem_of_getElem? (i := 204) rfl))
              · skip
                have d201 : wh = 1 := by omega
                refine lv_aload_n hx hb (eX12_readDate (396, .aload_n 0, 1) (List.mem_of_getElem? (i := 202) rfl)) rfl (lv_at hl 1 rfl) ?_
                refine tz_rowV (As := []) (st := []) (b := a) (C := RX12) (Ts := gT) hx hb hml hown h2 (fun _ h => h) (hX12_fail l D cA ro sz H0 a T (x197.2) ha) ⟨rfl, rfl⟩ ⟨by decide, by decide⟩ ⟨by decide, by decide⟩ (tb_8 31 rfl rfl) (tb_1 12 rfl rfl) (tb_8 28 rfl rfl) (tb_8 30 rfl rfl) (tb_0 33 rfl rfl) (show yX12_fail.cls ≠ "java/lang/invoke/MethodHandle" ∧ yX12_fail.cls ≠ "java/lang/invoke/VarHandle" ∧ (parseMethodDescriptor yX12_fail.desc).map (fun d => d.parameters.length) = some 0 by decide +kernel) zs_blind (zs_ob hh197 ha (show RTg[11]? = some (0, 11, 0, fsX12) from rfl) (zCX12 hKn.1)) (fun U hU hW => ⟨rfl, by rw [hU]; exact hh197.l0, zKb s U hW.alike hKn, by rw [hU]; exact jv197⟩) hh197.2.2.1 hl.1 (Nat.le_of_ble_eq_true rfl) (eX12_readDate (397, .invokevirtual 316, 3) (List.mem_of_getElem? (i := 203) rfl)) (fun r202 s202 t202 lo202 g202 f202 l202 => ?_)
                obtain ⟨q202, z202, c202, jv202⟩ := f202
                cases q202
                rw [g202] at c202
                have hh202 : zh_ok D cA RTg ro sz H0 t202.heap lo202 := ⟨z202.1, z202.2.1, l202, z202.2.2.2⟩
                have kp202 := kp197.trans (c202.mono (ms' := gM) (by decide))
                have kf202 := flG_nn (T := T) (r := x197.2) jv197.2.2
                generalize hx202 : flG x197.2 = x202 at jv202 kf202
                have uu202 := jv202.2.2
                unfold vOK at uu202
                have bb202 := byI_bd T x202.1
                have jg202 := jg197.kept ha c202 (by decide)
                have mf202_37 := (c202.1 a 11 37 11 0 fsX12 ha rfl (by decide) (by decide)).trans mf197_37
                refine W.eq (g2 := F0 m 400 ls []) rfl ?_
                have hhd : hdG T (g, sg) = x2.1 := by simp only [hdG, hyr, hx2]
                have hfin : drG T wh (g, sg) = ((upF x189.1 1 (4)), x202) := by first | (simp only [drG, hdG, beG, wkG, wk1G, wk2G, daG, da1G, da2G, plG, pl1G, pl2G, upS, ad1, hyr, hsd, hx2, hx189, hx197, hx202, if_pos d6, if_pos d181, if_neg d185, if_neg d195, if_neg d197, if_pos d201, up_eq, up_ne (show (4 : Nat) ≠ 1 by decide)]; done) | (simp only [drG, hdG, beG, wkG, wk1G, wk2G, daG, da1G, da2G, plG, pl1G, pl2G, upS, ad1, hyr, hsd, hx2, hx189, hx197, hx202, if_pos d6, if_pos d181, if_neg d185, if_neg d195, if_neg d197, if_pos d201, up_eq, up_ne (show (4 : Nat) ≠ 1 by decide)] <;> rfl) | rfl
                exact W.vret hx hb hr (fun t ht hW => ⟨rfl, by rw [ht]; exact hh202.l0, by rw [ht]; exact kp202, by rw [ht, hfin]; exact jv202, by rw [ht, hfin]; exact jg202, by rw [ht, hhd]; exact ⟨_, mf202_37, by omega⟩⟩) hh202.2.2.1 (eX12_readDate (400, .return_, 1) (List.mem_of_getElem? (i := 204) rfl))
            · skip
              have d197 : x197.1 = 1 := by omega
              refine lv_aload_n hx hb (eX12_readDate (376, .aload_n 0, 1) (List.mem_of_getElem? (i := 191) rfl)) rfl (lv_at hl 1 rfl) ?_
              refine ff_iconst hx hb (eX12_readDate (377, .iconst 1, 1) (List.mem_of_getElem? (i := 192) rfl)) (by decide) (by decide) (fun v203 e203 => ?_)
              refine ff_lconst hx hb (eX12_readDate (378, .lconst 0, 1) (List.mem_of_getElem? (i := 193) rfl)) rfl (fun v204 e204 => ?_)
              refine tz_rowV (As := [.int v203, .long v204]) (st := []) (b := a) (C := RX12) (Ts := gT) hx hb hml hown h2 (fun _ h => h) (hX12_set l D cA ro sz H0 a v203 v204 1 n (upF x189.1 1 (4)) h ha hn1 (by omega) (by decide)) ⟨rfl, rfl⟩ ⟨by decide, by decide⟩ ⟨by decide, by decide⟩ (tb_8 72 rfl rfl) (tb_1 12 rfl rfl) (tb_8 69 rfl rfl) (tb_8 71 rfl rfl) (tb_0 42 rfl rfl) (show yX12_set.cls ≠ "java/lang/invoke/MethodHandle" ∧ yX12_set.cls ≠ "java/lang/invoke/VarHandle" ∧ (parseMethodDescriptor yX12_set.desc).map (fun d => d.parameters.length) = some 2 by decide +kernel) zs_blind (zs_ob hh197 ha (show RTg[11]? = some (0, 11, 0, fsX12) from rfl) (zCX12 hKn.1)) (fun U hU hW => ⟨rfl, by rw [hU]; exact hh197.l0, zKb s U hW.alike hKn, by rw [hU]; exact jg197⟩) hh197.2.2.1 hl.1 (Nat.le_of_ble_eq_true rfl) (eX12_readDate (379, .invokevirtual 357, 3) (List.mem_of_getElem? (i := 194) rfl)) (fun r205 s205 t205 lo205 g205 f205 l205 => ?_)
              obtain ⟨q205, z205, c205, jg205⟩ := f205
              cases q205
              rw [g205] at c205
              have hh205 : zh_ok D cA RTg ro sz H0 t205.heap lo205 := ⟨z205.1, z205.2.1, l205, z205.2.2.2⟩
              have kp205 := kp197.trans (c205.mono (ms' := gM) (by decide))
              have jg205 : jG D cA ro t205.heap a n (upF (upF x189.1 1 (4)) 1 (0)) h := by rw [← show v204.toInt = 0 by omega]; exact jg205
              have jv205 := jv197.kept ha c205 (by decide)
              have mf205_37 := (c205.1 a 11 37 11 0 fsX12 ha rfl (by decide) (by decide)).trans mf197_37
              refine W.eq (g2 := F0 m 382 ls []) rfl ?_
              refine lv_aload_n hx hb (eX12_readDate (382, .aload_n 0, 1) (List.mem_of_getElem? (i := 195) rfl)) rfl (lv_at hl 1 rfl) ?_
              refine ff_bipush hx hb (eX12_readDate (383, .bipush 6, 2) (List.mem_of_getElem? (i := 196) rfl)) (by decide) (by decide) (fun v206 e206 => ?_)
              refine ff_iconst hx hb (eX12_readDate (385, .iconst 2, 1) (List.mem_of_getElem? (i := 197) rfl)) (by decide) (by decide) (fun v207 e207 => ?_)
              refine tz_rowV (As := [.int v206, .int v207]) (st := []) (b := a) (C := RX12) (Ts := gT) hx hb hml hown h2 (fun _ h => h) (hX12_dateNumber l D cA ro sz H0 a v206 v207 6 2 T (x197.2) n (upF (upF x189.1 1 (4)) 1 (0)) h ha hn1 hT (by omega) (by omega) (by decide) (by decide)) ⟨rfl, rfl⟩ ⟨by decide, by decide⟩ ⟨by decide, by decide⟩ (tb_8 76 rfl rfl) (tb_1 12 rfl rfl) (tb_8 73 rfl rfl) (tb_8 75 rfl rfl) (tb_0 43 rfl rfl) (show yX12_dateNumber.cls ≠ "java/lang/invoke/MethodHandle" ∧ yX12_dateNumber.cls ≠ "java/lang/invoke/VarHandle" ∧ (parseMethodDescriptor yX12_dateNumber.desc).map (fun d => d.parameters.length) = some 2 by decide +kernel) zs_blind (zs_ob hh205 ha (show RTg[11]? = some (0, 11, 0, fsX12) from rfl) (zCX12 hKn.1)) (fun U hU hW => ⟨rfl, by rw [hU]; exact hh205.l0, zKb s U hW.alike hKn, by rw [hU]; exact ⟨jv205, jg205⟩⟩) hh205.2.2.1 hl.1 (Nat.le_of_ble_eq_true rfl) (eX12_readDate (386, .invokevirtual 369, 3) (List.mem_of_getElem? (i := 198) rfl)) (fun r208 s208 t208 lo208 g208 f208 l208 => ?_)
              obtain ⟨q208, z208, c208, jv208, jg208⟩ := f208
              cases q208
              rw [g208] at c208
              have hh208 : zh_ok D cA RTg ro sz H0 t208.heap lo208 := ⟨z208.1, z208.2.1, l208, z208.2.2.2⟩
              have kp208 := kp205.trans (c208.mono (ms' := gM) (by decide))
              generalize hx208 : nuG T 6 2 ((upF (upF x189.1 1 (4)) 1 (0)), x197.2) = x208 at jv208 jg208
              have uu208 := jv208.2.2
              unfold vOK at uu208
              have bb208 := byI_bd T x208.2.1
              have mf208_37 := (c208.1 a 11 37 11 0 fsX12 ha rfl (by decide) (by decide)).trans mf205_37
              have nb208 : 0 ≤ x208.1 6 ∧ x208.1 6 ≤ 99 := by rw [← hx208]; exact nuG_bd (by decide)
              refine W.eq (g2 := F0 m 389 ls []) rfl ?_
              refine lv_goto hx hb (eX12_readDate (389, .goto 11, 3) (List.mem_of_getElem? (i := 199) rfl)) (tgt := 400) rfl ?_
              have hhd : hdG T (g, sg) = x2.1 := by simp only [hdG, hyr, hx2]
              have hfin : drG T wh (g, sg) = (x208.1, x208.2) := by first | (simp only [drG, hdG, beG, wkG, wk1G, wk2G, daG, da1G, da2G, plG, pl1G, pl2G, upS, ad1, hyr, hsd, hx2, hx189, hx197, hx208, if_pos d6, if_pos d181, if_neg d185, if_neg d195, if_pos d197, up_eq, up_ne (show (4 : Nat) ≠ 1 by decide)]; done) | (simp only [drG, hdG, beG, wkG, wk1G, wk2G, daG, da1G, da2G, plG, pl1G, pl2G, upS, ad1, hyr, hsd, hx2, hx189, hx197, hx208, if_pos d6, if_pos d181, if_neg d185, if_neg d195, if_pos d197, up_eq, up_ne (show (4 : Nat) ≠ 1 by decide)] <;> rfl) | rfl
              exact W.vret hx hb hr (fun t ht hW => ⟨rfl, by rw [ht]; exact hh208.l0, by rw [ht]; exact kp208, by rw [ht, hfin]; exact jv208, by rw [ht, hfin]; exact jg208, by rw [ht, hhd]; exact ⟨_, mf208_37, by omega⟩⟩) hh208.2.2.1 (eX12_readDate (400, .return_, 1) (List.mem_of_getElem? (i := 204) rfl))
          · skip
            refine lv_aload_n hx hb (eX12_readDate (325, .aload_n 0, 1) (List.mem_of_getElem? (i := 165) rfl)) rfl (lv_at hl 1 rfl) ?_
            refine tz_rowV (As := []) (st := []) (b := a) (C := RX12) (Ts := gT) hx hb hml hown h2 (fun _ h => h) (hX12_sign l D cA ro sz H0 a T (x189.2) ha) ⟨rfl, rfl⟩ ⟨by decide, by decide⟩ ⟨by decide, by decide⟩ (tb_8 21 rfl rfl) (tb_1 12 rfl rfl) (tb_8 18 rfl rfl) (tb_8 20 rfl rfl) (tb_0 32 rfl rfl) (show yX12_sign.cls ≠ "java/lang/invoke/MethodHandle" ∧ yX12_sign.cls ≠ "java/lang/invoke/VarHandle" ∧ (parseMethodDescriptor yX12_sign.desc).map (fun d => d.parameters.length) = some 0 by decide +kernel) zs_blind (zs_ob hh193 ha (show RTg[11]? = some (0, 11, 0, fsX12) from rfl) (zCX12 hKn.1)) (fun U hU hW => ⟨rfl, by rw [hU]; exact hh193.l0, zKb s U hW.alike hKn, by rw [hU]; exact jv192⟩) hh193.2.2.1 hl.1 (Nat.le_of_ble_eq_true rfl) (eX12_readDate (326, .invokevirtual 309, 3) (List.mem_of_getElem? (i := 166) rfl)) (fun r209 s209 t209 lo209 g209 f209 l209 => ?_)
            obtain ⟨z209, v209, q209, e209⟩ := f209
            cases q209
            rw [z209, g209]
            have hh209 : zh_ok D cA RTg ro sz H0 t192.heap lo209 := ⟨hh193.1, hh193.2.1, l209, hh193.2.2.2⟩
            refine W.eq (g2 := F0 m 329 ls [.int v209]) rfl ?_
            refine zu_S (vs := [.int v209]) (rest := []) hx hb hml hown hts0 zu_BT (hX12_isDigit l v209) ⟨rfl, rfl⟩ ⟨by decide, by decide⟩ ⟨by decide, by decide⟩ (tb_8 27 rfl rfl) (tb_1 12 rfl rfl) (tb_8 25 rfl rfl) (tb_8 26 rfl rfl) (show yX12_isDigit.cls ≠ "java/lang/invoke/MethodHandle" ∧ yX12_isDigit.cls ≠ "java/lang/invoke/VarHandle" ∧ (parseMethodDescriptor yX12_isDigit.desc).map (fun d => d.parameters.length) = some 1 by decide +kernel) rfl (fun _ _ _ => trivial) hl.1 (Nat.le_of_ble_eq_true rfl) (eX12_readDate (329, .invokestatic 319, 3) (List.mem_of_getElem? (i := 167) rfl)) (fun w210 f210 => ?_)
            obtain ⟨v210, rfl, e210⟩ := f210
            refine ff_if_eq hx hb (eX12_readDate (332, .ifCond .eq 35, 3) (List.mem_of_getElem? (i := 168) rfl)) (tgt := 367) rfl (fun c211 => ?_) (fun c211 => ?_)
            · skip
              have d212 : ¬ (x189.2.2.1 < 0 ∧ isD (byI T x189.2.1)) := by omega
              refine lv_aload_n hx hb (eX12_readDate (367, .aload_n 0, 1) (List.mem_of_getElem? (i := 187) rfl)) rfl (lv_at hl 1 rfl) ?_
              refine ff_bipush hx hb (eX12_readDate (368, .bipush 45, 2) (List.mem_of_getElem? (i := 188) rfl)) (by decide) (by decide) (fun v213 e213 => ?_)
              refine tz_rowV (As := [.int v213]) (st := []) (b := a) (C := RX12) (Ts := gT) hx hb hml hown h2 (fun _ h => h) (hX12_takes l D cA ro sz H0 a v213 45 T (x189.2) ha (by omega) (by decide)) ⟨rfl, rfl⟩ ⟨by decide, by decide⟩ ⟨by decide, by decide⟩ (tb_8 13 rfl rfl) (tb_1 12 rfl rfl) (tb_8 10 rfl rfl) (tb_8 12 rfl rfl) (tb_0 30 rfl rfl) (show yX12_takes.cls ≠ "java/lang/invoke/MethodHandle" ∧ yX12_takes.cls ≠ "java/lang/invoke/VarHandle" ∧ (parseMethodDescriptor yX12_takes.desc).map (fun d => d.parameters.length) = some 1 by decide +kernel) zs_blind (zs_ob hh209 ha (show RTg[11]? = some (0, 11, 0, fsX12) from rfl) (zCX12 hKn.1)) (fun U hU hW => ⟨rfl, by rw [hU]; exact hh209.l0, zKb s U hW.alike hKn, by rw [hU]; exact jv192⟩) hh209.2.2.1 hl.1 (Nat.le_of_ble_eq_true rfl) (eX12_readDate (370, .invokevirtual 313, 3) (List.mem_of_getElem? (i := 189) rfl)) (fun r214 s214 t214 lo214 g214 f214 l214 => ?_)
              obtain ⟨v214, q214, e214, z214, c214, jv214⟩ := f214
              cases q214
              rw [g214] at c214
              have hh214 : zh_ok D cA RTg ro sz H0 t214.heap lo214 := ⟨z214.1, z214.2.1, l214, z214.2.2.2⟩
              have kp214 := kp192.trans (c214.mono (ms' := gM) (by decide))
              have kf214 := tkG_01 T 45 x189.2
              generalize hx214 : tkG T 45 x189.2 = x214 at jv214 e214 kf214
              have uu214 := jv214.2.2
              unfold vOK at uu214
              have bb214 := byI_bd T x214.2.1
              have jg214 := jg192.kept ha c214 (by decide)
              have mf214_37 := (c214.1 a 11 37 11 0 fsX12 ha rfl (by decide) (by decide)).trans mf192_37
              refine W.eq (g2 := F0 m 373 ls [.int v214]) rfl ?_
              refine ff_if_eq hx hb (eX12_readDate (373, .ifCond .eq 19, 3) (List.mem_of_getElem? (i := 190) rfl)) (tgt := 392) rfl (fun c215 => ?_) (fun c215 => ?_)
              · skip
                have d214 : ¬ x214.1 = 1 := by omega
                refine lv_iload_n hx hb (eX12_readDate (392, .iload_n 1, 1) (List.mem_of_getElem? (i := 200) rfl)) rfl (lv_at hl 2 rfl) ?_
                refine ff_if_eq hx hb (eX12_readDate (393, .ifCond .eq 7, 3) (List.mem_of_getElem? (i := 201) rfl)) (tgt := 400) rfl (fun c216 => ?_) (fun c216 => ?_)
                · skip
                  have d217 : ¬ wh = 1 := by omega
                  have hhd : hdG T (g, sg) = x2.1 := by simp only [hdG, hyr, hx2]
                  have hfin : drG T wh (g, sg) = ((upF x189.1 1 (4)), x214.2) := by first | (simp only [drG, hdG, beG, wkG, wk1G, wk2G, daG, da1G, da2G, plG, pl1G, pl2G, upS, ad1, hyr, hsd, hx2, hx189, hx214, if_pos d6, if_pos d181, if_neg d185, if_neg d212, if_neg d214, if_neg d217, up_eq, up_ne (show (4 : Nat) ≠ 1 by decide)]; done) | (simp only [drG, hdG, beG, wkG, wk1G, wk2G, daG, da1G, da2G, plG, pl1G, pl2G, upS, ad1, hyr, hsd, hx2, hx189, hx214, if_pos d6, if_pos d181, if_neg d185, if_neg d212, if_neg d214, if_neg d217, up_eq, up_ne (show (4 : Nat) ≠ 1 by decide)] <;> rfl) | rfl
                  exact W.vret hx hb hr (fun t ht hW => ⟨rfl, by rw [ht]; exact hh214.l0, by rw [ht]; exact kp214, by rw [ht, hfin]; exact jv214, by rw [ht, hfin]; exact jg214, by rw [ht, hhd]; exact ⟨_, mf214_37, by omega⟩⟩) hh214.2.2.1 (eX12_readDate (400, .return_, 1) (List.mem_of_getElem? (i := 204) rfl))
                · skip
                  have d218 : wh = 1 := by omega
                  refine lv_aload_n hx hb (eX12_readDate (396, .aload_n 0, 1) (List.mem_of_getElem? (i := 202) rfl)) rfl (lv_at hl 1 rfl) ?_
                  refine tz_rowV (As := []) (st := []) (b := a) (C := RX12) (Ts := gT) hx hb hml hown h2 (fun _ h => h) (hX12_fail l D cA ro sz H0 a T (x214.2) ha) ⟨rfl, rfl⟩ ⟨by decide, by decide⟩ ⟨by decide, by decide⟩ (tb_8 31 rfl rfl) (tb_1 12 rfl rfl) (tb_8 28 rfl rfl) (tb_8 30 rfl rfl) (tb_0 33 rfl rfl) (show yX12_fail.cls ≠ "java/lang/invoke/MethodHandle" ∧ yX12_fail.cls ≠ "java/lang/invoke/VarHandle" ∧ (parseMethodDescriptor yX12_fail.desc).map (fun d => d.parameters.length) = some 0 by decide +kernel) zs_blind (zs_ob hh214 ha (show RTg[11]? = some (0, 11, 0, fsX12) from rfl) (zCX12 hKn.1)) (fun U hU hW => ⟨rfl, by rw [hU]; exact hh214.l0, zKb s U hW.alike hKn, by rw [hU]; exact jv214⟩) hh214.2.2.1 hl.1 (Nat.le_of_ble_eq_true rfl) (eX12_readDate (397, .invokevirtual 316, 3) (List.mem_of_getElem? (i := 203) rfl)) (fun r219 s219 t219 lo219 g219 f219 l219 => ?_)
                  obtain ⟨q219, z219, c219, jv219⟩ := f219
                  cases q219
                  rw [g219] at c219
                  have hh219 : zh_ok D cA RTg ro sz H0 t219.heap lo219 := ⟨z219.1, z219.2.1, l219, z219.2.2.2⟩
                  have kp219 := kp214.trans (c219.mono (ms' := gM) (by decide))
                  have kf219 := flG_nn (T := T) (r := x214.2) jv214.2.2
                  generalize hx219 : flG x214.2 = x219 at jv219 kf219
                  have uu219 := jv219.2.2
                  unfold vOK at uu219
                  have bb219 := byI_bd T x219.1
                  have jg219 := jg214.kept ha c219 (by decide)
                  have mf219_37 := (c219.1 a 11 37 11 0 fsX12 ha rfl (by decide) (by decide)).trans mf214_37
                  refine W.eq (g2 := F0 m 400 ls []) rfl ?_
                  have hhd : hdG T (g, sg) = x2.1 := by simp only [hdG, hyr, hx2]
                  have hfin : drG T wh (g, sg) = ((upF x189.1 1 (4)), x219) := by first | (simp only [drG, hdG, beG, wkG, wk1G, wk2G, daG, da1G, da2G, plG, pl1G, pl2G, upS, ad1, hyr, hsd, hx2, hx189, hx214, hx219, if_pos d6, if_pos d181, if_neg d185, if_neg d212, if_neg d214, if_pos d218, up_eq, up_ne (show (4 : Nat) ≠ 1 by decide)]; done) | (simp only [drG, hdG, beG, wkG, wk1G, wk2G, daG, da1G, da2G, plG, pl1G, pl2G, upS, ad1, hyr, hsd, hx2, hx189, hx214, hx219, if_pos d6, if_pos d181, if_neg d185, if_neg d212, if_neg d214, if_pos d218, up_eq, up_ne (show (4 : Nat) ≠ 1 by decide)] <;> rfl) | rfl
                  exact W.vret hx hb hr (fun t ht hW => ⟨rfl, by rw [ht]; exact hh219.l0, by rw [ht]; exact kp219, by rw [ht, hfin]; exact jv219, by rw [ht, hfin]; exact jg219, by rw [ht, hhd]; exact ⟨_, mf219_37, by omega⟩⟩) hh219.2.2.1 (eX12_readDate (400, .return_, 1) (List.mem_of_getElem? (i := 204) rfl))
              · skip
                have d214 : x214.1 = 1 := by omega
                refine lv_aload_n hx hb (eX12_readDate (376, .aload_n 0, 1) (List.mem_of_getElem? (i := 191) rfl)) rfl (lv_at hl 1 rfl) ?_
                refine ff_iconst hx hb (eX12_readDate (377, .iconst 1, 1) (List.mem_of_getElem? (i := 192) rfl)) (by decide) (by decide) (fun v220 e220 => ?_)
                refine ff_lconst hx hb (eX12_readDate (378, .lconst 0, 1) (List.mem_of_getElem? (i := 193) rfl)) rfl (fun v221 e221 => ?_)
                refine tz_rowV (As := [.int v220, .long v221]) (st := []) (b := a) (C := RX12) (Ts := gT) hx hb hml hown h2 (fun _ h => h) (hX12_set l D cA ro sz H0 a v220 v221 1 n (upF x189.1 1 (4)) h ha hn1 (by omega) (by decide)) ⟨rfl, rfl⟩ ⟨by decide, by decide⟩ ⟨by decide, by decide⟩ (tb_8 72 rfl rfl) (tb_1 12 rfl rfl) (tb_8 69 rfl rfl) (tb_8 71 rfl rfl) (tb_0 42 rfl rfl) (show yX12_set.cls ≠ "java/lang/invoke/MethodHandle" ∧ yX12_set.cls ≠ "java/lang/invoke/VarHandle" ∧ (parseMethodDescriptor yX12_set.desc).map (fun d => d.parameters.length) = some 2 by decide +kernel) zs_blind (zs_ob hh214 ha (show RTg[11]? = some (0, 11, 0, fsX12) from rfl) (zCX12 hKn.1)) (fun U hU hW => ⟨rfl, by rw [hU]; exact hh214.l0, zKb s U hW.alike hKn, by rw [hU]; exact jg214⟩) hh214.2.2.1 hl.1 (Nat.le_of_ble_eq_true rfl) (eX12_readDate (379, .invokevirtual 357, 3) (List.mem_of_getElem? (i := 194) rfl)) (fun r222 s222 t222 lo222 g222 f222 l222 => ?_)
                obtain ⟨q222, z222, c222, jg222⟩ := f222
                cases q222
                rw [g222] at c222
                have hh222 : zh_ok D cA RTg ro sz H0 t222.heap lo222 := ⟨z222.1, z222.2.1, l222, z222.2.2.2⟩
                have kp222 := kp214.trans (c222.mono (ms' := gM) (by decide))
                have jg222 : jG D cA ro t222.heap a n (upF (upF x189.1 1 (4)) 1 (0)) h := by rw [← show v221.toInt = 0 by omega]; exact jg222
                have jv222 := jv214.kept ha c222 (by decide)
                have mf222_37 := (c222.1 a 11 37 11 0 fsX12 ha rfl (by decide) (by decide)).trans mf214_37
                refine W.eq (g2 := F0 m 382 ls []) rfl ?_
                refine lv_aload_n hx hb (eX12_readDate (382, .aload_n 0, 1) (List.mem_of_getElem? (i := 195) rfl)) rfl (lv_at hl 1 rfl) ?_
                refine ff_bipush hx hb (eX12_readDate (383, .bipush 6, 2) (List.mem_of_getElem? (i := 196) rfl)) (by decide) (by decide) (fun v223 e223 => ?_)
                refine ff_iconst hx hb (eX12_readDate (385, .iconst 2, 1) (List.mem_of_getElem? (i := 197) rfl)) (by decide) (by decide) (fun v224 e224 => ?_)
                refine tz_rowV (As := [.int v223, .int v224]) (st := []) (b := a) (C := RX12) (Ts := gT) hx hb hml hown h2 (fun _ h => h) (hX12_dateNumber l D cA ro sz H0 a v223 v224 6 2 T (x214.2) n (upF (upF x189.1 1 (4)) 1 (0)) h ha hn1 hT (by omega) (by omega) (by decide) (by decide)) ⟨rfl, rfl⟩ ⟨by decide, by decide⟩ ⟨by decide, by decide⟩ (tb_8 76 rfl rfl) (tb_1 12 rfl rfl) (tb_8 73 rfl rfl) (tb_8 75 rfl rfl) (tb_0 43 rfl rfl) (show yX12_dateNumber.cls ≠ "java/lang/invoke/MethodHandle" ∧ yX12_dateNumber.cls ≠ "java/lang/invoke/VarHandle" ∧ (parseMethodDescriptor yX12_dateNumber.desc).map (fun d => d.parameters.length) = some 2 by decide +kernel) zs_blind (zs_ob hh222 ha (show RTg[11]? = some (0, 11, 0, fsX12) from rfl) (zCX12 hKn.1)) (fun U hU hW => ⟨rfl, by rw [hU]; exact hh222.l0, zKb s U hW.alike hKn, by rw [hU]; exact ⟨jv222, jg222⟩⟩) hh222.2.2.1 hl.1 (Nat.le_of_ble_eq_true rfl) (eX12_readDate (386, .invokevirtual 369, 3) (List.mem_of_getElem? (i := 198) rfl)) (fun r225 s225 t225 lo225 g225 f225 l225 => ?_)
                obtain ⟨q225, z225, c225, jv225, jg225⟩ := f225
                cases q225
                rw [g225] at c225
                have hh225 : zh_ok D cA RTg ro sz H0 t225.heap lo225 := ⟨z225.1, z225.2.1, l225, z225.2.2.2⟩
                have kp225 := kp222.trans (c225.mono (ms' := gM) (by decide))
                generalize hx225 : nuG T 6 2 ((upF (upF x189.1 1 (4)) 1 (0)), x214.2) = x225 at jv225 jg225
                have uu225 := jv225.2.2
                unfold vOK at uu225
                have bb225 := byI_bd T x225.2.1
                have mf225_37 := (c225.1 a 11 37 11 0 fsX12 ha rfl (by decide) (by decide)).trans mf222_37
                have nb225 : 0 ≤ x225.1 6 ∧ x225.1 6 ≤ 99 := by rw [← hx225]; exact nuG_bd (by decide)
                refine W.eq (g2 := F0 m 389 ls []) rfl ?_
                refine lv_goto hx hb (eX12_readDate (389, .goto 11, 3) (List.mem_of_getElem? (i := 199) rfl)) (tgt := 400) rfl ?_
                have hhd : hdG T (g, sg) = x2.1 := by simp only [hdG, hyr, hx2]
                have hfin : drG T wh (g, sg) = (x225.1, x225.2) := by first | (simp only [drG, hdG, beG, wkG, wk1G, wk2G, daG, da1G, da2G, plG, pl1G, pl2G, upS, ad1, hyr, hsd, hx2, hx189, hx214, hx225, if_pos d6, if_pos d181, if_neg d185, if_neg d212, if_pos d214, up_eq, up_ne (show (4 : Nat) ≠ 1 by decide)]; done) | (simp only [drG, hdG, beG, wkG, wk1G, wk2G, daG, da1G, da2G, plG, pl1G, pl2G, upS, ad1, hyr, hsd, hx2, hx189, hx214, hx225, if_pos d6, if_pos d181, if_neg d185, if_neg d212, if_pos d214, up_eq, up_ne (show (4 : Nat) ≠ 1 by decide)] <;> rfl) | rfl
                exact W.vret hx hb hr (fun t ht hW => ⟨rfl, by rw [ht]; exact hh225.l0, by rw [ht]; exact kp225, by rw [ht, hfin]; exact jv225, by rw [ht, hfin]; exact jg225, by rw [ht, hhd]; exact ⟨_, mf225_37, by omega⟩⟩) hh225.2.2.1 (eX12_readDate (400, .return_, 1) (List.mem_of_getElem? (i := 204) rfl))
            · skip
              have d226 : x189.2.2.1 < 0 ∧ isD (byI T x189.2.1) := by omega
              refine lv_aload_n hx hb (eX12_readDate (335, .aload_n 0, 1) (List.mem_of_getElem? (i := 169) rfl)) rfl (lv_at hl 1 rfl) ?_
              refine ff_iconst hx hb (eX12_readDate (336, .iconst 4, 1) (List.mem_of_getElem? (i := 170) rfl)) (by decide) (by decide) (fun v227 e227 => ?_)
              refine ff_ldc2 (n := 10) hx hb hown h2 (clX12_ok 373 10 (List.mem_of_getElem? (i := 32) rfl)) (eX12_readDate (337, .ldc2_w 373, 3) (List.mem_of_getElem? (i := 171) rfl)) (fun v228 e228 => ?_)
              refine lv_aload_n hx hb (eX12_readDate (340, .aload_n 0, 1) (List.mem_of_getElem? (i := 172) rfl)) rfl (lv_at hl 1 rfl) ?_
              refine ff_iconst hx hb (eX12_readDate (341, .iconst 4, 1) (List.mem_of_getElem? (i := 173) rfl)) (by decide) (by decide) (fun v229 e229 => ?_)
              refine tz_rowV (As := [.int v229]) (st := [.long v228, .int v227, .ref a]) (b := a) (C := RX12) (Ts := gT) hx hb hml hown h2 (fun _ h => h) (hX12_get l D cA ro sz H0 a v229 4 n (upF x189.1 1 (4)) h ha hn1 (by omega) (by decide)) ⟨rfl, rfl⟩ ⟨by decide, by decide⟩ ⟨by decide, by decide⟩ (tb_8 94 rfl rfl) (tb_1 12 rfl rfl) (tb_8 91 rfl rfl) (tb_8 93 rfl rfl) (tb_0 47 rfl rfl) (show yX12_get.cls ≠ "java/lang/invoke/MethodHandle" ∧ yX12_get.cls ≠ "java/lang/invoke/VarHandle" ∧ (parseMethodDescriptor yX12_get.desc).map (fun d => d.parameters.length) = some 1 by decide +kernel) zs_blind (zs_ob hh209 ha (show RTg[11]? = some (0, 11, 0, fsX12) from rfl) (zCX12 hKn.1)) (fun U hU hW => ⟨rfl, by rw [hU]; exact hh209.l0, zKb s U hW.alike hKn, by rw [hU]; exact jg192⟩) hh209.2.2.1 hl.1 (Nat.le_of_ble_eq_true rfl) (eX12_readDate (342, .invokevirtual 361, 3) (List.mem_of_getElem? (i := 174) rfl)) (fun r230 s230 t230 lo230 g230 f230 l230 => ?_)
              obtain ⟨z230, v230, q230, e230⟩ := f230
              cases q230
              rw [z230, g230]
              have hh230 : zh_ok D cA RTg ro sz H0 t192.heap lo230 := ⟨hh209.1, hh209.2.1, l230, hh209.2.2.2⟩
              rw [up_ne (show (4 : Nat) ≠ 1 by decide)] at e230
              refine W.eq (g2 := F0 m 345 ls [.long v230, .long v228, .int v227, .ref a]) rfl ?_
              refine ff_lmulL hx hb (eX12_readDate (345, .lmul, 1) (List.mem_of_getElem? (i := 175) rfl)) (e228) (by omega) (by omega) (fun v231 e231 => ?_)
              refine lv_aload_n hx hb (eX12_readDate (346, .aload_n 0, 1) (List.mem_of_getElem? (i := 176) rfl)) rfl (lv_at hl 1 rfl) ?_
              refine ff_iconst hx hb (eX12_readDate (347, .iconst 1, 1) (List.mem_of_getElem? (i := 177) rfl)) (by decide) (by decide) (fun v232 e232 => ?_)
              refine tz_rowV (As := [.int v232]) (st := [.long v231, .int v227, .ref a]) (b := a) (C := RX12) (Ts := gT) hx hb hml hown h2 (fun _ h => h) (hX12_digitsW l D cA ro sz H0 a v232 1 T (x189.2) ha (by omega) (by decide)) ⟨rfl, rfl⟩ ⟨by decide, by decide⟩ ⟨by decide, by decide⟩ (tb_8 43 rfl rfl) (tb_1 12 rfl rfl) (tb_8 40 rfl rfl) (tb_8 42 rfl rfl) (tb_0 36 rfl rfl) (show yX12_digits.cls ≠ "java/lang/invoke/MethodHandle" ∧ yX12_digits.cls ≠ "java/lang/invoke/VarHandle" ∧ (parseMethodDescriptor yX12_digits.desc).map (fun d => d.parameters.length) = some 1 by decide +kernel) zs_blind (zs_ob hh230 ha (show RTg[11]? = some (0, 11, 0, fsX12) from rfl) (zCX12 hKn.1)) (fun U hU hW => ⟨rfl, by rw [hU]; exact hh230.l0, zKb s U hW.alike hKn, by rw [hU]; exact jv192⟩) hh230.2.2.1 hl.1 (Nat.le_of_ble_eq_true rfl) (eX12_readDate (348, .invokevirtual 331, 3) (List.mem_of_getElem? (i := 178) rfl)) (fun r233 s233 t233 lo233 g233 f233 l233 => ?_)
              obtain ⟨v233, q233, e233, z233, c233, jv233⟩ := f233
              cases q233
              rw [g233] at c233
              have hh233 : zh_ok D cA RTg ro sz H0 t233.heap lo233 := ⟨z233.1, z233.2.1, l233, z233.2.2.2⟩
              have kp233 := kp192.trans (c233.mono (ms' := gM) (by decide))
              have kf233 := dgG_w (T := T) (n := 1) (r := x189.2) (M := 9) (by decide)
              generalize hx233 : dgG T 1 0 x189.2 = x233 at jv233 e233 kf233
              have uu233 := jv233.2.2
              unfold vOK at uu233
              have bb233 := byI_bd T x233.2.1
              have jg233 := jg192.kept ha c233 (by decide)
              have mf233_37 := (c233.1 a 11 37 11 0 fsX12 ha rfl (by decide) (by decide)).trans mf192_37
              refine W.eq (g2 := F0 m 351 ls [.int v233, .long v231, .int v227, .ref a]) rfl ?_
              refine ff_i2l hx hb (eX12_readDate (351, .i2l, 1) (List.mem_of_getElem? (i := 179) rfl)) (fun v234 e234 => ?_)
              refine ff_ladd hx hb (eX12_readDate (352, .ladd, 1) (List.mem_of_getElem? (i := 180) rfl)) (by omega) (by omega) (fun v235 e235 => ?_)
              refine tz_rowV (As := [.int v227, .long v235]) (st := []) (b := a) (C := RX12) (Ts := gT) hx hb hml hown h2 (fun _ h => h) (hX12_set l D cA ro sz H0 a v227 v235 4 n (upF x189.1 1 (4)) h ha hn1 (by omega) (by decide)) ⟨rfl, rfl⟩ ⟨by decide, by decide⟩ ⟨by decide, by decide⟩ (tb_8 72 rfl rfl) (tb_1 12 rfl rfl) (tb_8 69 rfl rfl) (tb_8 71 rfl rfl) (tb_0 42 rfl rfl) (show yX12_set.cls ≠ "java/lang/invoke/MethodHandle" ∧ yX12_set.cls ≠ "java/lang/invoke/VarHandle" ∧ (parseMethodDescriptor yX12_set.desc).map (fun d => d.parameters.length) = some 2 by decide +kernel) zs_blind (zs_ob hh233 ha (show RTg[11]? = some (0, 11, 0, fsX12) from rfl) (zCX12 hKn.1)) (fun U hU hW => ⟨rfl, by rw [hU]; exact hh233.l0, zKb s U hW.alike hKn, by rw [hU]; exact jg233⟩) hh233.2.2.1 hl.1 (Nat.le_of_ble_eq_true rfl) (eX12_readDate (353, .invokevirtual 357, 3) (List.mem_of_getElem? (i := 181) rfl)) (fun r236 s236 t236 lo236 g236 f236 l236 => ?_)
              obtain ⟨q236, z236, c236, jg236⟩ := f236
              cases q236
              rw [g236] at c236
              have hh236 : zh_ok D cA RTg ro sz H0 t236.heap lo236 := ⟨z236.1, z236.2.1, l236, z236.2.2.2⟩
              have kp236 := kp233.trans (c236.mono (ms' := gM) (by decide))
              have jg236 : jG D cA ro t236.heap a n (upF (upF x189.1 1 (4)) 4 (10 * x189.1 4 + x233.1)) h := by rw [← show v235.toInt = 10 * x189.1 4 + x233.1 by omega]; exact jg236
              have jv236 := jv233.kept ha c236 (by decide)
              have mf236_37 := (c236.1 a 11 37 11 0 fsX12 ha rfl (by decide) (by decide)).trans mf233_37
              refine W.eq (g2 := F0 m 356 ls []) rfl ?_
              refine lv_aload_n hx hb (eX12_readDate (356, .aload_n 0, 1) (List.mem_of_getElem? (i := 182) rfl)) rfl (lv_at hl 1 rfl) ?_
              refine ff_iconst hx hb (eX12_readDate (357, .iconst 1, 1) (List.mem_of_getElem? (i := 183) rfl)) (by decide) (by decide) (fun v237 e237 => ?_)
              refine ff_ldc2 (n := 2) hx hb hown h2 (clX12_ok 105 2 (List.mem_of_getElem? (i := 7) rfl)) (eX12_readDate (358, .ldc2_w 105, 3) (List.mem_of_getElem? (i := 184) rfl)) (fun v238 e238 => ?_)
              refine tz_rowV (As := [.int v237, .long v238]) (st := []) (b := a) (C := RX12) (Ts := gT) hx hb hml hown h2 (fun _ h => h) (hX12_set l D cA ro sz H0 a v237 v238 1 n (upF (upF x189.1 1 (4)) 4 (10 * x189.1 4 + x233.1)) h ha hn1 (by omega) (by decide)) ⟨rfl, rfl⟩ ⟨by decide, by decide⟩ ⟨by decide, by decide⟩ (tb_8 72 rfl rfl) (tb_1 12 rfl rfl) (tb_8 69 rfl rfl) (tb_8 71 rfl rfl) (tb_0 42 rfl rfl) (show yX12_set.cls ≠ "java/lang/invoke/MethodHandle" ∧ yX12_set.cls ≠ "java/lang/invoke/VarHandle" ∧ (parseMethodDescriptor yX12_set.desc).map (fun d => d.parameters.length) = some 2 by decide +kernel) zs_blind (zs_ob hh236 ha (show RTg[11]? = some (0, 11, 0, fsX12) from rfl) (zCX12 hKn.1)) (fun U hU hW => ⟨rfl, by rw [hU]; exact hh236.l0, zKb s U hW.alike hKn, by rw [hU]; exact jg236⟩) hh236.2.2.1 hl.1 (Nat.le_of_ble_eq_true rfl) (eX12_readDate (361, .invokevirtual 357, 3) (List.mem_of_getElem? (i := 185) rfl)) (fun r239 s239 t239 lo239 g239 f239 l239 => ?_)
              obtain ⟨q239, z239, c239, jg239⟩ := f239
              cases q239
              rw [g239] at c239
              have hh239 : zh_ok D cA RTg ro sz H0 t239.heap lo239 := ⟨z239.1, z239.2.1, l239, z239.2.2.2⟩
              have kp239 := kp236.trans (c239.mono (ms' := gM) (by decide))
              have jg239 : jG D cA ro t239.heap a n (upF (upF (upF x189.1 1 (4)) 4 (10 * x189.1 4 + x233.1)) 1 (2)) h := by rw [← show v238.toInt = 2 by omega]; exact jg239
              have jv239 := jv236.kept ha c239 (by decide)
              have mf239_37 := (c239.1 a 11 37 11 0 fsX12 ha rfl (by decide) (by decide)).trans mf236_37
              refine W.eq (g2 := F0 m 364 ls []) rfl ?_
              refine lv_goto hx hb (eX12_readDate (364, .goto 36, 3) (List.mem_of_getElem? (i := 186) rfl)) (tgt := 400) rfl ?_
              have hhd : hdG T (g, sg) = x2.1 := by simp only [hdG, hyr, hx2]
              have hfin : drG T wh (g, sg) = ((upF (upF (upF x189.1 1 (4)) 4 (10 * x189.1 4 + x233.1)) 1 (2)), x233.2) := by first | (simp only [drG, hdG, beG, wkG, wk1G, wk2G, daG, da1G, da2G, plG, pl1G, pl2G, upS, ad1, hyr, hsd, hx2, hx189, hx233, if_pos d6, if_pos d181, if_neg d185, if_pos d226, up_eq, up_ne (show (4 : Nat) ≠ 1 by decide)]; done) | (simp only [drG, hdG, beG, wkG, wk1G, wk2G, daG, da1G, da2G, plG, pl1G, pl2G, upS, ad1, hyr, hsd, hx2, hx189, hx233, if_pos d6, if_pos d181, if_neg d185, if_pos d226, up_eq, up_ne (show (4 : Nat) ≠ 1 by decide)] <;> rfl) | rfl
              exact W.vret hx hb hr (fun t ht hW => ⟨rfl, by rw [ht]; exact hh239.l0, by rw [ht]; exact kp239, by rw [ht, hfin]; exact jv239, by rw [ht, hfin]; exact jg239, by rw [ht, hhd]; exact ⟨_, mf239_37, by omega⟩⟩) hh239.2.2.1 (eX12_readDate (400, .return_, 1) (List.mem_of_getElem? (i := 204) rfl))
        · skip
          have d240 : ((x2.1 = 1 ∨ sd = 0) ∧ byI T x2.2.1 = 87) := by omega
          refine lv_goto hx hb (eX12_readDate (178, .goto 16, 3) (List.mem_of_getElem? (i := 92) rfl)) (tgt := 194) rfl ?_
          refine lv_aload_n hx hb (eX12_readDate (194, .aload_n 0, 1) (List.mem_of_getElem? (i := 99) rfl)) rfl (lv_at hl 1 rfl) ?_
          refine lv_dup hx hb (eX12_readDate (195, .dup, 1) (List.mem_of_getElem? (i := 100) rfl)) rfl ?_
          obtain ⟨jt241, ⟨av241, fv241, bv241, f29241, f30241, f31241, hav241, hfv241, hbv241⟩, hu241⟩ := id jv3
          refine tz_get (r := 11) (k := 29) (t := (0, 0, 120)) hx hb hh182 ha rfl rfl (hcl11 293 29 (0, 0, 120) (by decide) rfl).1 f29241 (eX12_readDate (196, .getfield 293, 3) (List.mem_of_getElem? (i := 101) rfl)) ?_
          refine ff_iconst hx hb (eX12_readDate (199, .iconst 1, 1) (List.mem_of_getElem? (i := 102) rfl)) (by decide) (by decide) (fun v242 e242 => ?_)
          have ha9243 : av241.toInt + v242.toInt ≤ 121 ∧ 0 ≤ av241.toInt := by omega
          refine ff_iadd hx hb (eX12_readDate (200, .iadd, 1) (List.mem_of_getElem? (i := 103) rfl)) (by omega) (by omega) (fun v243 e243 => ?_)
          have hlt := byI_lt (T := T) (a := x2.2.1) (by omega) (by omega)
          refine tz_put (r := 11) (k := 29) (t := (0, 0, 120)) hx hb hD hh182 ha rfl rfl ((hcl11 293 29 (0, 0, 120) (by decide) rfl).2 (by decide)) (tz_i (by omega) (by omega)) (eX12_readDate (201, .putfield 293, 3) (List.mem_of_getElem? (i := 104) rfl)) (fun H244 lo244 hh244 hf244 hk244 _ hq244 => ?_)
          have mf244_a_37 := (hk244.1 a 11 37 11 0 fsX12 ha rfl (by decide) (by decide)).trans hf3
          have mf244_a_30 := (hk244.1 a 11 30 11 0 fsX12 ha rfl (by decide) (by decide)).trans f30241
          have mf244_a_31 := (hk244.1 a 11 31 11 0 fsX12 ha rfl (by decide) (by decide)).trans f31241
          have kp244 := kp3.trans (hk244.mono (ms' := gM) (fun x hx => by cases List.mem_singleton.mp hx; decide))
          have jv244 : jV D cA ro H244 a T (x2.2.1 + 1, x2.2.2) := ⟨jv3.1.kept ha hk244 (by decide) (by decide) (by decide), ⟨_, _, _, hf244, mf244_a_30, mf244_a_31, by show _ = x2.2.1 + 1; omega, hfv241, hbv241⟩, adG_ok jv3.2.2 (by omega)⟩
          have jg244 := jg3.kept ha hk244 (by decide)
          have uv244 := jv244.2.2
          unfold vOK at uv244
          have bb244 := byI_bd T (x2.2.1 + 1, x2.2.2).1
          refine lv_aload_n hx hb (eX12_readDate (204, .aload_n 0, 1) (List.mem_of_getElem? (i := 105) rfl)) rfl (lv_at hl 1 rfl) ?_
          refine ff_iconst hx hb (eX12_readDate (205, .iconst 1, 1) (List.mem_of_getElem? (i := 106) rfl)) (by decide) (by decide) (fun v245 e245 => ?_)
          refine ff_ldc2 (n := 5) hx hb hown h2 (clX12_ok 107 5 (List.mem_of_getElem? (i := 8) rfl)) (eX12_readDate (206, .ldc2_w 107, 3) (List.mem_of_getElem? (i := 107) rfl)) (fun v246 e246 => ?_)
          refine tz_rowV (As := [.int v245, .long v246]) (st := []) (b := a) (C := RX12) (Ts := gT) hx hb hml hown h2 (fun _ h => h) (hX12_set l D cA ro sz H0 a v245 v246 1 n fj h ha hn1 (by omega) (by decide)) ⟨rfl, rfl⟩ ⟨by decide, by decide⟩ ⟨by decide, by decide⟩ (tb_8 72 rfl rfl) (tb_1 12 rfl rfl) (tb_8 69 rfl rfl) (tb_8 71 rfl rfl) (tb_0 42 rfl rfl) (show yX12_set.cls ≠ "java/lang/invoke/MethodHandle" ∧ yX12_set.cls ≠ "java/lang/invoke/VarHandle" ∧ (parseMethodDescriptor yX12_set.desc).map (fun d => d.parameters.length) = some 2 by decide +kernel) zs_blind (zs_ob hh244 ha (show RTg[11]? = some (0, 11, 0, fsX12) from rfl) (zCX12 hKn.1)) (fun U hU hW => ⟨rfl, by rw [hU]; exact hh244.l0, zKb s U hW.alike hKn, by rw [hU]; exact jg244⟩) hh244.2.2.1 hl.1 (Nat.le_of_ble_eq_true rfl) (eX12_readDate (209, .invokevirtual 357, 3) (List.mem_of_getElem? (i := 108) rfl)) (fun r247 s247 t247 lo247 g247 f247 l247 => ?_)
          obtain ⟨q247, z247, c247, jg247⟩ := f247
          cases q247
          rw [g247] at c247
          have hh247 : zh_ok D cA RTg ro sz H0 t247.heap lo247 := ⟨z247.1, z247.2.1, l247, z247.2.2.2⟩
          have kp247 := kp244.trans (c247.mono (ms' := gM) (by decide))
          have jg247 : jG D cA ro t247.heap a n (upF fj 1 (5)) h := by rw [← show v246.toInt = 5 by omega]; exact jg247
          have jv247 := jv244.kept ha c247 (by decide)
          have mf247_37 := (c247.1 a 11 37 11 0 fsX12 ha rfl (by decide) (by decide)).trans mf244_a_37
          refine W.eq (g2 := F0 m 212 ls []) rfl ?_
          refine lv_aload_n hx hb (eX12_readDate (212, .aload_n 0, 1) (List.mem_of_getElem? (i := 109) rfl)) rfl (lv_at hl 1 rfl) ?_
          refine ff_iconst hx hb (eX12_readDate (213, .iconst 4, 1) (List.mem_of_getElem? (i := 110) rfl)) (by decide) (by decide) (fun v248 e248 => ?_)
          refine ff_iconst hx hb (eX12_readDate (214, .iconst 2, 1) (List.mem_of_getElem? (i := 111) rfl)) (by decide) (by decide) (fun v249 e249 => ?_)
          refine tz_rowV (As := [.int v248, .int v249]) (st := []) (b := a) (C := RX12) (Ts := gT) hx hb hml hown h2 (fun _ h => h) (hX12_dateNumber l D cA ro sz H0 a v248 v249 4 2 T ((x2.2.1 + 1, x2.2.2)) n (upF fj 1 (5)) h ha hn1 hT (by omega) (by omega) (by decide) (by decide)) ⟨rfl, rfl⟩ ⟨by decide, by decide⟩ ⟨by decide, by decide⟩ (tb_8 76 rfl rfl) (tb_1 12 rfl rfl) (tb_8 73 rfl rfl) (tb_8 75 rfl rfl) (tb_0 43 rfl rfl) (show yX12_dateNumber.cls ≠ "java/lang/invoke/MethodHandle" ∧ yX12_dateNumber.cls ≠ "java/lang/invoke/VarHandle" ∧ (parseMethodDescriptor yX12_dateNumber.desc).map (fun d => d.parameters.length) = some 2 by decide +kernel) zs_blind (zs_ob hh247 ha (show RTg[11]? = some (0, 11, 0, fsX12) from rfl) (zCX12 hKn.1)) (fun U hU hW => ⟨rfl, by rw [hU]; exact hh247.l0, zKb s U hW.alike hKn, by rw [hU]; exact ⟨jv247, jg247⟩⟩) hh247.2.2.1 hl.1 (Nat.le_of_ble_eq_true rfl) (eX12_readDate (215, .invokevirtual 369, 3) (List.mem_of_getElem? (i := 112) rfl)) (fun r250 s250 t250 lo250 g250 f250 l250 => ?_)
          obtain ⟨q250, z250, c250, jv250, jg250⟩ := f250
          cases q250
          rw [g250] at c250
          have hh250 : zh_ok D cA RTg ro sz H0 t250.heap lo250 := ⟨z250.1, z250.2.1, l250, z250.2.2.2⟩
          have kp250 := kp247.trans (c250.mono (ms' := gM) (by decide))
          generalize hx250 : nuG T 4 2 ((upF fj 1 (5)), (x2.2.1 + 1, x2.2.2)) = x250 at jv250 jg250
          have uu250 := jv250.2.2
          unfold vOK at uu250
          have bb250 := byI_bd T x250.2.1
          have mf250_37 := (c250.1 a 11 37 11 0 fsX12 ha rfl (by decide) (by decide)).trans mf247_37
          have nb250 : 0 ≤ x250.1 4 ∧ x250.1 4 ≤ 99 := by rw [← hx250]; exact nuG_bd (by decide)
          refine W.eq (g2 := F0 m 218 ls []) rfl ?_
          refine lv_aload_n hx hb (eX12_readDate (218, .aload_n 0, 1) (List.mem_of_getElem? (i := 113) rfl)) rfl (lv_at hl 1 rfl) ?_
          refine tz_rowV (As := []) (st := []) (b := a) (C := RX12) (Ts := gT) hx hb hml hown h2 (fun _ h => h) (hX12_isGood l D cA ro sz H0 a T (x250.2) ha) ⟨rfl, rfl⟩ ⟨by decide, by decide⟩ ⟨by decide, by decide⟩ (tb_8 17 rfl rfl) (tb_1 12 rfl rfl) (tb_8 14 rfl rfl) (tb_8 16 rfl rfl) (tb_0 31 rfl rfl) (show yX12_isGood.cls ≠ "java/lang/invoke/MethodHandle" ∧ yX12_isGood.cls ≠ "java/lang/invoke/VarHandle" ∧ (parseMethodDescriptor yX12_isGood.desc).map (fun d => d.parameters.length) = some 0 by decide +kernel) zs_blind (zs_ob hh250 ha (show RTg[11]? = some (0, 11, 0, fsX12) from rfl) (zCX12 hKn.1)) (fun U hU hW => ⟨rfl, by rw [hU]; exact hh250.l0, zKb s U hW.alike hKn, by rw [hU]; exact jv250⟩) hh250.2.2.1 hl.1 (Nat.le_of_ble_eq_true rfl) (eX12_readDate (219, .invokevirtual 305, 3) (List.mem_of_getElem? (i := 114) rfl)) (fun r251 s251 t251 lo251 g251 f251 l251 => ?_)
          obtain ⟨z251, v251, q251, e251⟩ := f251
          cases q251
          rw [z251, g251]
          have hh251 : zh_ok D cA RTg ro sz H0 t250.heap lo251 := ⟨hh250.1, hh250.2.1, l251, hh250.2.2.2⟩
          refine W.eq (g2 := F0 m 222 ls [.int v251]) rfl ?_
          refine ff_if_eq hx hb (eX12_readDate (222, .ifCond .eq 36, 3) (List.mem_of_getElem? (i := 115) rfl)) (tgt := 258) rfl (fun c252 => ?_) (fun c252 => ?_)
          · skip
            refine ff_iconst hx hb (eX12_readDate (258, .iconst 0, 1) (List.mem_of_getElem? (i := 130) rfl)) (by decide) (by decide) (fun v253 e253 => ?_)
            refine lv_istore hx hb (eX12_readDate (259, .istore 6, 2) (List.mem_of_getElem? (i := 131) rfl)) hl (by decide) rfl (fun ls254 hl254 => ?_)
            refine lv_iload hx hb (eX12_readDate (261, .iload 6, 2) (List.mem_of_getElem? (i := 132) rfl)) (lv_at hl254 0 rfl) ?_
            refine ff_if_ne hx hb (eX12_readDate (263, .ifCond .ne 7, 3) (List.mem_of_getElem? (i := 133) rfl)) (tgt := 270) rfl (fun c255 => (by exfalso; omega)) (fun c255 => ?_)
            refine lv_iload_n hx hb (eX12_readDate (266, .iload_n 1, 1) (List.mem_of_getElem? (i := 134) rfl)) rfl (lv_at hl254 3 rfl) ?_
            refine ff_if_eq hx hb (eX12_readDate (267, .ifCond .eq 29, 3) (List.mem_of_getElem? (i := 135) rfl)) (tgt := 296) rfl (fun c256 => ?_) (fun c256 => ?_)
            · skip
              have d257 : ¬ ((x250.2.2.1 < 0 ∧ ((x2.1 = 1 ∧ byI T x250.2.1 = 45) ∨ (¬ x2.1 = 1 ∧ isD (byI T x250.2.1)))) ∨ wh = 1) := by omega
              have hhd : hdG T (g, sg) = x2.1 := by simp only [hdG, hyr, hx2]
              have hfin : drG T wh (g, sg) = (x250.1, x250.2) := by first | (simp only [drG, hdG, beG, wkG, wk1G, wk2G, daG, da1G, da2G, plG, pl1G, pl2G, upS, ad1, hyr, hsd, hx2, hx250, if_pos d6, if_pos d181, if_pos d240, if_neg d257, up_eq, up_ne (show (4 : Nat) ≠ 1 by decide)]; done) | (simp only [drG, hdG, beG, wkG, wk1G, wk2G, daG, da1G, da2G, plG, pl1G, pl2G, upS, ad1, hyr, hsd, hx2, hx250, if_pos d6, if_pos d181, if_pos d240, if_neg d257, up_eq, up_ne (show (4 : Nat) ≠ 1 by decide)] <;> rfl) | rfl
              exact W.vret hx hb hr (fun t ht hW => ⟨rfl, by rw [ht]; exact hh251.l0, by rw [ht]; exact kp250, by rw [ht, hfin]; exact jv250, by rw [ht, hfin]; exact jg250, by rw [ht, hhd]; exact ⟨_, mf250_37, by omega⟩⟩) hh251.2.2.1 (eX12_readDate (296, .return_, 1) (List.mem_of_getElem? (i := 150) rfl))
            · skip
              have d258 : (x250.2.2.1 < 0 ∧ ((x2.1 = 1 ∧ byI T x250.2.1 = 45) ∨ (¬ x2.1 = 1 ∧ isD (byI T x250.2.1)))) ∨ wh = 1 := by omega
              refine lv_aload_n hx hb (eX12_readDate (270, .aload_n 0, 1) (List.mem_of_getElem? (i := 136) rfl)) rfl (lv_at hl254 2 rfl) ?_
              refine tz_get (r := 11) (k := 37) (t := (0, 0, 1)) hx hb hh251 ha rfl rfl (hcl11 365 37 (0, 0, 1) (by decide) rfl).1 mf250_37 (eX12_readDate (271, .getfield 365, 3) (List.mem_of_getElem? (i := 137) rfl)) ?_
              refine ff_if_eq hx hb (eX12_readDate (274, .ifCond .eq 9, 3) (List.mem_of_getElem? (i := 138) rfl)) (tgt := 283) rfl (fun c259 => (by exfalso; omega)) (fun c259 => ?_)
              refine lv_aload_n hx hb (eX12_readDate (277, .aload_n 0, 1) (List.mem_of_getElem? (i := 139) rfl)) rfl (lv_at hl254 2 rfl) ?_
              refine ff_bipush hx hb (eX12_readDate (278, .bipush 45, 2) (List.mem_of_getElem? (i := 140) rfl)) (by decide) (by decide) (fun v260 e260 => ?_)
              refine tz_rowV (As := [.int v260]) (st := []) (b := a) (C := RX12) (Ts := gT) hx hb hml hown h2 (fun _ h => h) (hX12_expect l D cA ro sz H0 a v260 45 T (x250.2) ha (by omega) (by decide)) ⟨rfl, rfl⟩ ⟨by decide, by decide⟩ ⟨by decide, by decide⟩ (tb_8 35 rfl rfl) (tb_1 12 rfl rfl) (tb_8 32 rfl rfl) (tb_8 34 rfl rfl) (tb_0 34 rfl rfl) (show yX12_expect.cls ≠ "java/lang/invoke/MethodHandle" ∧ yX12_expect.cls ≠ "java/lang/invoke/VarHandle" ∧ (parseMethodDescriptor yX12_expect.desc).map (fun d => d.parameters.length) = some 1 by decide +kernel) zs_blind (zs_ob hh251 ha (show RTg[11]? = some (0, 11, 0, fsX12) from rfl) (zCX12 hKn.1)) (fun U hU hW => ⟨rfl, by rw [hU]; exact hh251.l0, zKb s U hW.alike hKn, by rw [hU]; exact jv250⟩) hh251.2.2.1 hl254.1 (Nat.le_of_ble_eq_true rfl) (eX12_readDate (280, .invokevirtual 325, 3) (List.mem_of_getElem? (i := 141) rfl)) (fun r261 s261 t261 lo261 g261 f261 l261 => ?_)
              obtain ⟨q261, z261, c261, jv261⟩ := f261
              cases q261
              rw [g261] at c261
              have hh261 : zh_ok D cA RTg ro sz H0 t261.heap lo261 := ⟨z261.1, z261.2.1, l261, z261.2.2.2⟩
              have kp261 := kp250.trans (c261.mono (ms' := gM) (by decide))
              generalize hx261 : exG T 45 x250.2 = x261 at jv261
              have uu261 := jv261.2.2
              unfold vOK at uu261
              have bb261 := byI_bd T x261.1
              have jg261 := jg250.kept ha c261 (by decide)
              have mf261_37 := (c261.1 a 11 37 11 0 fsX12 ha rfl (by decide) (by decide)).trans mf250_37
              refine W.eq (g2 := F0 m 283 ls254 []) rfl ?_
              refine lv_aload_n hx hb (eX12_readDate (283, .aload_n 0, 1) (List.mem_of_getElem? (i := 142) rfl)) rfl (lv_at hl254 2 rfl) ?_
              refine ff_iconst hx hb (eX12_readDate (284, .iconst 1, 1) (List.mem_of_getElem? (i := 143) rfl)) (by decide) (by decide) (fun v262 e262 => ?_)
              refine ff_lconst hx hb (eX12_readDate (285, .lconst 1, 1) (List.mem_of_getElem? (i := 144) rfl)) rfl (fun v263 e263 => ?_)
              refine tz_rowV (As := [.int v262, .long v263]) (st := []) (b := a) (C := RX12) (Ts := gT) hx hb hml hown h2 (fun _ h => h) (hX12_set l D cA ro sz H0 a v262 v263 1 n x250.1 h ha hn1 (by omega) (by decide)) ⟨rfl, rfl⟩ ⟨by decide, by decide⟩ ⟨by decide, by decide⟩ (tb_8 72 rfl rfl) (tb_1 12 rfl rfl) (tb_8 69 rfl rfl) (tb_8 71 rfl rfl) (tb_0 42 rfl rfl) (show yX12_set.cls ≠ "java/lang/invoke/MethodHandle" ∧ yX12_set.cls ≠ "java/lang/invoke/VarHandle" ∧ (parseMethodDescriptor yX12_set.desc).map (fun d => d.parameters.length) = some 2 by decide +kernel) zs_blind (zs_ob hh261 ha (show RTg[11]? = some (0, 11, 0, fsX12) from rfl) (zCX12 hKn.1)) (fun U hU hW => ⟨rfl, by rw [hU]; exact hh261.l0, zKb s U hW.alike hKn, by rw [hU]; exact jg261⟩) hh261.2.2.1 hl254.1 (Nat.le_of_ble_eq_true rfl) (eX12_readDate (286, .invokevirtual 357, 3) (List.mem_of_getElem? (i := 145) rfl)) (fun r264 s264 t264 lo264 g264 f264 l264 => ?_)
              obtain ⟨q264, z264, c264, jg264⟩ := f264
              cases q264
              rw [g264] at c264
              have hh264 : zh_ok D cA RTg ro sz H0 t264.heap lo264 := ⟨z264.1, z264.2.1, l264, z264.2.2.2⟩
              have kp264 := kp261.trans (c264.mono (ms' := gM) (by decide))
              have jg264 : jG D cA ro t264.heap a n (upF x250.1 1 (1)) h := by rw [← show v263.toInt = 1 by omega]; exact jg264
              have jv264 := jv261.kept ha c264 (by decide)
              have mf264_37 := (c264.1 a 11 37 11 0 fsX12 ha rfl (by decide) (by decide)).trans mf261_37
              refine W.eq (g2 := F0 m 289 ls254 []) rfl ?_
              refine lv_aload_n hx hb (eX12_readDate (289, .aload_n 0, 1) (List.mem_of_getElem? (i := 146) rfl)) rfl (lv_at hl254 2 rfl) ?_
              refine ff_bipush hx hb (eX12_readDate (290, .bipush 6, 2) (List.mem_of_getElem? (i := 147) rfl)) (by decide) (by decide) (fun v265 e265 => ?_)
              refine ff_iconst hx hb (eX12_readDate (292, .iconst 1, 1) (List.mem_of_getElem? (i := 148) rfl)) (by decide) (by decide) (fun v266 e266 => ?_)
              refine tz_rowV (As := [.int v265, .int v266]) (st := []) (b := a) (C := RX12) (Ts := gT) hx hb hml hown h2 (fun _ h => h) (hX12_dateNumber l D cA ro sz H0 a v265 v266 6 1 T (x261) n (upF x250.1 1 (1)) h ha hn1 hT (by omega) (by omega) (by decide) (by decide)) ⟨rfl, rfl⟩ ⟨by decide, by decide⟩ ⟨by decide, by decide⟩ (tb_8 76 rfl rfl) (tb_1 12 rfl rfl) (tb_8 73 rfl rfl) (tb_8 75 rfl rfl) (tb_0 43 rfl rfl) (show yX12_dateNumber.cls ≠ "java/lang/invoke/MethodHandle" ∧ yX12_dateNumber.cls ≠ "java/lang/invoke/VarHandle" ∧ (parseMethodDescriptor yX12_dateNumber.desc).map (fun d => d.parameters.length) = some 2 by decide +kernel) zs_blind (zs_ob hh264 ha (show RTg[11]? = some (0, 11, 0, fsX12) from rfl) (zCX12 hKn.1)) (fun U hU hW => ⟨rfl, by rw [hU]; exact hh264.l0, zKb s U hW.alike hKn, by rw [hU]; exact ⟨jv264, jg264⟩⟩) hh264.2.2.1 hl254.1 (Nat.le_of_ble_eq_true rfl) (eX12_readDate (293, .invokevirtual 369, 3) (List.mem_of_getElem? (i := 149) rfl)) (fun r267 s267 t267 lo267 g267 f267 l267 => ?_)
              obtain ⟨q267, z267, c267, jv267, jg267⟩ := f267
              cases q267
              rw [g267] at c267
              have hh267 : zh_ok D cA RTg ro sz H0 t267.heap lo267 := ⟨z267.1, z267.2.1, l267, z267.2.2.2⟩
              have kp267 := kp264.trans (c267.mono (ms' := gM) (by decide))
              generalize hx267 : nuG T 6 1 ((upF x250.1 1 (1)), x261) = x267 at jv267 jg267
              have uu267 := jv267.2.2
              unfold vOK at uu267
              have bb267 := byI_bd T x267.2.1
              have mf267_37 := (c267.1 a 11 37 11 0 fsX12 ha rfl (by decide) (by decide)).trans mf264_37
              have nb267 : 0 ≤ x267.1 6 ∧ x267.1 6 ≤ 9 := by rw [← hx267]; exact nuG_bd (by decide)
              refine W.eq (g2 := F0 m 296 ls254 []) rfl ?_
              have hhd : hdG T (g, sg) = x2.1 := by simp only [hdG, hyr, hx2]
              have hfin : drG T wh (g, sg) = (x267.1, x267.2) := by first | (simp only [drG, hdG, beG, wkG, wk1G, wk2G, daG, da1G, da2G, plG, pl1G, pl2G, upS, ad1, hyr, hsd, hx2, hx250, hx261, hx267, if_pos d6, if_pos d181, if_pos d240, if_pos d258, up_eq, up_ne (show (4 : Nat) ≠ 1 by decide)]; done) | (simp only [drG, hdG, beG, wkG, wk1G, wk2G, daG, da1G, da2G, plG, pl1G, pl2G, upS, ad1, hyr, hsd, hx2, hx250, hx261, hx267, if_pos d6, if_pos d181, if_pos d240, if_pos d258, up_eq, up_ne (show (4 : Nat) ≠ 1 by decide)] <;> rfl) | rfl
              exact W.vret hx hb hr (fun t ht hW => ⟨rfl, by rw [ht]; exact hh267.l0, by rw [ht]; exact kp267, by rw [ht, hfin]; exact jv267, by rw [ht, hfin]; exact jg267, by rw [ht, hhd]; exact ⟨_, mf267_37, by omega⟩⟩) hh267.2.2.1 (eX12_readDate (296, .return_, 1) (List.mem_of_getElem? (i := 150) rfl))
          · skip
            refine lv_aload_n hx hb (eX12_readDate (225, .aload_n 0, 1) (List.mem_of_getElem? (i := 116) rfl)) rfl (lv_at hl 1 rfl) ?_
            refine tz_get (r := 11) (k := 37) (t := (0, 0, 1)) hx hb hh251 ha rfl rfl (hcl11 365 37 (0, 0, 1) (by decide) rfl).1 mf250_37 (eX12_readDate (226, .getfield 365, 3) (List.mem_of_getElem? (i := 117) rfl)) ?_
            refine ff_if_eq hx hb (eX12_readDate (229, .ifCond .eq 15, 3) (List.mem_of_getElem? (i := 118) rfl)) (tgt := 244) rfl (fun c268 => (by exfalso; omega)) (fun c268 => ?_)
            refine lv_aload_n hx hb (eX12_readDate (232, .aload_n 0, 1) (List.mem_of_getElem? (i := 119) rfl)) rfl (lv_at hl 1 rfl) ?_
            refine tz_rowV (As := []) (st := []) (b := a) (C := RX12) (Ts := gT) hx hb hml hown h2 (fun _ h => h) (hX12_sign l D cA ro sz H0 a T (x250.2) ha) ⟨rfl, rfl⟩ ⟨by decide, by decide⟩ ⟨by decide, by decide⟩ (tb_8 21 rfl rfl) (tb_1 12 rfl rfl) (tb_8 18 rfl rfl) (tb_8 20 rfl rfl) (tb_0 32 rfl rfl) (show yX12_sign.cls ≠ "java/lang/invoke/MethodHandle" ∧ yX12_sign.cls ≠ "java/lang/invoke/VarHandle" ∧ (parseMethodDescriptor yX12_sign.desc).map (fun d => d.parameters.length) = some 0 by decide +kernel) zs_blind (zs_ob hh251 ha (show RTg[11]? = some (0, 11, 0, fsX12) from rfl) (zCX12 hKn.1)) (fun U hU hW => ⟨rfl, by rw [hU]; exact hh251.l0, zKb s U hW.alike hKn, by rw [hU]; exact jv250⟩) hh251.2.2.1 hl.1 (Nat.le_of_ble_eq_true rfl) (eX12_readDate (233, .invokevirtual 309, 3) (List.mem_of_getElem? (i := 120) rfl)) (fun r269 s269 t269 lo269 g269 f269 l269 => ?_)
            obtain ⟨z269, v269, q269, e269⟩ := f269
            cases q269
            rw [z269, g269]
            have hh269 : zh_ok D cA RTg ro sz H0 t250.heap lo269 := ⟨hh251.1, hh251.2.1, l269, hh251.2.2.2⟩
            refine W.eq (g2 := F0 m 236 ls [.int v269]) rfl ?_
            refine ff_bipush hx hb (eX12_readDate (236, .bipush 45, 2) (List.mem_of_getElem? (i := 121) rfl)) (by decide) (by decide) (fun v270 e270 => ?_)
            refine ff_icmp_ne hx hb (eX12_readDate (238, .if_icmp .ne 20, 3) (List.mem_of_getElem? (i := 122) rfl)) (tgt := 258) rfl (fun c271 => ?_) (fun c271 => ?_)
            · skip
              refine ff_iconst hx hb (eX12_readDate (258, .iconst 0, 1) (List.mem_of_getElem? (i := 130) rfl)) (by decide) (by decide) (fun v272 e272 => ?_)
              refine lv_istore hx hb (eX12_readDate (259, .istore 6, 2) (List.mem_of_getElem? (i := 131) rfl)) hl (by decide) rfl (fun ls273 hl273 => ?_)
              refine lv_iload hx hb (eX12_readDate (261, .iload 6, 2) (List.mem_of_getElem? (i := 132) rfl)) (lv_at hl273 0 rfl) ?_
              refine ff_if_ne hx hb (eX12_readDate (263, .ifCond .ne 7, 3) (List.mem_of_getElem? (i := 133) rfl)) (tgt := 270) rfl (fun c274 => (by exfalso; omega)) (fun c274 => ?_)
              refine lv_iload_n hx hb (eX12_readDate (266, .iload_n 1, 1) (List.mem_of_getElem? (i := 134) rfl)) rfl (lv_at hl273 3 rfl) ?_
              refine ff_if_eq hx hb (eX12_readDate (267, .ifCond .eq 29, 3) (List.mem_of_getElem? (i := 135) rfl)) (tgt := 296) rfl (fun c275 => ?_) (fun c275 => ?_)
              · skip
                have d276 : ¬ ((x250.2.2.1 < 0 ∧ ((x2.1 = 1 ∧ byI T x250.2.1 = 45) ∨ (¬ x2.1 = 1 ∧ isD (byI T x250.2.1)))) ∨ wh = 1) := by omega
                have hhd : hdG T (g, sg) = x2.1 := by simp only [hdG, hyr, hx2]
                have hfin : drG T wh (g, sg) = (x250.1, x250.2) := by first | (simp only [drG, hdG, beG, wkG, wk1G, wk2G, daG, da1G, da2G, plG, pl1G, pl2G, upS, ad1, hyr, hsd, hx2, hx250, if_pos d6, if_pos d181, if_pos d240, if_neg d276, up_eq, up_ne (show (4 : Nat) ≠ 1 by decide)]; done) | (simp only [drG, hdG, beG, wkG, wk1G, wk2G, daG, da1G, da2G, plG, pl1G, pl2G, upS, ad1, hyr, hsd, hx2, hx250, if_pos d6, if_pos d181, if_pos d240, if_neg d276, up_eq, up_ne (show (4 : Nat) ≠ 1 by decide)] <;> rfl) | rfl
                exact W.vret hx hb hr (fun t ht hW => ⟨rfl, by rw [ht]; exact hh269.l0, by rw [ht]; exact kp250, by rw [ht, hfin]; exact jv250, by rw [ht, hfin]; exact jg250, by rw [ht, hhd]; exact ⟨_, mf250_37, by omega⟩⟩) hh269.2.2.1 (eX12_readDate (296, .return_, 1) (List.mem_of_getElem? (i := 150) rfl))
              · skip
                have d277 : (x250.2.2.1 < 0 ∧ ((x2.1 = 1 ∧ byI T x250.2.1 = 45) ∨ (¬ x2.1 = 1 ∧ isD (byI T x250.2.1)))) ∨ wh = 1 := by omega
                refine lv_aload_n hx hb (eX12_readDate (270, .aload_n 0, 1) (List.mem_of_getElem? (i := 136) rfl)) rfl (lv_at hl273 2 rfl) ?_
                refine tz_get (r := 11) (k := 37) (t := (0, 0, 1)) hx hb hh269 ha rfl rfl (hcl11 365 37 (0, 0, 1) (by decide) rfl).1 mf250_37 (eX12_readDate (271, .getfield 365, 3) (List.mem_of_getElem? (i := 137) rfl)) ?_
                refine ff_if_eq hx hb (eX12_readDate (274, .ifCond .eq 9, 3) (List.mem_of_getElem? (i := 138) rfl)) (tgt := 283) rfl (fun c278 => (by exfalso; omega)) (fun c278 => ?_)
                refine lv_aload_n hx hb (eX12_readDate (277, .aload_n 0, 1) (List.mem_of_getElem? (i := 139) rfl)) rfl (lv_at hl273 2 rfl) ?_
                refine ff_bipush hx hb (eX12_readDate (278, .bipush 45, 2) (List.mem_of_getElem? (i := 140) rfl)) (by decide) (by decide) (fun v279 e279 => ?_)
                refine tz_rowV (As := [.int v279]) (st := []) (b := a) (C := RX12) (Ts := gT) hx hb hml hown h2 (fun _ h => h) (hX12_expect l D cA ro sz H0 a v279 45 T (x250.2) ha (by omega) (by decide)) ⟨rfl, rfl⟩ ⟨by decide, by decide⟩ ⟨by decide, by decide⟩ (tb_8 35 rfl rfl) (tb_1 12 rfl rfl) (tb_8 32 rfl rfl) (tb_8 34 rfl rfl) (tb_0 34 rfl rfl) (show yX12_expect.cls ≠ "java/lang/invoke/MethodHandle" ∧ yX12_expect.cls ≠ "java/lang/invoke/VarHandle" ∧ (parseMethodDescriptor yX12_expect.desc).map (fun d => d.parameters.length) = some 1 by decide +kernel) zs_blind (zs_ob hh269 ha (show RTg[11]? = some (0, 11, 0, fsX12) from rfl) (zCX12 hKn.1)) (fun U hU hW => ⟨rfl, by rw [hU]; exact hh269.l0, zKb s U hW.alike hKn, by rw [hU]; exact jv250⟩) hh269.2.2.1 hl273.1 (Nat.le_of_ble_eq_true rfl) (eX12_readDate (280, .invokevirtual 325, 3) (List.mem_of_getElem? (i := 141) rfl)) (fun r280 s280 t280 lo280 g280 f280 l280 => ?_)
                obtain ⟨q280, z280, c280, jv280⟩ := f280
                cases q280
                rw [g280] at c280
                have hh280 : zh_ok D cA RTg ro sz H0 t280.heap lo280 := ⟨z280.1, z280.2.1, l280, z280.2.2.2⟩
                have kp280 := kp250.trans (c280.mono (ms' := gM) (by decide))
                generalize hx280 : exG T 45 x250.2 = x280 at jv280
                have uu280 := jv280.2.2
                unfold vOK at uu280
                have bb280 := byI_bd T x280.1
                have jg280 := jg250.kept ha c280 (by decide)
                have mf280_37 := (c280.1 a 11 37 11 0 fsX12 ha rfl (by decide) (by decide)).trans mf250_37
                refine W.eq (g2 := F0 m 283 ls273 []) rfl ?_
                refine lv_aload_n hx hb (eX12_readDate (283, .aload_n 0, 1) (List.mem_of_getElem? (i := 142) rfl)) rfl (lv_at hl273 2 rfl) ?_
                refine ff_iconst hx hb (eX12_readDate (284, .iconst 1, 1) (List.mem_of_getElem? (i := 143) rfl)) (by decide) (by decide) (fun v281 e281 => ?_)
                refine ff_lconst hx hb (eX12_readDate (285, .lconst 1, 1) (List.mem_of_getElem? (i := 144) rfl)) rfl (fun v282 e282 => ?_)
                refine tz_rowV (As := [.int v281, .long v282]) (st := []) (b := a) (C := RX12) (Ts := gT) hx hb hml hown h2 (fun _ h => h) (hX12_set l D cA ro sz H0 a v281 v282 1 n x250.1 h ha hn1 (by omega) (by decide)) ⟨rfl, rfl⟩ ⟨by decide, by decide⟩ ⟨by decide, by decide⟩ (tb_8 72 rfl rfl) (tb_1 12 rfl rfl) (tb_8 69 rfl rfl) (tb_8 71 rfl rfl) (tb_0 42 rfl rfl) (show yX12_set.cls ≠ "java/lang/invoke/MethodHandle" ∧ yX12_set.cls ≠ "java/lang/invoke/VarHandle" ∧ (parseMethodDescriptor yX12_set.desc).map (fun d => d.parameters.length) = some 2 by decide +kernel) zs_blind (zs_ob hh280 ha (show RTg[11]? = some (0, 11, 0, fsX12) from rfl) (zCX12 hKn.1)) (fun U hU hW => ⟨rfl, by rw [hU]; exact hh280.l0, zKb s U hW.alike hKn, by rw [hU]; exact jg280⟩) hh280.2.2.1 hl273.1 (Nat.le_of_ble_eq_true rfl) (eX12_readDate (286, .invokevirtual 357, 3) (List.mem_of_getElem? (i := 145) rfl)) (fun r283 s283 t283 lo283 g283 f283 l283 => ?_)
                obtain ⟨q283, z283, c283, jg283⟩ := f283
                cases q283
                rw [g283] at c283
                have hh283 : zh_ok D cA RTg ro sz H0 t283.heap lo283 := ⟨z283.1, z283.2.1, l283, z283.2.2.2⟩
                have kp283 := kp280.trans (c283.mono (ms' := gM) (by decide))
                have jg283 : jG D cA ro t283.heap a n (upF x250.1 1 (1)) h := by rw [← show v282.toInt = 1 by omega]; exact jg283
                have jv283 := jv280.kept ha c283 (by decide)
                have mf283_37 := (c283.1 a 11 37 11 0 fsX12 ha rfl (by decide) (by decide)).trans mf280_37
                refine W.eq (g2 := F0 m 289 ls273 []) rfl ?_
                refine lv_aload_n hx hb (eX12_readDate (289, .aload_n 0, 1) (List.mem_of_getElem? (i := 146) rfl)) rfl (lv_at hl273 2 rfl) ?_
                refine ff_bipush hx hb (eX12_readDate (290, .bipush 6, 2) (List.mem_of_getElem? (i := 147) rfl)) (by decide) (by decide) (fun v284 e284 => ?_)
                refine ff_iconst hx hb (eX12_readDate (292, .iconst 1, 1) (List.mem_of_getElem? (i := 148) rfl)) (by decide) (by decide) (fun v285 e285 => ?_)
                refine tz_rowV (As := [.int v284, .int v285]) (st := []) (b := a) (C := RX12) (Ts := gT) hx hb hml hown h2 (fun _ h => h) (hX12_dateNumber l D cA ro sz H0 a v284 v285 6 1 T (x280) n (upF x250.1 1 (1)) h ha hn1 hT (by omega) (by omega) (by decide) (by decide)) ⟨rfl, rfl⟩ ⟨by decide, by decide⟩ ⟨by decide, by decide⟩ (tb_8 76 rfl rfl) (tb_1 12 rfl rfl) (tb_8 73 rfl rfl) (tb_8 75 rfl rfl) (tb_0 43 rfl rfl) (show yX12_dateNumber.cls ≠ "java/lang/invoke/MethodHandle" ∧ yX12_dateNumber.cls ≠ "java/lang/invoke/VarHandle" ∧ (parseMethodDescriptor yX12_dateNumber.desc).map (fun d => d.parameters.length) = some 2 by decide +kernel) zs_blind (zs_ob hh283 ha (show RTg[11]? = some (0, 11, 0, fsX12) from rfl) (zCX12 hKn.1)) (fun U hU hW => ⟨rfl, by rw [hU]; exact hh283.l0, zKb s U hW.alike hKn, by rw [hU]; exact ⟨jv283, jg283⟩⟩) hh283.2.2.1 hl273.1 (Nat.le_of_ble_eq_true rfl) (eX12_readDate (293, .invokevirtual 369, 3) (List.mem_of_getElem? (i := 149) rfl)) (fun r286 s286 t286 lo286 g286 f286 l286 => ?_)
                obtain ⟨q286, z286, c286, jv286, jg286⟩ := f286
                cases q286
                rw [g286] at c286
                have hh286 : zh_ok D cA RTg ro sz H0 t286.heap lo286 := ⟨z286.1, z286.2.1, l286, z286.2.2.2⟩
                have kp286 := kp283.trans (c286.mono (ms' := gM) (by decide))
                generalize hx286 : nuG T 6 1 ((upF x250.1 1 (1)), x280) = x286 at jv286 jg286
                have uu286 := jv286.2.2
                unfold vOK at uu286
                have bb286 := byI_bd T x286.2.1
                have mf286_37 := (c286.1 a 11 37 11 0 fsX12 ha rfl (by decide) (by decide)).trans mf283_37
                have nb286 : 0 ≤ x286.1 6 ∧ x286.1 6 ≤ 9 := by rw [← hx286]; exact nuG_bd (by decide)
                refine W.eq (g2 := F0 m 296 ls273 []) rfl ?_
                have hhd : hdG T (g, sg) = x2.1 := by simp only [hdG, hyr, hx2]
                have hfin : drG T wh (g, sg) = (x286.1, x286.2) := by first | (simp only [drG, hdG, beG, wkG, wk1G, wk2G, daG, da1G, da2G, plG, pl1G, pl2G, upS, ad1, hyr, hsd, hx2, hx250, hx280, hx286, if_pos d6, if_pos d181, if_pos d240, if_pos d277, up_eq, up_ne (show (4 : Nat) ≠ 1 by decide)]; done) | (simp only [drG, hdG, beG, wkG, wk1G, wk2G, daG, da1G, da2G, plG, pl1G, pl2G, upS, ad1, hyr, hsd, hx2, hx250, hx280, hx286, if_pos d6, if_pos d181, if_pos d240, if_pos d277, up_eq, up_ne (show (4 : Nat) ≠ 1 by decide)] <;> rfl) | rfl
                exact W.vret hx hb hr (fun t ht hW => ⟨rfl, by rw [ht]; exact hh286.l0, by rw [ht]; exact kp286, by rw [ht, hfin]; exact jv286, by rw [ht, hfin]; exact jg286, by rw [ht, hhd]; exact ⟨_, mf286_37, by omega⟩⟩) hh286.2.2.1 (eX12_readDate (296, .return_, 1) (List.mem_of_getElem? (i := 150) rfl))
            · skip
              refine lv_goto hx hb (eX12_readDate (241, .goto 13, 3) (List.mem_of_getElem? (i := 123) rfl)) (tgt := 254) rfl ?_
              refine ff_iconst hx hb (eX12_readDate (254, .iconst 1, 1) (List.mem_of_getElem? (i := 128) rfl)) (by decide) (by decide) (fun v287 e287 => ?_)
              refine lv_goto hx hb (eX12_readDate (255, .goto 4, 3) (List.mem_of_getElem? (i := 129) rfl)) (tgt := 259) rfl ?_
              refine lv_istore hx hb (eX12_readDate (259, .istore 6, 2) (List.mem_of_getElem? (i := 131) rfl)) hl (by decide) rfl (fun ls288 hl288 => ?_)
              refine lv_iload hx hb (eX12_readDate (261, .iload 6, 2) (List.mem_of_getElem? (i := 132) rfl)) (lv_at hl288 0 rfl) ?_
              refine ff_if_ne hx hb (eX12_readDate (263, .ifCond .ne 7, 3) (List.mem_of_getElem? (i := 133) rfl)) (tgt := 270) rfl (fun c289 => ?_) (fun c289 => (by exfalso; omega))
              have d290 : (x250.2.2.1 < 0 ∧ ((x2.1 = 1 ∧ byI T x250.2.1 = 45) ∨ (¬ x2.1 = 1 ∧ isD (byI T x250.2.1)))) ∨ wh = 1 := by omega
              refine lv_aload_n hx hb (eX12_readDate (270, .aload_n 0, 1) (List.mem_of_getElem? (i := 136) rfl)) rfl (lv_at hl288 2 rfl) ?_
              refine tz_get (r := 11) (k := 37) (t := (0, 0, 1)) hx hb hh269 ha rfl rfl (hcl11 365 37 (0, 0, 1) (by decide) rfl).1 mf250_37 (eX12_readDate (271, .getfield 365, 3) (List.mem_of_getElem? (i := 137) rfl)) ?_
              refine ff_if_eq hx hb (eX12_readDate (274, .ifCond .eq 9, 3) (List.mem_of_getElem? (i := 138) rfl)) (tgt := 283) rfl (fun c291 => (by exfalso; omega)) (fun c291 => ?_)
              refine lv_aload_n hx hb (eX12_readDate (277, .aload_n 0, 1) (List.mem_of_getElem? (i := 139) rfl)) rfl (lv_at hl288 2 rfl) ?_
              refine ff_bipush hx hb (eX12_readDate (278, .bipush 45, 2) (List.mem_of_getElem? (i := 140) rfl)) (by decide) (by decide) (fun v292 e292 => ?_)
              refine tz_rowV (As := [.int v292]) (st := []) (b := a) (C := RX12) (Ts := gT) hx hb hml hown h2 (fun _ h => h) (hX12_expect l D cA ro sz H0 a v292 45 T (x250.2) ha (by omega) (by decide)) ⟨rfl, rfl⟩ ⟨by decide, by decide⟩ ⟨by decide, by decide⟩ (tb_8 35 rfl rfl) (tb_1 12 rfl rfl) (tb_8 32 rfl rfl) (tb_8 34 rfl rfl) (tb_0 34 rfl rfl) (show yX12_expect.cls ≠ "java/lang/invoke/MethodHandle" ∧ yX12_expect.cls ≠ "java/lang/invoke/VarHandle" ∧ (parseMethodDescriptor yX12_expect.desc).map (fun d => d.parameters.length) = some 1 by decide +kernel) zs_blind (zs_ob hh269 ha (show RTg[11]? = some (0, 11, 0, fsX12) from rfl) (zCX12 hKn.1)) (fun U hU hW => ⟨rfl, by rw [hU]; exact hh269.l0, zKb s U hW.alike hKn, by rw [hU]; exact jv250⟩) hh269.2.2.1 hl288.1 (Nat.le_of_ble_eq_true rfl) (eX12_readDate (280, .invokevirtual 325, 3) (List.mem_of_getElem? (i := 141) rfl)) (fun r293 s293 t293 lo293 g293 f293 l293 => ?_)
              obtain ⟨q293, z293, c293, jv293⟩ := f293
              cases q293
              rw [g293] at c293
              have hh293 : zh_ok D cA RTg ro sz H0 t293.heap lo293 := ⟨z293.1, z293.2.1, l293, z293.2.2.2⟩
              have kp293 := kp250.trans (c293.mono (ms' := gM) (by decide))
              generalize hx293 : exG T 45 x250.2 = x293 at jv293
              have uu293 := jv293.2.2
              unfold vOK at uu293
              have bb293 := byI_bd T x293.1
              have jg293 := jg250.kept ha c293 (by decide)
              have mf293_37 := (c293.1 a 11 37 11 0 fsX12 ha rfl (by decide) (by decide)).trans mf250_37
              refine W.eq (g2 := F0 m 283 ls288 []) rfl ?_
              refine lv_aload_n hx hb (eX12_readDate (283, .aload_n 0, 1) (List.mem_of_getElem? (i := 142) rfl)) rfl (lv_at hl288 2 rfl) ?_
              refine ff_iconst hx hb (eX12_readDate (284, .iconst 1, 1) (List.mem_of_getElem? (i := 143) rfl)) (by decide) (by decide) (fun v294 e294 => ?_)
              refine ff_lconst hx hb (eX12_readDate (285, .lconst 1, 1) (List.mem_of_getElem? (i := 144) rfl)) rfl (fun v295 e295 => ?_)
              refine tz_rowV (As := [.int v294, .long v295]) (st := []) (b := a) (C := RX12) (Ts := gT) hx hb hml hown h2 (fun _ h => h) (hX12_set l D cA ro sz H0 a v294 v295 1 n x250.1 h ha hn1 (by omega) (by decide)) ⟨rfl, rfl⟩ ⟨by decide, by decide⟩ ⟨by decide, by decide⟩ (tb_8 72 rfl rfl) (tb_1 12 rfl rfl) (tb_8 69 rfl rfl) (tb_8 71 rfl rfl) (tb_0 42 rfl rfl) (show yX12_set.cls ≠ "java/lang/invoke/MethodHandle" ∧ yX12_set.cls ≠ "java/lang/invoke/VarHandle" ∧ (parseMethodDescriptor yX12_set.desc).map (fun d => d.parameters.length) = some 2 by decide +kernel) zs_blind (zs_ob hh293 ha (show RTg[11]? = some (0, 11, 0, fsX12) from rfl) (zCX12 hKn.1)) (fun U hU hW => ⟨rfl, by rw [hU]; exact hh293.l0, zKb s U hW.alike hKn, by rw [hU]; exact jg293⟩) hh293.2.2.1 hl288.1 (Nat.le_of_ble_eq_true rfl) (eX12_readDate (286, .invokevirtual 357, 3) (List.mem_of_getElem? (i := 145) rfl)) (fun r296 s296 t296 lo296 g296 f296 l296 => ?_)
              obtain ⟨q296, z296, c296, jg296⟩ := f296
              cases q296
              rw [g296] at c296
              have hh296 : zh_ok D cA RTg ro sz H0 t296.heap lo296 := ⟨z296.1, z296.2.1, l296, z296.2.2.2⟩
              have kp296 := kp293.trans (c296.mono (ms' := gM) (by decide))
              have jg296 : jG D cA ro t296.heap a n (upF x250.1 1 (1)) h := by rw [← show v295.toInt = 1 by omega]; exact jg296
              have jv296 := jv293.kept ha c296 (by decide)
              have mf296_37 := (c296.1 a 11 37 11 0 fsX12 ha rfl (by decide) (by decide)).trans mf293_37
              refine W.eq (g2 := F0 m 289 ls288 []) rfl ?_
              refine lv_aload_n hx hb (eX12_readDate (289, .aload_n 0, 1) (List.mem_of_getElem? (i := 146) rfl)) rfl (lv_at hl288 2 rfl) ?_
              refine ff_bipush hx hb (eX12_readDate (290, .bipush 6, 2) (List.mem_of_getElem? (i := 147) rfl)) (by decide) (by decide) (fun v297 e297 => ?_)
              refine ff_iconst hx hb (eX12_readDate (292, .iconst 1, 1) (List.mem_of_getElem? (i := 148) rfl)) (by decide) (by decide) (fun v298 e298 => ?_)
              refine tz_rowV (As := [.int v297, .int v298]) (st := []) (b := a) (C := RX12) (Ts := gT) hx hb hml hown h2 (fun _ h => h) (hX12_dateNumber l D cA ro sz H0 a v297 v298 6 1 T (x293) n (upF x250.1 1 (1)) h ha hn1 hT (by omega) (by omega) (by decide) (by decide)) ⟨rfl, rfl⟩ ⟨by decide, by decide⟩ ⟨by decide, by decide⟩ (tb_8 76 rfl rfl) (tb_1 12 rfl rfl) (tb_8 73 rfl rfl) (tb_8 75 rfl rfl) (tb_0 43 rfl rfl) (show yX12_dateNumber.cls ≠ "java/lang/invoke/MethodHandle" ∧ yX12_dateNumber.cls ≠ "java/lang/invoke/VarHandle" ∧ (parseMethodDescriptor yX12_dateNumber.desc).map (fun d => d.parameters.length) = some 2 by decide +kernel) zs_blind (zs_ob hh296 ha (show RTg[11]? = some (0, 11, 0, fsX12) from rfl) (zCX12 hKn.1)) (fun U hU hW => ⟨rfl, by rw [hU]; exact hh296.l0, zKb s U hW.alike hKn, by rw [hU]; exact ⟨jv296, jg296⟩⟩) hh296.2.2.1 hl288.1 (Nat.le_of_ble_eq_true rfl) (eX12_readDate (293, .invokevirtual 369, 3) (List.mem_of_getElem? (i := 149) rfl)) (fun r299 s299 t299 lo299 g299 f299 l299 => ?_)
              obtain ⟨q299, z299, c299, jv299, jg299⟩ := f299
              cases q299
              rw [g299] at c299
              have hh299 : zh_ok D cA RTg ro sz H0 t299.heap lo299 := ⟨z299.1, z299.2.1, l299, z299.2.2.2⟩
              have kp299 := kp296.trans (c299.mono (ms' := gM) (by decide))
              generalize hx299 : nuG T 6 1 ((upF x250.1 1 (1)), x293) = x299 at jv299 jg299
              have uu299 := jv299.2.2
              unfold vOK at uu299
              have bb299 := byI_bd T x299.2.1
              have mf299_37 := (c299.1 a 11 37 11 0 fsX12 ha rfl (by decide) (by decide)).trans mf296_37
              have nb299 : 0 ≤ x299.1 6 ∧ x299.1 6 ≤ 9 := by rw [← hx299]; exact nuG_bd (by decide)
              refine W.eq (g2 := F0 m 296 ls288 []) rfl ?_
              have hhd : hdG T (g, sg) = x2.1 := by simp only [hdG, hyr, hx2]
              have hfin : drG T wh (g, sg) = (x299.1, x299.2) := by first | (simp only [drG, hdG, beG, wkG, wk1G, wk2G, daG, da1G, da2G, plG, pl1G, pl2G, upS, ad1, hyr, hsd, hx2, hx250, hx293, hx299, if_pos d6, if_pos d181, if_pos d240, if_pos d290, up_eq, up_ne (show (4 : Nat) ≠ 1 by decide)]; done) | (simp only [drG, hdG, beG, wkG, wk1G, wk2G, daG, da1G, da2G, plG, pl1G, pl2G, upS, ad1, hyr, hsd, hx2, hx250, hx293, hx299, if_pos d6, if_pos d181, if_pos d240, if_pos d290, up_eq, up_ne (show (4 : Nat) ≠ 1 by decide)] <;> rfl) | rfl
              exact W.vret hx hb hr (fun t ht hW => ⟨rfl, by rw [ht]; exact hh299.l0, by rw [ht]; exact kp299, by rw [ht, hfin]; exact jv299, by rw [ht, hfin]; exact jg299, by rw [ht, hhd]; exact ⟨_, mf299_37, by omega⟩⟩) hh299.2.2.1 (eX12_readDate (296, .return_, 1) (List.mem_of_getElem? (i := 150) rfl))
    · skip
      have d300 : ¬ x2.2.2.1 < 0 := by omega
      have hhd : hdG T (g, sg) = x2.1 := by simp only [hdG, hyr, hx2]
      have hfin : drG T wh (g, sg) = (fj, x2.2) := by first | (simp only [drG, hdG, beG, wkG, wk1G, wk2G, daG, da1G, da2G, plG, pl1G, pl2G, upS, ad1, hyr, hsd, hx2, if_neg d300, up_eq, up_ne (show (4 : Nat) ≠ 1 by decide)]; done) | (simp only [drG, hdG, beG, wkG, wk1G, wk2G, daG, da1G, da2G, plG, pl1G, pl2G, upS, ad1, hyr, hsd, hx2, if_neg d300, up_eq, up_ne (show (4 : Nat) ≠ 1 by decide)] <;> rfl) | rfl
      exact W.vret hx hb hr (fun t ht hW => ⟨rfl, by rw [ht]; exact hh4.l0, by rw [ht]; exact kp3, by rw [ht, hfin]; exact jv3, by rw [ht, hfin]; exact jg3, by rw [ht, hhd]; exact ⟨_, hf3, by omega⟩⟩) hh4.2.2.1 (eX12_readDate (161, .return_, 1) (List.mem_of_getElem? (i := 84) rfl))
  refine lv_aload_n hx hb (eX12_readDate (0, .aload_n 0, 1) (List.mem_of_getElem? (i := 0) rfl)) rfl (lv_at hl 0 rfl) ?_
  refine ff_iconst hx hb (eX12_readDate (1, .iconst 3, 1) (List.mem_of_getElem? (i := 1) rfl)) (by decide) (by decide) (fun v301 e301 => ?_)
  refine lv_aload_n hx hb (eX12_readDate (2, .aload_n 0, 1) (List.mem_of_getElem? (i := 2) rfl)) rfl (lv_at hl 0 rfl) ?_
  obtain ⟨jt302, ⟨av302, fv302, bv302, f29302, f30302, f31302, hav302, hfv302, hbv302⟩, hu302⟩ := id jv0
  refine tz_get (r := 11) (k := 29) (t := (0, 0, 120)) hx hb hh ha rfl rfl (hcl11 293 29 (0, 0, 120) (by decide) rfl).1 f29302 (eX12_readDate (3, .getfield 293, 3) (List.mem_of_getElem? (i := 3) rfl)) ?_
  refine ff_i2l hx hb (eX12_readDate (6, .i2l, 1) (List.mem_of_getElem? (i := 4) rfl)) (fun v303 e303 => ?_)
  refine tz_rowV (As := [.int v301, .long v303]) (st := []) (b := a) (C := RX12) (Ts := gT) hx hb hml hown h2 (fun _ h => h) (hX12_set l D cA ro sz H0 a v301 v303 3 n g h ha hn1 (by omega) (by decide)) ⟨rfl, rfl⟩ ⟨by decide, by decide⟩ ⟨by decide, by decide⟩ (tb_8 72 rfl rfl) (tb_1 12 rfl rfl) (tb_8 69 rfl rfl) (tb_8 71 rfl rfl) (tb_0 42 rfl rfl) (show yX12_set.cls ≠ "java/lang/invoke/MethodHandle" ∧ yX12_set.cls ≠ "java/lang/invoke/VarHandle" ∧ (parseMethodDescriptor yX12_set.desc).map (fun d => d.parameters.length) = some 2 by decide +kernel) zs_blind (zs_ob hh ha (show RTg[11]? = some (0, 11, 0, fsX12) from rfl) (zCX12 hKn.1)) (fun U hU hW => ⟨rfl, by rw [hU]; exact hh.l0, zKb s U hW.alike hKn, by rw [hU]; exact jg0⟩) hh.2.2.1 hl.1 (Nat.le_of_ble_eq_true rfl) (eX12_readDate (7, .invokevirtual 357, 3) (List.mem_of_getElem? (i := 5) rfl)) (fun r304 s304 t304 lo304 g304 f304 l304 => ?_)
  obtain ⟨q304, z304, c304, jg304⟩ := f304
  cases q304
  rw [g304] at c304
  have hh304 : zh_ok D cA RTg ro sz H0 t304.heap lo304 := ⟨z304.1, z304.2.1, l304, z304.2.2.2⟩
  have kp304 := kp0.trans (c304.mono (ms' := gM) (by decide))
  have jg304 : jG D cA ro t304.heap a n (upF g 3 (sg.1)) h := by rw [← show v303.toInt = sg.1 by omega]; exact jg304
  have jv304 := jv0.kept ha c304 (by decide)
  refine W.eq (g2 := F0 m 10 ls []) rfl ?_
  refine lv_aload_n hx hb (eX12_readDate (10, .aload_n 0, 1) (List.mem_of_getElem? (i := 6) rfl)) rfl (lv_at hl 0 rfl) ?_
  refine tz_rowV (As := []) (st := []) (b := a) (C := RX12) (Ts := gT) hx hb hml hown h2 (fun _ h => h) (hX12_sign l D cA ro sz H0 a T (sg) ha) ⟨rfl, rfl⟩ ⟨by decide, by decide⟩ ⟨by decide, by decide⟩ (tb_8 21 rfl rfl) (tb_1 12 rfl rfl) (tb_8 18 rfl rfl) (tb_8 20 rfl rfl) (tb_0 32 rfl rfl) (show yX12_sign.cls ≠ "java/lang/invoke/MethodHandle" ∧ yX12_sign.cls ≠ "java/lang/invoke/VarHandle" ∧ (parseMethodDescriptor yX12_sign.desc).map (fun d => d.parameters.length) = some 0 by decide +kernel) zs_blind (zs_ob hh304 ha (show RTg[11]? = some (0, 11, 0, fsX12) from rfl) (zCX12 hKn.1)) (fun U hU hW => ⟨rfl, by rw [hU]; exact hh304.l0, zKb s U hW.alike hKn, by rw [hU]; exact jv304⟩) hh304.2.2.1 hl.1 (Nat.le_of_ble_eq_true rfl) (eX12_readDate (11, .invokevirtual 309, 3) (List.mem_of_getElem? (i := 7) rfl)) (fun r305 s305 t305 lo305 g305 f305 l305 => ?_)
  obtain ⟨z305, v305, q305, e305⟩ := f305
  cases q305
  rw [z305, g305]
  have hh305 : zh_ok D cA RTg ro sz H0 t304.heap lo305 := ⟨hh304.1, hh304.2.1, l305, hh304.2.2.2⟩
  refine W.eq (g2 := F0 m 14 ls [.int v305]) rfl ?_
  refine ff_bipush hx hb (eX12_readDate (14, .bipush 43, 2) (List.mem_of_getElem? (i := 8) rfl)) (by decide) (by decide) (fun v306 e306 => ?_)
  refine ff_icmp_eq hx hb (eX12_readDate (16, .if_icmp .eq 12, 3) (List.mem_of_getElem? (i := 9) rfl)) (tgt := 28) rfl (fun c307 => ?_) (fun c307 => ?_)
  · have hs9 : byI T sg.1 = 43 := by omega
    refine ff_iconst hx hb (eX12_readDate (28, .iconst 1, 1) (List.mem_of_getElem? (i := 14) rfl)) (by decide) (by decide) (fun v308 e308 => ?_)
    refine lv_goto hx hb (eX12_readDate (29, .goto 4, 3) (List.mem_of_getElem? (i := 15) rfl)) (tgt := 33) rfl ?_
    refine lv_istore_n hx hb (eX12_readDate (33, .istore_n 2, 1) (List.mem_of_getElem? (i := 17) rfl)) rfl hl (by decide) rfl (fun ls309 hl309 => ?_)
    refine lv_aload_n hx hb (eX12_readDate (34, .aload_n 0, 1) (List.mem_of_getElem? (i := 18) rfl)) rfl (lv_at hl309 1 rfl) ?_
    refine tz_rowV (As := []) (st := []) (b := a) (C := RX12) (Ts := gT) hx hb hml hown h2 (fun _ h => h) (hX12_sign l D cA ro sz H0 a T (sg) ha) ⟨rfl, rfl⟩ ⟨by decide, by decide⟩ ⟨by decide, by decide⟩ (tb_8 21 rfl rfl) (tb_1 12 rfl rfl) (tb_8 18 rfl rfl) (tb_8 20 rfl rfl) (tb_0 32 rfl rfl) (show yX12_sign.cls ≠ "java/lang/invoke/MethodHandle" ∧ yX12_sign.cls ≠ "java/lang/invoke/VarHandle" ∧ (parseMethodDescriptor yX12_sign.desc).map (fun d => d.parameters.length) = some 0 by decide +kernel) zs_blind (zs_ob hh305 ha (show RTg[11]? = some (0, 11, 0, fsX12) from rfl) (zCX12 hKn.1)) (fun U hU hW => ⟨rfl, by rw [hU]; exact hh305.l0, zKb s U hW.alike hKn, by rw [hU]; exact jv304⟩) hh305.2.2.1 hl309.1 (Nat.le_of_ble_eq_true rfl) (eX12_readDate (35, .invokevirtual 309, 3) (List.mem_of_getElem? (i := 19) rfl)) (fun r310 s310 t310 lo310 g310 f310 l310 => ?_)
    obtain ⟨z310, v310, q310, e310⟩ := f310
    cases q310
    rw [z310, g310]
    have hh310 : zh_ok D cA RTg ro sz H0 t304.heap lo310 := ⟨hh305.1, hh305.2.1, l310, hh305.2.2.2⟩
    refine W.eq (g2 := F0 m 38 ls309 [.int v310]) rfl ?_
    refine ff_bipush hx hb (eX12_readDate (38, .bipush 45, 2) (List.mem_of_getElem? (i := 20) rfl)) (by decide) (by decide) (fun v311 e311 => ?_)
    refine ff_icmp_ne hx hb (eX12_readDate (40, .if_icmp .ne 7, 3) (List.mem_of_getElem? (i := 21) rfl)) (tgt := 47) rfl (fun c312 => ?_) (fun c312 => (by exfalso; omega))
    refine ff_iconst hx hb (eX12_readDate (47, .iconst 0, 1) (List.mem_of_getElem? (i := 24) rfl)) (by decide) (by decide) (fun v313 e313 => ?_)
    refine lv_istore_n hx hb (eX12_readDate (48, .istore_n 3, 1) (List.mem_of_getElem? (i := 25) rfl)) rfl hl309 (by decide) rfl (fun ls314 hl314 => ?_)
    have hsd : sdI T sg = 1 := by unfold sdI; rw [if_pos (by omega)]
    have hng : ngI T sg = 0 := by unfold ngI; rw [if_neg (by omega)]
    refine lv_aload_n hx hb (eX12_readDate (49, .aload_n 0, 1) (List.mem_of_getElem? (i := 26) rfl)) rfl (lv_at hl314 2 rfl) ?_
    refine lv_dup hx hb (eX12_readDate (50, .dup, 1) (List.mem_of_getElem? (i := 27) rfl)) rfl ?_
    obtain ⟨jt315, ⟨av315, fv315, bv315, f29315, f30315, f31315, hav315, hfv315, hbv315⟩, hu315⟩ := id jv304
    refine tz_get (r := 11) (k := 29) (t := (0, 0, 120)) hx hb hh310 ha rfl rfl (hcl11 293 29 (0, 0, 120) (by decide) rfl).1 f29315 (eX12_readDate (51, .getfield 293, 3) (List.mem_of_getElem? (i := 28) rfl)) ?_
    refine lv_iload_n hx hb (eX12_readDate (54, .iload_n 2, 1) (List.mem_of_getElem? (i := 29) rfl)) rfl (lv_at hl314 1 rfl) ?_
    refine ff_if_eq hx hb (eX12_readDate (55, .ifCond .eq 14, 3) (List.mem_of_getElem? (i := 30) rfl)) (tgt := 69) rfl (fun c316 => (by exfalso; omega)) (fun c316 => ?_)
    refine lv_aload_n hx hb (eX12_readDate (58, .aload_n 0, 1) (List.mem_of_getElem? (i := 31) rfl)) rfl (lv_at hl314 2 rfl) ?_
    refine tz_rowV (As := []) (st := [.int av315, .ref a]) (b := a) (C := RX12) (Ts := gT) hx hb hml hown h2 (fun _ h => h) (hX12_isGood l D cA ro sz H0 a T (sg) ha) ⟨rfl, rfl⟩ ⟨by decide, by decide⟩ ⟨by decide, by decide⟩ (tb_8 17 rfl rfl) (tb_1 12 rfl rfl) (tb_8 14 rfl rfl) (tb_8 16 rfl rfl) (tb_0 31 rfl rfl) (show yX12_isGood.cls ≠ "java/lang/invoke/MethodHandle" ∧ yX12_isGood.cls ≠ "java/lang/invoke/VarHandle" ∧ (parseMethodDescriptor yX12_isGood.desc).map (fun d => d.parameters.length) = some 0 by decide +kernel) zs_blind (zs_ob hh310 ha (show RTg[11]? = some (0, 11, 0, fsX12) from rfl) (zCX12 hKn.1)) (fun U hU hW => ⟨rfl, by rw [hU]; exact hh310.l0, zKb s U hW.alike hKn, by rw [hU]; exact jv304⟩) hh310.2.2.1 hl314.1 (Nat.le_of_ble_eq_true rfl) (eX12_readDate (59, .invokevirtual 305, 3) (List.mem_of_getElem? (i := 32) rfl)) (fun r317 s317 t317 lo317 g317 f317 l317 => ?_)
    obtain ⟨z317, v317, q317, e317⟩ := f317
    cases q317
    rw [z317, g317]
    have hh317 : zh_ok D cA RTg ro sz H0 t304.heap lo317 := ⟨hh310.1, hh310.2.1, l317, hh310.2.2.2⟩
    refine W.eq (g2 := F0 m 62 ls314 [.int v317, .int av315, .ref a]) rfl ?_
    refine ff_if_eq hx hb (eX12_readDate (62, .ifCond .eq 7, 3) (List.mem_of_getElem? (i := 33) rfl)) (tgt := 69) rfl (fun c318 => ?_) (fun c318 => ?_)
    · have hsa : sgA T sg = sg := by unfold sgA; rw [if_neg (by omega)]
      refine ff_iconst hx hb (eX12_readDate (69, .iconst 0, 1) (List.mem_of_getElem? (i := 36) rfl)) (by decide) (by decide) (fun v319 e319 => ?_)
      have ha9320 : av315.toInt + v319.toInt ≤ 121 ∧ 0 ≤ av315.toInt := by omega
      refine ff_iadd hx hb (eX12_readDate (70, .iadd, 1) (List.mem_of_getElem? (i := 37) rfl)) (by omega) (by omega) (fun v320 e320 => ?_)
      refine tz_put (r := 11) (k := 29) (t := (0, 0, 120)) hx hb hD hh317 ha rfl rfl ((hcl11 293 29 (0, 0, 120) (by decide) rfl).2 (by decide)) (tz_i (by omega) (by omega)) (eX12_readDate (71, .putfield 293, 3) (List.mem_of_getElem? (i := 38) rfl)) (fun H321 lo321 hh321 hf321 hk321 _ hq321 => ?_)
      have mf321_a_30 := (hk321.1 a 11 30 11 0 fsX12 ha rfl (by decide) (by decide)).trans f30315
      have mf321_a_31 := (hk321.1 a 11 31 11 0 fsX12 ha rfl (by decide) (by decide)).trans f31315
      have kp321 := kp304.trans (hk321.mono (ms' := gM) (fun x hx => by cases List.mem_singleton.mp hx; decide))
      have jv321 : jV D cA ro H321 a T sg := ⟨jv304.1.kept ha hk321 (by decide) (by decide) (by decide), ⟨_, _, _, hf321, mf321_a_30, mf321_a_31, by show _ = sg.1; omega, hfv315, hbv315⟩, jv304.2.2⟩
      have jg321 := jg304.kept ha hk321 (by decide)
      have uv321 := jv321.2.2
      unfold vOK at uv321
      have bb321 := byI_bd T sg.1
      refine lv_aload_n hx hb (eX12_readDate (74, .aload_n 0, 1) (List.mem_of_getElem? (i := 39) rfl)) rfl (lv_at hl314 2 rfl) ?_
      refine lv_iload_n hx hb (eX12_readDate (75, .iload_n 2, 1) (List.mem_of_getElem? (i := 40) rfl)) rfl (lv_at hl314 1 rfl) ?_
      refine ff_if_eq hx hb (eX12_readDate (76, .ifCond .eq 8, 3) (List.mem_of_getElem? (i := 41) rfl)) (tgt := 84) rfl (fun c322 => (by exfalso; omega)) (fun c322 => ?_)
      refine ff_bipush hx hb (eX12_readDate (79, .bipush 6, 2) (List.mem_of_getElem? (i := 42) rfl)) (by decide) (by decide) (fun v323 e323 => ?_)
      refine lv_goto hx hb (eX12_readDate (81, .goto 4, 3) (List.mem_of_getElem? (i := 43) rfl)) (tgt := 85) rfl ?_
      refine tz_rowV (As := [.int v323]) (st := []) (b := a) (C := RX12) (Ts := gT) hx hb hml hown h2 (fun _ h => h) (hX12_digitsW l D cA ro sz H0 a v323 6 T (sg) ha (by omega) (by decide)) ⟨rfl, rfl⟩ ⟨by decide, by decide⟩ ⟨by decide, by decide⟩ (tb_8 43 rfl rfl) (tb_1 12 rfl rfl) (tb_8 40 rfl rfl) (tb_8 42 rfl rfl) (tb_0 36 rfl rfl) (show yX12_digits.cls ≠ "java/lang/invoke/MethodHandle" ∧ yX12_digits.cls ≠ "java/lang/invoke/VarHandle" ∧ (parseMethodDescriptor yX12_digits.desc).map (fun d => d.parameters.length) = some 1 by decide +kernel) zs_blind (zs_ob hh321 ha (show RTg[11]? = some (0, 11, 0, fsX12) from rfl) (zCX12 hKn.1)) (fun U hU hW => ⟨rfl, by rw [hU]; exact hh321.l0, zKb s U hW.alike hKn, by rw [hU]; exact jv321⟩) hh321.2.2.1 hl314.1 (Nat.le_of_ble_eq_true rfl) (eX12_readDate (85, .invokevirtual 331, 3) (List.mem_of_getElem? (i := 45) rfl)) (fun r324 s324 t324 lo324 g324 f324 l324 => ?_)
      obtain ⟨v324, q324, e324, z324, c324, jv324⟩ := f324
      cases q324
      rw [g324] at c324
      have hh324 : zh_ok D cA RTg ro sz H0 t324.heap lo324 := ⟨z324.1, z324.2.1, l324, z324.2.2.2⟩
      have kp324 := kp321.trans (c324.mono (ms' := gM) (by decide))
      have kf324 := dgG_w (T := T) (n := 6) (r := sg) (M := 999999) (by decide)
      generalize hx324 : dgG T 6 0 sg = x324 at jv324 e324 kf324
      have uu324 := jv324.2.2
      unfold vOK at uu324
      have bb324 := byI_bd T x324.2.1
      have jg324 := jg321.kept ha c324 (by decide)
      refine W.eq (g2 := F0 m 88 ls314 [.int v324]) rfl ?_
      refine ff_i2l hx hb (eX12_readDate (88, .i2l, 1) (List.mem_of_getElem? (i := 46) rfl)) (fun v325 e325 => ?_)
      refine lv_lstore hx hb (eX12_readDate (89, .lstore 4, 2) (List.mem_of_getElem? (i := 47) rfl)) hl314 (by decide) rfl (fun ls326 hl326 => ?_)
      have hyq : yqG T sg = x324 := by unfold yqG; rw [hsd, if_pos rfl, hsa, hx324]
      refine lv_iload_n hx hb (eX12_readDate (91, .iload_n 3, 1) (List.mem_of_getElem? (i := 48) rfl)) rfl (lv_at hl326 1 rfl) ?_
      refine ff_if_eq hx hb (eX12_readDate (92, .ifCond .eq 27, 3) (List.mem_of_getElem? (i := 49) rfl)) (tgt := 119) rfl (fun c327 => ?_) (fun c327 => (by exfalso; omega))
      have hyz : yzG sg.1 0 x324 = x324.2 := by unfold yzG; rw [if_neg (by omega)]
      refine lv_aload_n hx hb (eX12_readDate (119, .aload_n 0, 1) (List.mem_of_getElem? (i := 63) rfl)) rfl (lv_at hl326 3 rfl) ?_
      refine ff_iconst hx hb (eX12_readDate (120, .iconst 2, 1) (List.mem_of_getElem? (i := 64) rfl)) (by decide) (by decide) (fun v328 e328 => ?_)
      refine lv_iload_n hx hb (eX12_readDate (121, .iload_n 3, 1) (List.mem_of_getElem? (i := 65) rfl)) rfl (lv_at hl326 1 rfl) ?_
      refine ff_if_eq hx hb (eX12_readDate (122, .ifCond .eq 9, 3) (List.mem_of_getElem? (i := 66) rfl)) (tgt := 131) rfl (fun c329 => ?_) (fun c329 => (by exfalso; omega))
      refine lv_lload hx hb (eX12_readDate (131, .lload 4, 2) (List.mem_of_getElem? (i := 70) rfl)) (lv_at hl326 0 rfl) ?_
      refine tz_rowV (As := [.int v328, .long v325]) (st := []) (b := a) (C := RX12) (Ts := gT) hx hb hml hown h2 (fun _ h => h) (hX12_set l D cA ro sz H0 a v328 v325 2 n (upF g 3 (sg.1)) h ha hn1 (by omega) (by decide)) ⟨rfl, rfl⟩ ⟨by decide, by decide⟩ ⟨by decide, by decide⟩ (tb_8 72 rfl rfl) (tb_1 12 rfl rfl) (tb_8 69 rfl rfl) (tb_8 71 rfl rfl) (tb_0 42 rfl rfl) (show yX12_set.cls ≠ "java/lang/invoke/MethodHandle" ∧ yX12_set.cls ≠ "java/lang/invoke/VarHandle" ∧ (parseMethodDescriptor yX12_set.desc).map (fun d => d.parameters.length) = some 2 by decide +kernel) zs_blind (zs_ob hh324 ha (show RTg[11]? = some (0, 11, 0, fsX12) from rfl) (zCX12 hKn.1)) (fun U hU hW => ⟨rfl, by rw [hU]; exact hh324.l0, zKb s U hW.alike hKn, by rw [hU]; exact jg324⟩) hh324.2.2.1 hl326.1 (Nat.le_of_ble_eq_true rfl) (eX12_readDate (133, .invokevirtual 357, 3) (List.mem_of_getElem? (i := 71) rfl)) (fun r330 s330 t330 lo330 g330 f330 l330 => ?_)
      obtain ⟨q330, z330, c330, jg330⟩ := f330
      cases q330
      rw [g330] at c330
      have hh330 : zh_ok D cA RTg ro sz H0 t330.heap lo330 := ⟨z330.1, z330.2.1, l330, z330.2.2.2⟩
      have kp330 := kp324.trans (c330.mono (ms' := gM) (by decide))
      have jg330 : jG D cA ro t330.heap a n (upF (upF g 3 (sg.1)) 2 (x324.1)) h := by rw [← show v325.toInt = x324.1 by omega]; exact jg330
      have jv330 := jv324.kept ha c330 (by decide)
      refine W.eq (g2 := F0 m 136 ls326 []) rfl ?_
      refine lv_aload_n hx hb (eX12_readDate (136, .aload_n 0, 1) (List.mem_of_getElem? (i := 72) rfl)) rfl (lv_at hl326 3 rfl) ?_
      refine ff_iconst hx hb (eX12_readDate (137, .iconst 1, 1) (List.mem_of_getElem? (i := 73) rfl)) (by decide) (by decide) (fun v331 e331 => ?_)
      refine ff_ldc2 (n := 3) hx hb hown h2 (clX12_ok 134 3 (List.mem_of_getElem? (i := 15) rfl)) (eX12_readDate (138, .ldc2_w 134, 3) (List.mem_of_getElem? (i := 74) rfl)) (fun v332 e332 => ?_)
      refine tz_rowV (As := [.int v331, .long v332]) (st := []) (b := a) (C := RX12) (Ts := gT) hx hb hml hown h2 (fun _ h => h) (hX12_set l D cA ro sz H0 a v331 v332 1 n (upF (upF g 3 (sg.1)) 2 (x324.1)) h ha hn1 (by omega) (by decide)) ⟨rfl, rfl⟩ ⟨by decide, by decide⟩ ⟨by decide, by decide⟩ (tb_8 72 rfl rfl) (tb_1 12 rfl rfl) (tb_8 69 rfl rfl) (tb_8 71 rfl rfl) (tb_0 42 rfl rfl) (show yX12_set.cls ≠ "java/lang/invoke/MethodHandle" ∧ yX12_set.cls ≠ "java/lang/invoke/VarHandle" ∧ (parseMethodDescriptor yX12_set.desc).map (fun d => d.parameters.length) = some 2 by decide +kernel) zs_blind (zs_ob hh330 ha (show RTg[11]? = some (0, 11, 0, fsX12) from rfl) (zCX12 hKn.1)) (fun U hU hW => ⟨rfl, by rw [hU]; exact hh330.l0, zKb s U hW.alike hKn, by rw [hU]; exact jg330⟩) hh330.2.2.1 hl326.1 (Nat.le_of_ble_eq_true rfl) (eX12_readDate (141, .invokevirtual 357, 3) (List.mem_of_getElem? (i := 75) rfl)) (fun r333 s333 t333 lo333 g333 f333 l333 => ?_)
      obtain ⟨q333, z333, c333, jg333⟩ := f333
      cases q333
      rw [g333] at c333
      have hh333 : zh_ok D cA RTg ro sz H0 t333.heap lo333 := ⟨z333.1, z333.2.1, l333, z333.2.2.2⟩
      have kp333 := kp330.trans (c333.mono (ms' := gM) (by decide))
      have jg333 : jG D cA ro t333.heap a n (upF (upF (upF g 3 (sg.1)) 2 (x324.1)) 1 (3)) h := by rw [← show v332.toInt = 3 by omega]; exact jg333
      have jv333 := jv330.kept ha c333 (by decide)
      refine W.eq (g2 := F0 m 144 ls326 []) rfl ?_
      exact jn144 (upF (upF (upF g 3 (sg.1)) 2 (x324.1)) 1 (3)) x324.2 v308 1 ls326 _ _ hh333 kp333 jv333 jg333 (by omega) (by unfold yrG; dsimp only; rw [hng, hyq, hyz]; rw [if_neg (by decide)]) hsd (by decide) (lv_sub hl326 [2, 3, 4] rfl)
    · have hsa : sgA T sg = (sg.1 + 1, sg.2) := by unfold sgA; rw [if_pos ⟨hsd, by omega⟩]
      refine ff_iconst hx hb (eX12_readDate (65, .iconst 1, 1) (List.mem_of_getElem? (i := 34) rfl)) (by decide) (by decide) (fun v334 e334 => ?_)
      refine lv_goto hx hb (eX12_readDate (66, .goto 4, 3) (List.mem_of_getElem? (i := 35) rfl)) (tgt := 70) rfl ?_
      have ha9335 : av315.toInt + v334.toInt ≤ 121 ∧ 0 ≤ av315.toInt := by omega
      refine ff_iadd hx hb (eX12_readDate (70, .iadd, 1) (List.mem_of_getElem? (i := 37) rfl)) (by omega) (by omega) (fun v335 e335 => ?_)
      have hlt := byI_lt (T := T) (a := sg.1) (by omega) (by omega)
      refine tz_put (r := 11) (k := 29) (t := (0, 0, 120)) hx hb hD hh317 ha rfl rfl ((hcl11 293 29 (0, 0, 120) (by decide) rfl).2 (by decide)) (tz_i (by omega) (by omega)) (eX12_readDate (71, .putfield 293, 3) (List.mem_of_getElem? (i := 38) rfl)) (fun H336 lo336 hh336 hf336 hk336 _ hq336 => ?_)
      have mf336_a_30 := (hk336.1 a 11 30 11 0 fsX12 ha rfl (by decide) (by decide)).trans f30315
      have mf336_a_31 := (hk336.1 a 11 31 11 0 fsX12 ha rfl (by decide) (by decide)).trans f31315
      have kp336 := kp304.trans (hk336.mono (ms' := gM) (fun x hx => by cases List.mem_singleton.mp hx; decide))
      have jv336 : jV D cA ro H336 a T (sg.1 + 1, sg.2) := ⟨jv304.1.kept ha hk336 (by decide) (by decide) (by decide), ⟨_, _, _, hf336, mf336_a_30, mf336_a_31, by show _ = sg.1 + 1; omega, hfv315, hbv315⟩, adG_ok jv304.2.2 (by omega)⟩
      have jg336 := jg304.kept ha hk336 (by decide)
      have uv336 := jv336.2.2
      unfold vOK at uv336
      have bb336 := byI_bd T (sg.1 + 1, sg.2).1
      refine lv_aload_n hx hb (eX12_readDate (74, .aload_n 0, 1) (List.mem_of_getElem? (i := 39) rfl)) rfl (lv_at hl314 2 rfl) ?_
      refine lv_iload_n hx hb (eX12_readDate (75, .iload_n 2, 1) (List.mem_of_getElem? (i := 40) rfl)) rfl (lv_at hl314 1 rfl) ?_
      refine ff_if_eq hx hb (eX12_readDate (76, .ifCond .eq 8, 3) (List.mem_of_getElem? (i := 41) rfl)) (tgt := 84) rfl (fun c337 => (by exfalso; omega)) (fun c337 => ?_)
      refine ff_bipush hx hb (eX12_readDate (79, .bipush 6, 2) (List.mem_of_getElem? (i := 42) rfl)) (by decide) (by decide) (fun v338 e338 => ?_)
      refine lv_goto hx hb (eX12_readDate (81, .goto 4, 3) (List.mem_of_getElem? (i := 43) rfl)) (tgt := 85) rfl ?_
      refine tz_rowV (As := [.int v338]) (st := []) (b := a) (C := RX12) (Ts := gT) hx hb hml hown h2 (fun _ h => h) (hX12_digitsW l D cA ro sz H0 a v338 6 T ((sg.1 + 1, sg.2)) ha (by omega) (by decide)) ⟨rfl, rfl⟩ ⟨by decide, by decide⟩ ⟨by decide, by decide⟩ (tb_8 43 rfl rfl) (tb_1 12 rfl rfl) (tb_8 40 rfl rfl) (tb_8 42 rfl rfl) (tb_0 36 rfl rfl) (show yX12_digits.cls ≠ "java/lang/invoke/MethodHandle" ∧ yX12_digits.cls ≠ "java/lang/invoke/VarHandle" ∧ (parseMethodDescriptor yX12_digits.desc).map (fun d => d.parameters.length) = some 1 by decide +kernel) zs_blind (zs_ob hh336 ha (show RTg[11]? = some (0, 11, 0, fsX12) from rfl) (zCX12 hKn.1)) (fun U hU hW => ⟨rfl, by rw [hU]; exact hh336.l0, zKb s U hW.alike hKn, by rw [hU]; exact jv336⟩) hh336.2.2.1 hl314.1 (Nat.le_of_ble_eq_true rfl) (eX12_readDate (85, .invokevirtual 331, 3) (List.mem_of_getElem? (i := 45) rfl)) (fun r339 s339 t339 lo339 g339 f339 l339 => ?_)
      obtain ⟨v339, q339, e339, z339, c339, jv339⟩ := f339
      cases q339
      rw [g339] at c339
      have hh339 : zh_ok D cA RTg ro sz H0 t339.heap lo339 := ⟨z339.1, z339.2.1, l339, z339.2.2.2⟩
      have kp339 := kp336.trans (c339.mono (ms' := gM) (by decide))
      have kf339 := dgG_w (T := T) (n := 6) (r := (sg.1 + 1, sg.2)) (M := 999999) (by decide)
      generalize hx339 : dgG T 6 0 (sg.1 + 1, sg.2) = x339 at jv339 e339 kf339
      have uu339 := jv339.2.2
      unfold vOK at uu339
      have bb339 := byI_bd T x339.2.1
      have jg339 := jg336.kept ha c339 (by decide)
      refine W.eq (g2 := F0 m 88 ls314 [.int v339]) rfl ?_
      refine ff_i2l hx hb (eX12_readDate (88, .i2l, 1) (List.mem_of_getElem? (i := 46) rfl)) (fun v340 e340 => ?_)
      refine lv_lstore hx hb (eX12_readDate (89, .lstore 4, 2) (List.mem_of_getElem? (i := 47) rfl)) hl314 (by decide) rfl (fun ls341 hl341 => ?_)
      have hyq : yqG T sg = x339 := by unfold yqG; rw [hsd, if_pos rfl, hsa, hx339]
      refine lv_iload_n hx hb (eX12_readDate (91, .iload_n 3, 1) (List.mem_of_getElem? (i := 48) rfl)) rfl (lv_at hl341 1 rfl) ?_
      refine ff_if_eq hx hb (eX12_readDate (92, .ifCond .eq 27, 3) (List.mem_of_getElem? (i := 49) rfl)) (tgt := 119) rfl (fun c342 => ?_) (fun c342 => (by exfalso; omega))
      have hyz : yzG sg.1 0 x339 = x339.2 := by unfold yzG; rw [if_neg (by omega)]
      refine lv_aload_n hx hb (eX12_readDate (119, .aload_n 0, 1) (List.mem_of_getElem? (i := 63) rfl)) rfl (lv_at hl341 3 rfl) ?_
      refine ff_iconst hx hb (eX12_readDate (120, .iconst 2, 1) (List.mem_of_getElem? (i := 64) rfl)) (by decide) (by decide) (fun v343 e343 => ?_)
      refine lv_iload_n hx hb (eX12_readDate (121, .iload_n 3, 1) (List.mem_of_getElem? (i := 65) rfl)) rfl (lv_at hl341 1 rfl) ?_
      refine ff_if_eq hx hb (eX12_readDate (122, .ifCond .eq 9, 3) (List.mem_of_getElem? (i := 66) rfl)) (tgt := 131) rfl (fun c344 => ?_) (fun c344 => (by exfalso; omega))
      refine lv_lload hx hb (eX12_readDate (131, .lload 4, 2) (List.mem_of_getElem? (i := 70) rfl)) (lv_at hl341 0 rfl) ?_
      refine tz_rowV (As := [.int v343, .long v340]) (st := []) (b := a) (C := RX12) (Ts := gT) hx hb hml hown h2 (fun _ h => h) (hX12_set l D cA ro sz H0 a v343 v340 2 n (upF g 3 (sg.1)) h ha hn1 (by omega) (by decide)) ⟨rfl, rfl⟩ ⟨by decide, by decide⟩ ⟨by decide, by decide⟩ (tb_8 72 rfl rfl) (tb_1 12 rfl rfl) (tb_8 69 rfl rfl) (tb_8 71 rfl rfl) (tb_0 42 rfl rfl) (show yX12_set.cls ≠ "java/lang/invoke/MethodHandle" ∧ yX12_set.cls ≠ "java/lang/invoke/VarHandle" ∧ (parseMethodDescriptor yX12_set.desc).map (fun d => d.parameters.length) = some 2 by decide +kernel) zs_blind (zs_ob hh339 ha (show RTg[11]? = some (0, 11, 0, fsX12) from rfl) (zCX12 hKn.1)) (fun U hU hW => ⟨rfl, by rw [hU]; exact hh339.l0, zKb s U hW.alike hKn, by rw [hU]; exact jg339⟩) hh339.2.2.1 hl341.1 (Nat.le_of_ble_eq_true rfl) (eX12_readDate (133, .invokevirtual 357, 3) (List.mem_of_getElem? (i := 71) rfl)) (fun r345 s345 t345 lo345 g345 f345 l345 => ?_)
      obtain ⟨q345, z345, c345, jg345⟩ := f345
      cases q345
      rw [g345] at c345
      have hh345 : zh_ok D cA RTg ro sz H0 t345.heap lo345 := ⟨z345.1, z345.2.1, l345, z345.2.2.2⟩
      have kp345 := kp339.trans (c345.mono (ms' := gM) (by decide))
      have jg345 : jG D cA ro t345.heap a n (upF (upF g 3 (sg.1)) 2 (x339.1)) h := by rw [← show v340.toInt = x339.1 by omega]; exact jg345
      have jv345 := jv339.kept ha c345 (by decide)
      refine W.eq (g2 := F0 m 136 ls341 []) rfl ?_
      refine lv_aload_n hx hb (eX12_readDate (136, .aload_n 0, 1) (List.mem_of_getElem? (i := 72) rfl)) rfl (lv_at hl341 3 rfl) ?_
      refine ff_iconst hx hb (eX12_readDate (137, .iconst 1, 1) (List.mem_of_getElem? (i := 73) rfl)) (by decide) (by decide) (fun v346 e346 => ?_)
      refine ff_ldc2 (n := 3) hx hb hown h2 (clX12_ok 134 3 (List.mem_of_getElem? (i := 15) rfl)) (eX12_readDate (138, .ldc2_w 134, 3) (List.mem_of_getElem? (i := 74) rfl)) (fun v347 e347 => ?_)
      refine tz_rowV (As := [.int v346, .long v347]) (st := []) (b := a) (C := RX12) (Ts := gT) hx hb hml hown h2 (fun _ h => h) (hX12_set l D cA ro sz H0 a v346 v347 1 n (upF (upF g 3 (sg.1)) 2 (x339.1)) h ha hn1 (by omega) (by decide)) ⟨rfl, rfl⟩ ⟨by decide, by decide⟩ ⟨by decide, by decide⟩ (tb_8 72 rfl rfl) (tb_1 12 rfl rfl) (tb_8 69 rfl rfl) (tb_8 71 rfl rfl) (tb_0 42 rfl rfl) (show yX12_set.cls ≠ "java/lang/invoke/MethodHandle" ∧ yX12_set.cls ≠ "java/lang/invoke/VarHandle" ∧ (parseMethodDescriptor yX12_set.desc).map (fun d => d.parameters.length) = some 2 by decide +kernel) zs_blind (zs_ob hh345 ha (show RTg[11]? = some (0, 11, 0, fsX12) from rfl) (zCX12 hKn.1)) (fun U hU hW => ⟨rfl, by rw [hU]; exact hh345.l0, zKb s U hW.alike hKn, by rw [hU]; exact jg345⟩) hh345.2.2.1 hl341.1 (Nat.le_of_ble_eq_true rfl) (eX12_readDate (141, .invokevirtual 357, 3) (List.mem_of_getElem? (i := 75) rfl)) (fun r348 s348 t348 lo348 g348 f348 l348 => ?_)
      obtain ⟨q348, z348, c348, jg348⟩ := f348
      cases q348
      rw [g348] at c348
      have hh348 : zh_ok D cA RTg ro sz H0 t348.heap lo348 := ⟨z348.1, z348.2.1, l348, z348.2.2.2⟩
      have kp348 := kp345.trans (c348.mono (ms' := gM) (by decide))
      have jg348 : jG D cA ro t348.heap a n (upF (upF (upF g 3 (sg.1)) 2 (x339.1)) 1 (3)) h := by rw [← show v347.toInt = 3 by omega]; exact jg348
      have jv348 := jv345.kept ha c348 (by decide)
      refine W.eq (g2 := F0 m 144 ls341 []) rfl ?_
      exact jn144 (upF (upF (upF g 3 (sg.1)) 2 (x339.1)) 1 (3)) x339.2 v308 1 ls341 _ _ hh348 kp348 jv348 jg348 (by omega) (by unfold yrG; dsimp only; rw [hng, hyq, hyz]; rw [if_neg (by decide)]) hsd (by decide) (lv_sub hl341 [2, 3, 4] rfl)
  · have hs9 : byI T sg.1 ≠ 43 := by omega
    refine lv_aload_n hx hb (eX12_readDate (19, .aload_n 0, 1) (List.mem_of_getElem? (i := 10) rfl)) rfl (lv_at hl 0 rfl) ?_
    refine tz_rowV (As := []) (st := []) (b := a) (C := RX12) (Ts := gT) hx hb hml hown h2 (fun _ h => h) (hX12_sign l D cA ro sz H0 a T (sg) ha) ⟨rfl, rfl⟩ ⟨by decide, by decide⟩ ⟨by decide, by decide⟩ (tb_8 21 rfl rfl) (tb_1 12 rfl rfl) (tb_8 18 rfl rfl) (tb_8 20 rfl rfl) (tb_0 32 rfl rfl) (show yX12_sign.cls ≠ "java/lang/invoke/MethodHandle" ∧ yX12_sign.cls ≠ "java/lang/invoke/VarHandle" ∧ (parseMethodDescriptor yX12_sign.desc).map (fun d => d.parameters.length) = some 0 by decide +kernel) zs_blind (zs_ob hh305 ha (show RTg[11]? = some (0, 11, 0, fsX12) from rfl) (zCX12 hKn.1)) (fun U hU hW => ⟨rfl, by rw [hU]; exact hh305.l0, zKb s U hW.alike hKn, by rw [hU]; exact jv304⟩) hh305.2.2.1 hl.1 (Nat.le_of_ble_eq_true rfl) (eX12_readDate (20, .invokevirtual 309, 3) (List.mem_of_getElem? (i := 11) rfl)) (fun r349 s349 t349 lo349 g349 f349 l349 => ?_)
    obtain ⟨z349, v349, q349, e349⟩ := f349
    cases q349
    rw [z349, g349]
    have hh349 : zh_ok D cA RTg ro sz H0 t304.heap lo349 := ⟨hh305.1, hh305.2.1, l349, hh305.2.2.2⟩
    refine W.eq (g2 := F0 m 23 ls [.int v349]) rfl ?_
    refine ff_bipush hx hb (eX12_readDate (23, .bipush 45, 2) (List.mem_of_getElem? (i := 12) rfl)) (by decide) (by decide) (fun v350 e350 => ?_)
    refine ff_icmp_ne hx hb (eX12_readDate (25, .if_icmp .ne 7, 3) (List.mem_of_getElem? (i := 13) rfl)) (tgt := 32) rfl (fun c351 => ?_) (fun c351 => ?_)
    · have hs8 : byI T sg.1 ≠ 45 := by omega
      refine ff_iconst hx hb (eX12_readDate (32, .iconst 0, 1) (List.mem_of_getElem? (i := 16) rfl)) (by decide) (by decide) (fun v352 e352 => ?_)
      refine lv_istore_n hx hb (eX12_readDate (33, .istore_n 2, 1) (List.mem_of_getElem? (i := 17) rfl)) rfl hl (by decide) rfl (fun ls353 hl353 => ?_)
      refine lv_aload_n hx hb (eX12_readDate (34, .aload_n 0, 1) (List.mem_of_getElem? (i := 18) rfl)) rfl (lv_at hl353 1 rfl) ?_
      refine tz_rowV (As := []) (st := []) (b := a) (C := RX12) (Ts := gT) hx hb hml hown h2 (fun _ h => h) (hX12_sign l D cA ro sz H0 a T (sg) ha) ⟨rfl, rfl⟩ ⟨by decide, by decide⟩ ⟨by decide, by decide⟩ (tb_8 21 rfl rfl) (tb_1 12 rfl rfl) (tb_8 18 rfl rfl) (tb_8 20 rfl rfl) (tb_0 32 rfl rfl) (show yX12_sign.cls ≠ "java/lang/invoke/MethodHandle" ∧ yX12_sign.cls ≠ "java/lang/invoke/VarHandle" ∧ (parseMethodDescriptor yX12_sign.desc).map (fun d => d.parameters.length) = some 0 by decide +kernel) zs_blind (zs_ob hh349 ha (show RTg[11]? = some (0, 11, 0, fsX12) from rfl) (zCX12 hKn.1)) (fun U hU hW => ⟨rfl, by rw [hU]; exact hh349.l0, zKb s U hW.alike hKn, by rw [hU]; exact jv304⟩) hh349.2.2.1 hl353.1 (Nat.le_of_ble_eq_true rfl) (eX12_readDate (35, .invokevirtual 309, 3) (List.mem_of_getElem? (i := 19) rfl)) (fun r354 s354 t354 lo354 g354 f354 l354 => ?_)
      obtain ⟨z354, v354, q354, e354⟩ := f354
      cases q354
      rw [z354, g354]
      have hh354 : zh_ok D cA RTg ro sz H0 t304.heap lo354 := ⟨hh349.1, hh349.2.1, l354, hh349.2.2.2⟩
      refine W.eq (g2 := F0 m 38 ls353 [.int v354]) rfl ?_
      refine ff_bipush hx hb (eX12_readDate (38, .bipush 45, 2) (List.mem_of_getElem? (i := 20) rfl)) (by decide) (by decide) (fun v355 e355 => ?_)
      refine ff_icmp_ne hx hb (eX12_readDate (40, .if_icmp .ne 7, 3) (List.mem_of_getElem? (i := 21) rfl)) (tgt := 47) rfl (fun c356 => ?_) (fun c356 => (by exfalso; omega))
      refine ff_iconst hx hb (eX12_readDate (47, .iconst 0, 1) (List.mem_of_getElem? (i := 24) rfl)) (by decide) (by decide) (fun v357 e357 => ?_)
      refine lv_istore_n hx hb (eX12_readDate (48, .istore_n 3, 1) (List.mem_of_getElem? (i := 25) rfl)) rfl hl353 (by decide) rfl (fun ls358 hl358 => ?_)
      have hsd : sdI T sg = 0 := by unfold sdI; rw [if_neg (by omega)]
      have hng : ngI T sg = 0 := by unfold ngI; rw [if_neg (by omega)]
      refine lv_aload_n hx hb (eX12_readDate (49, .aload_n 0, 1) (List.mem_of_getElem? (i := 26) rfl)) rfl (lv_at hl358 2 rfl) ?_
      refine lv_dup hx hb (eX12_readDate (50, .dup, 1) (List.mem_of_getElem? (i := 27) rfl)) rfl ?_
      obtain ⟨jt359, ⟨av359, fv359, bv359, f29359, f30359, f31359, hav359, hfv359, hbv359⟩, hu359⟩ := id jv304
      refine tz_get (r := 11) (k := 29) (t := (0, 0, 120)) hx hb hh354 ha rfl rfl (hcl11 293 29 (0, 0, 120) (by decide) rfl).1 f29359 (eX12_readDate (51, .getfield 293, 3) (List.mem_of_getElem? (i := 28) rfl)) ?_
      refine lv_iload_n hx hb (eX12_readDate (54, .iload_n 2, 1) (List.mem_of_getElem? (i := 29) rfl)) rfl (lv_at hl358 1 rfl) ?_
      refine ff_if_eq hx hb (eX12_readDate (55, .ifCond .eq 14, 3) (List.mem_of_getElem? (i := 30) rfl)) (tgt := 69) rfl (fun c360 => ?_) (fun c360 => (by exfalso; omega))
      have hsa : sgA T sg = sg := by unfold sgA; rw [if_neg (by omega)]
      refine ff_iconst hx hb (eX12_readDate (69, .iconst 0, 1) (List.mem_of_getElem? (i := 36) rfl)) (by decide) (by decide) (fun v361 e361 => ?_)
      have ha9362 : av359.toInt + v361.toInt ≤ 121 ∧ 0 ≤ av359.toInt := by omega
      refine ff_iadd hx hb (eX12_readDate (70, .iadd, 1) (List.mem_of_getElem? (i := 37) rfl)) (by omega) (by omega) (fun v362 e362 => ?_)
      refine tz_put (r := 11) (k := 29) (t := (0, 0, 120)) hx hb hD hh354 ha rfl rfl ((hcl11 293 29 (0, 0, 120) (by decide) rfl).2 (by decide)) (tz_i (by omega) (by omega)) (eX12_readDate (71, .putfield 293, 3) (List.mem_of_getElem? (i := 38) rfl)) (fun H363 lo363 hh363 hf363 hk363 _ hq363 => ?_)
      have mf363_a_30 := (hk363.1 a 11 30 11 0 fsX12 ha rfl (by decide) (by decide)).trans f30359
      have mf363_a_31 := (hk363.1 a 11 31 11 0 fsX12 ha rfl (by decide) (by decide)).trans f31359
      have kp363 := kp304.trans (hk363.mono (ms' := gM) (fun x hx => by cases List.mem_singleton.mp hx; decide))
      have jv363 : jV D cA ro H363 a T sg := ⟨jv304.1.kept ha hk363 (by decide) (by decide) (by decide), ⟨_, _, _, hf363, mf363_a_30, mf363_a_31, by show _ = sg.1; omega, hfv359, hbv359⟩, jv304.2.2⟩
      have jg363 := jg304.kept ha hk363 (by decide)
      have uv363 := jv363.2.2
      unfold vOK at uv363
      have bb363 := byI_bd T sg.1
      refine lv_aload_n hx hb (eX12_readDate (74, .aload_n 0, 1) (List.mem_of_getElem? (i := 39) rfl)) rfl (lv_at hl358 2 rfl) ?_
      refine lv_iload_n hx hb (eX12_readDate (75, .iload_n 2, 1) (List.mem_of_getElem? (i := 40) rfl)) rfl (lv_at hl358 1 rfl) ?_
      refine ff_if_eq hx hb (eX12_readDate (76, .ifCond .eq 8, 3) (List.mem_of_getElem? (i := 41) rfl)) (tgt := 84) rfl (fun c364 => ?_) (fun c364 => (by exfalso; omega))
      refine ff_iconst hx hb (eX12_readDate (84, .iconst 4, 1) (List.mem_of_getElem? (i := 44) rfl)) (by decide) (by decide) (fun v365 e365 => ?_)
      refine tz_rowV (As := [.int v365]) (st := []) (b := a) (C := RX12) (Ts := gT) hx hb hml hown h2 (fun _ h => h) (hX12_digitsW l D cA ro sz H0 a v365 4 T (sg) ha (by omega) (by decide)) ⟨rfl, rfl⟩ ⟨by decide, by decide⟩ ⟨by decide, by decide⟩ (tb_8 43 rfl rfl) (tb_1 12 rfl rfl) (tb_8 40 rfl rfl) (tb_8 42 rfl rfl) (tb_0 36 rfl rfl) (show yX12_digits.cls ≠ "java/lang/invoke/MethodHandle" ∧ yX12_digits.cls ≠ "java/lang/invoke/VarHandle" ∧ (parseMethodDescriptor yX12_digits.desc).map (fun d => d.parameters.length) = some 1 by decide +kernel) zs_blind (zs_ob hh363 ha (show RTg[11]? = some (0, 11, 0, fsX12) from rfl) (zCX12 hKn.1)) (fun U hU hW => ⟨rfl, by rw [hU]; exact hh363.l0, zKb s U hW.alike hKn, by rw [hU]; exact jv363⟩) hh363.2.2.1 hl358.1 (Nat.le_of_ble_eq_true rfl) (eX12_readDate (85, .invokevirtual 331, 3) (List.mem_of_getElem? (i := 45) rfl)) (fun r366 s366 t366 lo366 g366 f366 l366 => ?_)
      obtain ⟨v366, q366, e366, z366, c366, jv366⟩ := f366
      cases q366
      rw [g366] at c366
      have hh366 : zh_ok D cA RTg ro sz H0 t366.heap lo366 := ⟨z366.1, z366.2.1, l366, z366.2.2.2⟩
      have kp366 := kp363.trans (c366.mono (ms' := gM) (by decide))
      have kf366 := dgG_w (T := T) (n := 4) (r := sg) (M := 9999) (by decide)
      generalize hx366 : dgG T 4 0 sg = x366 at jv366 e366 kf366
      have uu366 := jv366.2.2
      unfold vOK at uu366
      have bb366 := byI_bd T x366.2.1
      have jg366 := jg363.kept ha c366 (by decide)
      refine W.eq (g2 := F0 m 88 ls358 [.int v366]) rfl ?_
      refine ff_i2l hx hb (eX12_readDate (88, .i2l, 1) (List.mem_of_getElem? (i := 46) rfl)) (fun v367 e367 => ?_)
      refine lv_lstore hx hb (eX12_readDate (89, .lstore 4, 2) (List.mem_of_getElem? (i := 47) rfl)) hl358 (by decide) rfl (fun ls368 hl368 => ?_)
      have hyq : yqG T sg = x366 := by unfold yqG; rw [hsd, if_neg (by decide), hsa, hx366]
      refine lv_iload_n hx hb (eX12_readDate (91, .iload_n 3, 1) (List.mem_of_getElem? (i := 48) rfl)) rfl (lv_at hl368 1 rfl) ?_
      refine ff_if_eq hx hb (eX12_readDate (92, .ifCond .eq 27, 3) (List.mem_of_getElem? (i := 49) rfl)) (tgt := 119) rfl (fun c369 => ?_) (fun c369 => (by exfalso; omega))
      have hyz : yzG sg.1 0 x366 = x366.2 := by unfold yzG; rw [if_neg (by omega)]
      refine lv_aload_n hx hb (eX12_readDate (119, .aload_n 0, 1) (List.mem_of_getElem? (i := 63) rfl)) rfl (lv_at hl368 3 rfl) ?_
      refine ff_iconst hx hb (eX12_readDate (120, .iconst 2, 1) (List.mem_of_getElem? (i := 64) rfl)) (by decide) (by decide) (fun v370 e370 => ?_)
      refine lv_iload_n hx hb (eX12_readDate (121, .iload_n 3, 1) (List.mem_of_getElem? (i := 65) rfl)) rfl (lv_at hl368 1 rfl) ?_
      refine ff_if_eq hx hb (eX12_readDate (122, .ifCond .eq 9, 3) (List.mem_of_getElem? (i := 66) rfl)) (tgt := 131) rfl (fun c371 => ?_) (fun c371 => (by exfalso; omega))
      refine lv_lload hx hb (eX12_readDate (131, .lload 4, 2) (List.mem_of_getElem? (i := 70) rfl)) (lv_at hl368 0 rfl) ?_
      refine tz_rowV (As := [.int v370, .long v367]) (st := []) (b := a) (C := RX12) (Ts := gT) hx hb hml hown h2 (fun _ h => h) (hX12_set l D cA ro sz H0 a v370 v367 2 n (upF g 3 (sg.1)) h ha hn1 (by omega) (by decide)) ⟨rfl, rfl⟩ ⟨by decide, by decide⟩ ⟨by decide, by decide⟩ (tb_8 72 rfl rfl) (tb_1 12 rfl rfl) (tb_8 69 rfl rfl) (tb_8 71 rfl rfl) (tb_0 42 rfl rfl) (show yX12_set.cls ≠ "java/lang/invoke/MethodHandle" ∧ yX12_set.cls ≠ "java/lang/invoke/VarHandle" ∧ (parseMethodDescriptor yX12_set.desc).map (fun d => d.parameters.length) = some 2 by decide +kernel) zs_blind (zs_ob hh366 ha (show RTg[11]? = some (0, 11, 0, fsX12) from rfl) (zCX12 hKn.1)) (fun U hU hW => ⟨rfl, by rw [hU]; exact hh366.l0, zKb s U hW.alike hKn, by rw [hU]; exact jg366⟩) hh366.2.2.1 hl368.1 (Nat.le_of_ble_eq_true rfl) (eX12_readDate (133, .invokevirtual 357, 3) (List.mem_of_getElem? (i := 71) rfl)) (fun r372 s372 t372 lo372 g372 f372 l372 => ?_)
      obtain ⟨q372, z372, c372, jg372⟩ := f372
      cases q372
      rw [g372] at c372
      have hh372 : zh_ok D cA RTg ro sz H0 t372.heap lo372 := ⟨z372.1, z372.2.1, l372, z372.2.2.2⟩
      have kp372 := kp366.trans (c372.mono (ms' := gM) (by decide))
      have jg372 : jG D cA ro t372.heap a n (upF (upF g 3 (sg.1)) 2 (x366.1)) h := by rw [← show v367.toInt = x366.1 by omega]; exact jg372
      have jv372 := jv366.kept ha c372 (by decide)
      refine W.eq (g2 := F0 m 136 ls368 []) rfl ?_
      refine lv_aload_n hx hb (eX12_readDate (136, .aload_n 0, 1) (List.mem_of_getElem? (i := 72) rfl)) rfl (lv_at hl368 3 rfl) ?_
      refine ff_iconst hx hb (eX12_readDate (137, .iconst 1, 1) (List.mem_of_getElem? (i := 73) rfl)) (by decide) (by decide) (fun v373 e373 => ?_)
      refine ff_ldc2 (n := 3) hx hb hown h2 (clX12_ok 134 3 (List.mem_of_getElem? (i := 15) rfl)) (eX12_readDate (138, .ldc2_w 134, 3) (List.mem_of_getElem? (i := 74) rfl)) (fun v374 e374 => ?_)
      refine tz_rowV (As := [.int v373, .long v374]) (st := []) (b := a) (C := RX12) (Ts := gT) hx hb hml hown h2 (fun _ h => h) (hX12_set l D cA ro sz H0 a v373 v374 1 n (upF (upF g 3 (sg.1)) 2 (x366.1)) h ha hn1 (by omega) (by decide)) ⟨rfl, rfl⟩ ⟨by decide, by decide⟩ ⟨by decide, by decide⟩ (tb_8 72 rfl rfl) (tb_1 12 rfl rfl) (tb_8 69 rfl rfl) (tb_8 71 rfl rfl) (tb_0 42 rfl rfl) (show yX12_set.cls ≠ "java/lang/invoke/MethodHandle" ∧ yX12_set.cls ≠ "java/lang/invoke/VarHandle" ∧ (parseMethodDescriptor yX12_set.desc).map (fun d => d.parameters.length) = some 2 by decide +kernel) zs_blind (zs_ob hh372 ha (show RTg[11]? = some (0, 11, 0, fsX12) from rfl) (zCX12 hKn.1)) (fun U hU hW => ⟨rfl, by rw [hU]; exact hh372.l0, zKb s U hW.alike hKn, by rw [hU]; exact jg372⟩) hh372.2.2.1 hl368.1 (Nat.le_of_ble_eq_true rfl) (eX12_readDate (141, .invokevirtual 357, 3) (List.mem_of_getElem? (i := 75) rfl)) (fun r375 s375 t375 lo375 g375 f375 l375 => ?_)
      obtain ⟨q375, z375, c375, jg375⟩ := f375
      cases q375
      rw [g375] at c375
      have hh375 : zh_ok D cA RTg ro sz H0 t375.heap lo375 := ⟨z375.1, z375.2.1, l375, z375.2.2.2⟩
      have kp375 := kp372.trans (c375.mono (ms' := gM) (by decide))
      have jg375 : jG D cA ro t375.heap a n (upF (upF (upF g 3 (sg.1)) 2 (x366.1)) 1 (3)) h := by rw [← show v374.toInt = 3 by omega]; exact jg375
      have jv375 := jv372.kept ha c375 (by decide)
      refine W.eq (g2 := F0 m 144 ls368 []) rfl ?_
      exact jn144 (upF (upF (upF g 3 (sg.1)) 2 (x366.1)) 1 (3)) x366.2 v352 0 ls368 _ _ hh375 kp375 jv375 jg375 (by omega) (by unfold yrG; dsimp only; rw [hng, hyq, hyz]; rw [if_neg (by decide)]) hsd (by decide) (lv_sub hl368 [2, 3, 4] rfl)
    · have hs8 : byI T sg.1 = 45 := by omega
      refine ff_iconst hx hb (eX12_readDate (28, .iconst 1, 1) (List.mem_of_getElem? (i := 14) rfl)) (by decide) (by decide) (fun v376 e376 => ?_)
      refine lv_goto hx hb (eX12_readDate (29, .goto 4, 3) (List.mem_of_getElem? (i := 15) rfl)) (tgt := 33) rfl ?_
      refine lv_istore_n hx hb (eX12_readDate (33, .istore_n 2, 1) (List.mem_of_getElem? (i := 17) rfl)) rfl hl (by decide) rfl (fun ls377 hl377 => ?_)
      refine lv_aload_n hx hb (eX12_readDate (34, .aload_n 0, 1) (List.mem_of_getElem? (i := 18) rfl)) rfl (lv_at hl377 1 rfl) ?_
      refine tz_rowV (As := []) (st := []) (b := a) (C := RX12) (Ts := gT) hx hb hml hown h2 (fun _ h => h) (hX12_sign l D cA ro sz H0 a T (sg) ha) ⟨rfl, rfl⟩ ⟨by decide, by decide⟩ ⟨by decide, by decide⟩ (tb_8 21 rfl rfl) (tb_1 12 rfl rfl) (tb_8 18 rfl rfl) (tb_8 20 rfl rfl) (tb_0 32 rfl rfl) (show yX12_sign.cls ≠ "java/lang/invoke/MethodHandle" ∧ yX12_sign.cls ≠ "java/lang/invoke/VarHandle" ∧ (parseMethodDescriptor yX12_sign.desc).map (fun d => d.parameters.length) = some 0 by decide +kernel) zs_blind (zs_ob hh349 ha (show RTg[11]? = some (0, 11, 0, fsX12) from rfl) (zCX12 hKn.1)) (fun U hU hW => ⟨rfl, by rw [hU]; exact hh349.l0, zKb s U hW.alike hKn, by rw [hU]; exact jv304⟩) hh349.2.2.1 hl377.1 (Nat.le_of_ble_eq_true rfl) (eX12_readDate (35, .invokevirtual 309, 3) (List.mem_of_getElem? (i := 19) rfl)) (fun r378 s378 t378 lo378 g378 f378 l378 => ?_)
      obtain ⟨z378, v378, q378, e378⟩ := f378
      cases q378
      rw [z378, g378]
      have hh378 : zh_ok D cA RTg ro sz H0 t304.heap lo378 := ⟨hh349.1, hh349.2.1, l378, hh349.2.2.2⟩
      refine W.eq (g2 := F0 m 38 ls377 [.int v378]) rfl ?_
      refine ff_bipush hx hb (eX12_readDate (38, .bipush 45, 2) (List.mem_of_getElem? (i := 20) rfl)) (by decide) (by decide) (fun v379 e379 => ?_)
      refine ff_icmp_ne hx hb (eX12_readDate (40, .if_icmp .ne 7, 3) (List.mem_of_getElem? (i := 21) rfl)) (tgt := 47) rfl (fun c380 => (by exfalso; omega)) (fun c380 => ?_)
      refine ff_iconst hx hb (eX12_readDate (43, .iconst 1, 1) (List.mem_of_getElem? (i := 22) rfl)) (by decide) (by decide) (fun v381 e381 => ?_)
      refine lv_goto hx hb (eX12_readDate (44, .goto 4, 3) (List.mem_of_getElem? (i := 23) rfl)) (tgt := 48) rfl ?_
      refine lv_istore_n hx hb (eX12_readDate (48, .istore_n 3, 1) (List.mem_of_getElem? (i := 25) rfl)) rfl hl377 (by decide) rfl (fun ls382 hl382 => ?_)
      have hsd : sdI T sg = 1 := by unfold sdI; rw [if_pos (by omega)]
      have hng : ngI T sg = 1 := by unfold ngI; rw [if_pos (by omega)]
      refine lv_aload_n hx hb (eX12_readDate (49, .aload_n 0, 1) (List.mem_of_getElem? (i := 26) rfl)) rfl (lv_at hl382 2 rfl) ?_
      refine lv_dup hx hb (eX12_readDate (50, .dup, 1) (List.mem_of_getElem? (i := 27) rfl)) rfl ?_
      obtain ⟨jt383, ⟨av383, fv383, bv383, f29383, f30383, f31383, hav383, hfv383, hbv383⟩, hu383⟩ := id jv304
      refine tz_get (r := 11) (k := 29) (t := (0, 0, 120)) hx hb hh378 ha rfl rfl (hcl11 293 29 (0, 0, 120) (by decide) rfl).1 f29383 (eX12_readDate (51, .getfield 293, 3) (List.mem_of_getElem? (i := 28) rfl)) ?_
      refine lv_iload_n hx hb (eX12_readDate (54, .iload_n 2, 1) (List.mem_of_getElem? (i := 29) rfl)) rfl (lv_at hl382 1 rfl) ?_
      refine ff_if_eq hx hb (eX12_readDate (55, .ifCond .eq 14, 3) (List.mem_of_getElem? (i := 30) rfl)) (tgt := 69) rfl (fun c384 => (by exfalso; omega)) (fun c384 => ?_)
      refine lv_aload_n hx hb (eX12_readDate (58, .aload_n 0, 1) (List.mem_of_getElem? (i := 31) rfl)) rfl (lv_at hl382 2 rfl) ?_
      refine tz_rowV (As := []) (st := [.int av383, .ref a]) (b := a) (C := RX12) (Ts := gT) hx hb hml hown h2 (fun _ h => h) (hX12_isGood l D cA ro sz H0 a T (sg) ha) ⟨rfl, rfl⟩ ⟨by decide, by decide⟩ ⟨by decide, by decide⟩ (tb_8 17 rfl rfl) (tb_1 12 rfl rfl) (tb_8 14 rfl rfl) (tb_8 16 rfl rfl) (tb_0 31 rfl rfl) (show yX12_isGood.cls ≠ "java/lang/invoke/MethodHandle" ∧ yX12_isGood.cls ≠ "java/lang/invoke/VarHandle" ∧ (parseMethodDescriptor yX12_isGood.desc).map (fun d => d.parameters.length) = some 0 by decide +kernel) zs_blind (zs_ob hh378 ha (show RTg[11]? = some (0, 11, 0, fsX12) from rfl) (zCX12 hKn.1)) (fun U hU hW => ⟨rfl, by rw [hU]; exact hh378.l0, zKb s U hW.alike hKn, by rw [hU]; exact jv304⟩) hh378.2.2.1 hl382.1 (Nat.le_of_ble_eq_true rfl) (eX12_readDate (59, .invokevirtual 305, 3) (List.mem_of_getElem? (i := 32) rfl)) (fun r385 s385 t385 lo385 g385 f385 l385 => ?_)
      obtain ⟨z385, v385, q385, e385⟩ := f385
      cases q385
      rw [z385, g385]
      have hh385 : zh_ok D cA RTg ro sz H0 t304.heap lo385 := ⟨hh378.1, hh378.2.1, l385, hh378.2.2.2⟩
      refine W.eq (g2 := F0 m 62 ls382 [.int v385, .int av383, .ref a]) rfl ?_
      refine ff_if_eq hx hb (eX12_readDate (62, .ifCond .eq 7, 3) (List.mem_of_getElem? (i := 33) rfl)) (tgt := 69) rfl (fun c386 => ?_) (fun c386 => ?_)
      · have hsa : sgA T sg = sg := by unfold sgA; rw [if_neg (by omega)]
        refine ff_iconst hx hb (eX12_readDate (69, .iconst 0, 1) (List.mem_of_getElem? (i := 36) rfl)) (by decide) (by decide) (fun v387 e387 => ?_)
        have ha9388 : av383.toInt + v387.toInt ≤ 121 ∧ 0 ≤ av383.toInt := by omega
        refine ff_iadd hx hb (eX12_readDate (70, .iadd, 1) (List.mem_of_getElem? (i := 37) rfl)) (by omega) (by omega) (fun v388 e388 => ?_)
        refine tz_put (r := 11) (k := 29) (t := (0, 0, 120)) hx hb hD hh385 ha rfl rfl ((hcl11 293 29 (0, 0, 120) (by decide) rfl).2 (by decide)) (tz_i (by omega) (by omega)) (eX12_readDate (71, .putfield 293, 3) (List.mem_of_getElem? (i := 38) rfl)) (fun H389 lo389 hh389 hf389 hk389 _ hq389 => ?_)
        have mf389_a_30 := (hk389.1 a 11 30 11 0 fsX12 ha rfl (by decide) (by decide)).trans f30383
        have mf389_a_31 := (hk389.1 a 11 31 11 0 fsX12 ha rfl (by decide) (by decide)).trans f31383
        have kp389 := kp304.trans (hk389.mono (ms' := gM) (fun x hx => by cases List.mem_singleton.mp hx; decide))
        have jv389 : jV D cA ro H389 a T sg := ⟨jv304.1.kept ha hk389 (by decide) (by decide) (by decide), ⟨_, _, _, hf389, mf389_a_30, mf389_a_31, by show _ = sg.1; omega, hfv383, hbv383⟩, jv304.2.2⟩
        have jg389 := jg304.kept ha hk389 (by decide)
        have uv389 := jv389.2.2
        unfold vOK at uv389
        have bb389 := byI_bd T sg.1
        refine lv_aload_n hx hb (eX12_readDate (74, .aload_n 0, 1) (List.mem_of_getElem? (i := 39) rfl)) rfl (lv_at hl382 2 rfl) ?_
        refine lv_iload_n hx hb (eX12_readDate (75, .iload_n 2, 1) (List.mem_of_getElem? (i := 40) rfl)) rfl (lv_at hl382 1 rfl) ?_
        refine ff_if_eq hx hb (eX12_readDate (76, .ifCond .eq 8, 3) (List.mem_of_getElem? (i := 41) rfl)) (tgt := 84) rfl (fun c390 => (by exfalso; omega)) (fun c390 => ?_)
        refine ff_bipush hx hb (eX12_readDate (79, .bipush 6, 2) (List.mem_of_getElem? (i := 42) rfl)) (by decide) (by decide) (fun v391 e391 => ?_)
        refine lv_goto hx hb (eX12_readDate (81, .goto 4, 3) (List.mem_of_getElem? (i := 43) rfl)) (tgt := 85) rfl ?_
        refine tz_rowV (As := [.int v391]) (st := []) (b := a) (C := RX12) (Ts := gT) hx hb hml hown h2 (fun _ h => h) (hX12_digitsW l D cA ro sz H0 a v391 6 T (sg) ha (by omega) (by decide)) ⟨rfl, rfl⟩ ⟨by decide, by decide⟩ ⟨by decide, by decide⟩ (tb_8 43 rfl rfl) (tb_1 12 rfl rfl) (tb_8 40 rfl rfl) (tb_8 42 rfl rfl) (tb_0 36 rfl rfl) (show yX12_digits.cls ≠ "java/lang/invoke/MethodHandle" ∧ yX12_digits.cls ≠ "java/lang/invoke/VarHandle" ∧ (parseMethodDescriptor yX12_digits.desc).map (fun d => d.parameters.length) = some 1 by decide +kernel) zs_blind (zs_ob hh389 ha (show RTg[11]? = some (0, 11, 0, fsX12) from rfl) (zCX12 hKn.1)) (fun U hU hW => ⟨rfl, by rw [hU]; exact hh389.l0, zKb s U hW.alike hKn, by rw [hU]; exact jv389⟩) hh389.2.2.1 hl382.1 (Nat.le_of_ble_eq_true rfl) (eX12_readDate (85, .invokevirtual 331, 3) (List.mem_of_getElem? (i := 45) rfl)) (fun r392 s392 t392 lo392 g392 f392 l392 => ?_)
        obtain ⟨v392, q392, e392, z392, c392, jv392⟩ := f392
        cases q392
        rw [g392] at c392
        have hh392 : zh_ok D cA RTg ro sz H0 t392.heap lo392 := ⟨z392.1, z392.2.1, l392, z392.2.2.2⟩
        have kp392 := kp389.trans (c392.mono (ms' := gM) (by decide))
        have kf392 := dgG_w (T := T) (n := 6) (r := sg) (M := 999999) (by decide)
        generalize hx392 : dgG T 6 0 sg = x392 at jv392 e392 kf392
        have uu392 := jv392.2.2
        unfold vOK at uu392
        have bb392 := byI_bd T x392.2.1
        have jg392 := jg389.kept ha c392 (by decide)
        refine W.eq (g2 := F0 m 88 ls382 [.int v392]) rfl ?_
        refine ff_i2l hx hb (eX12_readDate (88, .i2l, 1) (List.mem_of_getElem? (i := 46) rfl)) (fun v393 e393 => ?_)
        refine lv_lstore hx hb (eX12_readDate (89, .lstore 4, 2) (List.mem_of_getElem? (i := 47) rfl)) hl382 (by decide) rfl (fun ls394 hl394 => ?_)
        have hyq : yqG T sg = x392 := by unfold yqG; rw [hsd, if_pos rfl, hsa, hx392]
        refine lv_iload_n hx hb (eX12_readDate (91, .iload_n 3, 1) (List.mem_of_getElem? (i := 48) rfl)) rfl (lv_at hl394 1 rfl) ?_
        refine ff_if_eq hx hb (eX12_readDate (92, .ifCond .eq 27, 3) (List.mem_of_getElem? (i := 49) rfl)) (tgt := 119) rfl (fun c395 => (by exfalso; omega)) (fun c395 => ?_)
        refine lv_lload hx hb (eX12_readDate (95, .lload 4, 2) (List.mem_of_getElem? (i := 50) rfl)) (lv_at hl394 0 rfl) ?_
        refine ff_lconst hx hb (eX12_readDate (97, .lconst 0, 1) (List.mem_of_getElem? (i := 51) rfl)) rfl (fun v396 e396 => ?_)
        refine ff_lcmp hx hb (eX12_readDate (98, .lcmp, 1) (List.mem_of_getElem? (i := 52) rfl)) (fun v397 e397 => ?_)
        refine ff_if_ne hx hb (eX12_readDate (99, .ifCond .ne 20, 3) (List.mem_of_getElem? (i := 53) rfl)) (tgt := 119) rfl (fun c398 => ?_) (fun c398 => ?_)
        · have hyz : yzG sg.1 1 x392 = x392.2 := by unfold yzG; rw [if_neg (by omega)]
          refine lv_aload_n hx hb (eX12_readDate (119, .aload_n 0, 1) (List.mem_of_getElem? (i := 63) rfl)) rfl (lv_at hl394 3 rfl) ?_
          refine ff_iconst hx hb (eX12_readDate (120, .iconst 2, 1) (List.mem_of_getElem? (i := 64) rfl)) (by decide) (by decide) (fun v399 e399 => ?_)
          refine lv_iload_n hx hb (eX12_readDate (121, .iload_n 3, 1) (List.mem_of_getElem? (i := 65) rfl)) rfl (lv_at hl394 1 rfl) ?_
          refine ff_if_eq hx hb (eX12_readDate (122, .ifCond .eq 9, 3) (List.mem_of_getElem? (i := 66) rfl)) (tgt := 131) rfl (fun c400 => (by exfalso; omega)) (fun c400 => ?_)
          refine lv_lload hx hb (eX12_readDate (125, .lload 4, 2) (List.mem_of_getElem? (i := 67) rfl)) (lv_at hl394 0 rfl) ?_
          refine ff_lneg hx hb (eX12_readDate (127, .lneg, 1) (List.mem_of_getElem? (i := 68) rfl)) (by omega) (by omega) (fun v401 e401 => ?_)
          refine lv_goto hx hb (eX12_readDate (128, .goto 5, 3) (List.mem_of_getElem? (i := 69) rfl)) (tgt := 133) rfl ?_
          refine tz_rowV (As := [.int v399, .long v401]) (st := []) (b := a) (C := RX12) (Ts := gT) hx hb hml hown h2 (fun _ h => h) (hX12_set l D cA ro sz H0 a v399 v401 2 n (upF g 3 (sg.1)) h ha hn1 (by omega) (by decide)) ⟨rfl, rfl⟩ ⟨by decide, by decide⟩ ⟨by decide, by decide⟩ (tb_8 72 rfl rfl) (tb_1 12 rfl rfl) (tb_8 69 rfl rfl) (tb_8 71 rfl rfl) (tb_0 42 rfl rfl) (show yX12_set.cls ≠ "java/lang/invoke/MethodHandle" ∧ yX12_set.cls ≠ "java/lang/invoke/VarHandle" ∧ (parseMethodDescriptor yX12_set.desc).map (fun d => d.parameters.length) = some 2 by decide +kernel) zs_blind (zs_ob hh392 ha (show RTg[11]? = some (0, 11, 0, fsX12) from rfl) (zCX12 hKn.1)) (fun U hU hW => ⟨rfl, by rw [hU]; exact hh392.l0, zKb s U hW.alike hKn, by rw [hU]; exact jg392⟩) hh392.2.2.1 hl394.1 (Nat.le_of_ble_eq_true rfl) (eX12_readDate (133, .invokevirtual 357, 3) (List.mem_of_getElem? (i := 71) rfl)) (fun r402 s402 t402 lo402 g402 f402 l402 => ?_)
          obtain ⟨q402, z402, c402, jg402⟩ := f402
          cases q402
          rw [g402] at c402
          have hh402 : zh_ok D cA RTg ro sz H0 t402.heap lo402 := ⟨z402.1, z402.2.1, l402, z402.2.2.2⟩
          have kp402 := kp392.trans (c402.mono (ms' := gM) (by decide))
          have jg402 : jG D cA ro t402.heap a n (upF (upF g 3 (sg.1)) 2 (-x392.1)) h := by rw [← show v401.toInt = -x392.1 by omega]; exact jg402
          have jv402 := jv392.kept ha c402 (by decide)
          refine W.eq (g2 := F0 m 136 ls394 []) rfl ?_
          refine lv_aload_n hx hb (eX12_readDate (136, .aload_n 0, 1) (List.mem_of_getElem? (i := 72) rfl)) rfl (lv_at hl394 3 rfl) ?_
          refine ff_iconst hx hb (eX12_readDate (137, .iconst 1, 1) (List.mem_of_getElem? (i := 73) rfl)) (by decide) (by decide) (fun v403 e403 => ?_)
          refine ff_ldc2 (n := 3) hx hb hown h2 (clX12_ok 134 3 (List.mem_of_getElem? (i := 15) rfl)) (eX12_readDate (138, .ldc2_w 134, 3) (List.mem_of_getElem? (i := 74) rfl)) (fun v404 e404 => ?_)
          refine tz_rowV (As := [.int v403, .long v404]) (st := []) (b := a) (C := RX12) (Ts := gT) hx hb hml hown h2 (fun _ h => h) (hX12_set l D cA ro sz H0 a v403 v404 1 n (upF (upF g 3 (sg.1)) 2 (-x392.1)) h ha hn1 (by omega) (by decide)) ⟨rfl, rfl⟩ ⟨by decide, by decide⟩ ⟨by decide, by decide⟩ (tb_8 72 rfl rfl) (tb_1 12 rfl rfl) (tb_8 69 rfl rfl) (tb_8 71 rfl rfl) (tb_0 42 rfl rfl) (show yX12_set.cls ≠ "java/lang/invoke/MethodHandle" ∧ yX12_set.cls ≠ "java/lang/invoke/VarHandle" ∧ (parseMethodDescriptor yX12_set.desc).map (fun d => d.parameters.length) = some 2 by decide +kernel) zs_blind (zs_ob hh402 ha (show RTg[11]? = some (0, 11, 0, fsX12) from rfl) (zCX12 hKn.1)) (fun U hU hW => ⟨rfl, by rw [hU]; exact hh402.l0, zKb s U hW.alike hKn, by rw [hU]; exact jg402⟩) hh402.2.2.1 hl394.1 (Nat.le_of_ble_eq_true rfl) (eX12_readDate (141, .invokevirtual 357, 3) (List.mem_of_getElem? (i := 75) rfl)) (fun r405 s405 t405 lo405 g405 f405 l405 => ?_)
          obtain ⟨q405, z405, c405, jg405⟩ := f405
          cases q405
          rw [g405] at c405
          have hh405 : zh_ok D cA RTg ro sz H0 t405.heap lo405 := ⟨z405.1, z405.2.1, l405, z405.2.2.2⟩
          have kp405 := kp402.trans (c405.mono (ms' := gM) (by decide))
          have jg405 : jG D cA ro t405.heap a n (upF (upF (upF g 3 (sg.1)) 2 (-x392.1)) 1 (3)) h := by rw [← show v404.toInt = 3 by omega]; exact jg405
          have jv405 := jv402.kept ha c405 (by decide)
          refine W.eq (g2 := F0 m 144 ls394 []) rfl ?_
          exact jn144 (upF (upF (upF g 3 (sg.1)) 2 (-x392.1)) 1 (3)) x392.2 v376 1 ls394 _ _ hh405 kp405 jv405 jg405 (by omega) (by unfold yrG; dsimp only; rw [hng, hyq, hyz]; rw [if_pos rfl]) hsd (by decide) (lv_sub hl394 [2, 3, 4] rfl)
        · skip
          refine lv_aload_n hx hb (eX12_readDate (102, .aload_n 0, 1) (List.mem_of_getElem? (i := 54) rfl)) rfl (lv_at hl394 3 rfl) ?_
          refine tz_rowV (As := []) (st := []) (b := a) (C := RX12) (Ts := gT) hx hb hml hown h2 (fun _ h => h) (hX12_isGood l D cA ro sz H0 a T (x392.2) ha) ⟨rfl, rfl⟩ ⟨by decide, by decide⟩ ⟨by decide, by decide⟩ (tb_8 17 rfl rfl) (tb_1 12 rfl rfl) (tb_8 14 rfl rfl) (tb_8 16 rfl rfl) (tb_0 31 rfl rfl) (show yX12_isGood.cls ≠ "java/lang/invoke/MethodHandle" ∧ yX12_isGood.cls ≠ "java/lang/invoke/VarHandle" ∧ (parseMethodDescriptor yX12_isGood.desc).map (fun d => d.parameters.length) = some 0 by decide +kernel) zs_blind (zs_ob hh392 ha (show RTg[11]? = some (0, 11, 0, fsX12) from rfl) (zCX12 hKn.1)) (fun U hU hW => ⟨rfl, by rw [hU]; exact hh392.l0, zKb s U hW.alike hKn, by rw [hU]; exact jv392⟩) hh392.2.2.1 hl394.1 (Nat.le_of_ble_eq_true rfl) (eX12_readDate (103, .invokevirtual 305, 3) (List.mem_of_getElem? (i := 55) rfl)) (fun r406 s406 t406 lo406 g406 f406 l406 => ?_)
          obtain ⟨z406, v406, q406, e406⟩ := f406
          cases q406
          rw [z406, g406]
          have hh406 : zh_ok D cA RTg ro sz H0 t392.heap lo406 := ⟨hh392.1, hh392.2.1, l406, hh392.2.2.2⟩
          refine W.eq (g2 := F0 m 106 ls394 [.int v406]) rfl ?_
          refine ff_if_eq hx hb (eX12_readDate (106, .ifCond .eq 13, 3) (List.mem_of_getElem? (i := 56) rfl)) (tgt := 119) rfl (fun c407 => ?_) (fun c407 => ?_)
          · have hyz : yzG sg.1 1 x392 = x392.2 := by unfold yzG; rw [if_neg (by omega)]
            refine lv_aload_n hx hb (eX12_readDate (119, .aload_n 0, 1) (List.mem_of_getElem? (i := 63) rfl)) rfl (lv_at hl394 3 rfl) ?_
            refine ff_iconst hx hb (eX12_readDate (120, .iconst 2, 1) (List.mem_of_getElem? (i := 64) rfl)) (by decide) (by decide) (fun v408 e408 => ?_)
            refine lv_iload_n hx hb (eX12_readDate (121, .iload_n 3, 1) (List.mem_of_getElem? (i := 65) rfl)) rfl (lv_at hl394 1 rfl) ?_
            refine ff_if_eq hx hb (eX12_readDate (122, .ifCond .eq 9, 3) (List.mem_of_getElem? (i := 66) rfl)) (tgt := 131) rfl (fun c409 => (by exfalso; omega)) (fun c409 => ?_)
            refine lv_lload hx hb (eX12_readDate (125, .lload 4, 2) (List.mem_of_getElem? (i := 67) rfl)) (lv_at hl394 0 rfl) ?_
            refine ff_lneg hx hb (eX12_readDate (127, .lneg, 1) (List.mem_of_getElem? (i := 68) rfl)) (by omega) (by omega) (fun v410 e410 => ?_)
            refine lv_goto hx hb (eX12_readDate (128, .goto 5, 3) (List.mem_of_getElem? (i := 69) rfl)) (tgt := 133) rfl ?_
            refine tz_rowV (As := [.int v408, .long v410]) (st := []) (b := a) (C := RX12) (Ts := gT) hx hb hml hown h2 (fun _ h => h) (hX12_set l D cA ro sz H0 a v408 v410 2 n (upF g 3 (sg.1)) h ha hn1 (by omega) (by decide)) ⟨rfl, rfl⟩ ⟨by decide, by decide⟩ ⟨by decide, by decide⟩ (tb_8 72 rfl rfl) (tb_1 12 rfl rfl) (tb_8 69 rfl rfl) (tb_8 71 rfl rfl) (tb_0 42 rfl rfl) (show yX12_set.cls ≠ "java/lang/invoke/MethodHandle" ∧ yX12_set.cls ≠ "java/lang/invoke/VarHandle" ∧ (parseMethodDescriptor yX12_set.desc).map (fun d => d.parameters.length) = some 2 by decide +kernel) zs_blind (zs_ob hh406 ha (show RTg[11]? = some (0, 11, 0, fsX12) from rfl) (zCX12 hKn.1)) (fun U hU hW => ⟨rfl, by rw [hU]; exact hh406.l0, zKb s U hW.alike hKn, by rw [hU]; exact jg392⟩) hh406.2.2.1 hl394.1 (Nat.le_of_ble_eq_true rfl) (eX12_readDate (133, .invokevirtual 357, 3) (List.mem_of_getElem? (i := 71) rfl)) (fun r411 s411 t411 lo411 g411 f411 l411 => ?_)
            obtain ⟨q411, z411, c411, jg411⟩ := f411
            cases q411
            rw [g411] at c411
            have hh411 : zh_ok D cA RTg ro sz H0 t411.heap lo411 := ⟨z411.1, z411.2.1, l411, z411.2.2.2⟩
            have kp411 := kp392.trans (c411.mono (ms' := gM) (by decide))
            have jg411 : jG D cA ro t411.heap a n (upF (upF g 3 (sg.1)) 2 (-x392.1)) h := by rw [← show v410.toInt = -x392.1 by omega]; exact jg411
            have jv411 := jv392.kept ha c411 (by decide)
            refine W.eq (g2 := F0 m 136 ls394 []) rfl ?_
            refine lv_aload_n hx hb (eX12_readDate (136, .aload_n 0, 1) (List.mem_of_getElem? (i := 72) rfl)) rfl (lv_at hl394 3 rfl) ?_
            refine ff_iconst hx hb (eX12_readDate (137, .iconst 1, 1) (List.mem_of_getElem? (i := 73) rfl)) (by decide) (by decide) (fun v412 e412 => ?_)
            refine ff_ldc2 (n := 3) hx hb hown h2 (clX12_ok 134 3 (List.mem_of_getElem? (i := 15) rfl)) (eX12_readDate (138, .ldc2_w 134, 3) (List.mem_of_getElem? (i := 74) rfl)) (fun v413 e413 => ?_)
            refine tz_rowV (As := [.int v412, .long v413]) (st := []) (b := a) (C := RX12) (Ts := gT) hx hb hml hown h2 (fun _ h => h) (hX12_set l D cA ro sz H0 a v412 v413 1 n (upF (upF g 3 (sg.1)) 2 (-x392.1)) h ha hn1 (by omega) (by decide)) ⟨rfl, rfl⟩ ⟨by decide, by decide⟩ ⟨by decide, by decide⟩ (tb_8 72 rfl rfl) (tb_1 12 rfl rfl) (tb_8 69 rfl rfl) (tb_8 71 rfl rfl) (tb_0 42 rfl rfl) (show yX12_set.cls ≠ "java/lang/invoke/MethodHandle" ∧ yX12_set.cls ≠ "java/lang/invoke/VarHandle" ∧ (parseMethodDescriptor yX12_set.desc).map (fun d => d.parameters.length) = some 2 by decide +kernel) zs_blind (zs_ob hh411 ha (show RTg[11]? = some (0, 11, 0, fsX12) from rfl) (zCX12 hKn.1)) (fun U hU hW => ⟨rfl, by rw [hU]; exact hh411.l0, zKb s U hW.alike hKn, by rw [hU]; exact jg411⟩) hh411.2.2.1 hl394.1 (Nat.le_of_ble_eq_true rfl) (eX12_readDate (141, .invokevirtual 357, 3) (List.mem_of_getElem? (i := 75) rfl)) (fun r414 s414 t414 lo414 g414 f414 l414 => ?_)
            obtain ⟨q414, z414, c414, jg414⟩ := f414
            cases q414
            rw [g414] at c414
            have hh414 : zh_ok D cA RTg ro sz H0 t414.heap lo414 := ⟨z414.1, z414.2.1, l414, z414.2.2.2⟩
            have kp414 := kp411.trans (c414.mono (ms' := gM) (by decide))
            have jg414 : jG D cA ro t414.heap a n (upF (upF (upF g 3 (sg.1)) 2 (-x392.1)) 1 (3)) h := by rw [← show v413.toInt = 3 by omega]; exact jg414
            have jv414 := jv411.kept ha c414 (by decide)
            refine W.eq (g2 := F0 m 144 ls394 []) rfl ?_
            exact jn144 (upF (upF (upF g 3 (sg.1)) 2 (-x392.1)) 1 (3)) x392.2 v376 1 ls394 _ _ hh414 kp414 jv414 jg414 (by omega) (by unfold yrG; dsimp only; rw [hng, hyq, hyz]; rw [if_pos rfl]) hsd (by decide) (lv_sub hl394 [2, 3, 4] rfl)
          · have hyz : yzG sg.1 1 x392 = bdG sg.1 x392.2 := by unfold yzG; rw [if_pos ⟨rfl, by omega, by omega⟩]
            refine lv_aload_n hx hb (eX12_readDate (109, .aload_n 0, 1) (List.mem_of_getElem? (i := 57) rfl)) rfl (lv_at hl394 3 rfl) ?_
            refine lv_aload_n hx hb (eX12_readDate (110, .aload_n 0, 1) (List.mem_of_getElem? (i := 58) rfl)) rfl (lv_at hl394 3 rfl) ?_
            refine ff_iconst hx hb (eX12_readDate (111, .iconst 3, 1) (List.mem_of_getElem? (i := 59) rfl)) (by decide) (by decide) (fun v415 e415 => ?_)
            refine tz_rowV (As := [.int v415]) (st := [.ref a]) (b := a) (C := RX12) (Ts := gT) hx hb hml hown h2 (fun _ h => h) (hX12_get l D cA ro sz H0 a v415 3 n (upF g 3 (sg.1)) h ha hn1 (by omega) (by decide)) ⟨rfl, rfl⟩ ⟨by decide, by decide⟩ ⟨by decide, by decide⟩ (tb_8 94 rfl rfl) (tb_1 12 rfl rfl) (tb_8 91 rfl rfl) (tb_8 93 rfl rfl) (tb_0 47 rfl rfl) (show yX12_get.cls ≠ "java/lang/invoke/MethodHandle" ∧ yX12_get.cls ≠ "java/lang/invoke/VarHandle" ∧ (parseMethodDescriptor yX12_get.desc).map (fun d => d.parameters.length) = some 1 by decide +kernel) zs_blind (zs_ob hh406 ha (show RTg[11]? = some (0, 11, 0, fsX12) from rfl) (zCX12 hKn.1)) (fun U hU hW => ⟨rfl, by rw [hU]; exact hh406.l0, zKb s U hW.alike hKn, by rw [hU]; exact jg392⟩) hh406.2.2.1 hl394.1 (Nat.le_of_ble_eq_true rfl) (eX12_readDate (112, .invokevirtual 361, 3) (List.mem_of_getElem? (i := 60) rfl)) (fun r416 s416 t416 lo416 g416 f416 l416 => ?_)
            obtain ⟨z416, v416, q416, e416⟩ := f416
            cases q416
            rw [z416, g416]
            have hh416 : zh_ok D cA RTg ro sz H0 t392.heap lo416 := ⟨hh406.1, hh406.2.1, l416, hh406.2.2.2⟩
            rw [up_eq] at e416
            refine W.eq (g2 := F0 m 115 ls394 [.long v416, .ref a]) rfl ?_
            refine ff_l2i hx hb (eX12_readDate (115, .l2i, 1) (List.mem_of_getElem? (i := 61) rfl)) (by omega) (by omega) (fun v417 e417 => ?_)
            refine tz_rowV (As := [.int v417]) (st := []) (b := a) (C := RX12) (Ts := gT) hx hb hml hown h2 (fun _ h => h) (hX12_bad l D cA ro sz H0 a v417 (sg.1) T (x392.2) ha (by omega)) ⟨rfl, rfl⟩ ⟨by decide, by decide⟩ ⟨by decide, by decide⟩ (tb_8 47 rfl rfl) (tb_1 12 rfl rfl) (tb_8 44 rfl rfl) (tb_8 46 rfl rfl) (tb_0 37 rfl rfl) (show yX12_bad.cls ≠ "java/lang/invoke/MethodHandle" ∧ yX12_bad.cls ≠ "java/lang/invoke/VarHandle" ∧ (parseMethodDescriptor yX12_bad.desc).map (fun d => d.parameters.length) = some 1 by decide +kernel) zs_blind (zs_ob hh416 ha (show RTg[11]? = some (0, 11, 0, fsX12) from rfl) (zCX12 hKn.1)) (fun U hU hW => ⟨rfl, by rw [hU]; exact hh416.l0, zKb s U hW.alike hKn, by rw [hU]; exact jv392⟩) hh416.2.2.1 hl394.1 (Nat.le_of_ble_eq_true rfl) (eX12_readDate (116, .invokevirtual 335, 3) (List.mem_of_getElem? (i := 62) rfl)) (fun r418 s418 t418 lo418 g418 f418 l418 => ?_)
            obtain ⟨q418, z418, c418, jv418⟩ := f418
            cases q418
            rw [g418] at c418
            have hh418 : zh_ok D cA RTg ro sz H0 t418.heap lo418 := ⟨z418.1, z418.2.1, l418, z418.2.2.2⟩
            have kp418 := kp392.trans (c418.mono (ms' := gM) (by decide))
            generalize hx418 : bdG (sg.1) x392.2 = x418 at jv418
            have uu418 := jv418.2.2
            unfold vOK at uu418
            have bb418 := byI_bd T x418.1
            have jg418 := jg392.kept ha c418 (by decide)
            refine W.eq (g2 := F0 m 119 ls394 []) rfl ?_
            refine lv_aload_n hx hb (eX12_readDate (119, .aload_n 0, 1) (List.mem_of_getElem? (i := 63) rfl)) rfl (lv_at hl394 3 rfl) ?_
            refine ff_iconst hx hb (eX12_readDate (120, .iconst 2, 1) (List.mem_of_getElem? (i := 64) rfl)) (by decide) (by decide) (fun v419 e419 => ?_)
            refine lv_iload_n hx hb (eX12_readDate (121, .iload_n 3, 1) (List.mem_of_getElem? (i := 65) rfl)) rfl (lv_at hl394 1 rfl) ?_
            refine ff_if_eq hx hb (eX12_readDate (122, .ifCond .eq 9, 3) (List.mem_of_getElem? (i := 66) rfl)) (tgt := 131) rfl (fun c420 => (by exfalso; omega)) (fun c420 => ?_)
            refine lv_lload hx hb (eX12_readDate (125, .lload 4, 2) (List.mem_of_getElem? (i := 67) rfl)) (lv_at hl394 0 rfl) ?_
            refine ff_lneg hx hb (eX12_readDate (127, .lneg, 1) (List.mem_of_getElem? (i := 68) rfl)) (by omega) (by omega) (fun v421 e421 => ?_)
            refine lv_goto hx hb (eX12_readDate (128, .goto 5, 3) (List.mem_of_getElem? (i := 69) rfl)) (tgt := 133) rfl ?_
            refine tz_rowV (As := [.int v419, .long v421]) (st := []) (b := a) (C := RX12) (Ts := gT) hx hb hml hown h2 (fun _ h => h) (hX12_set l D cA ro sz H0 a v419 v421 2 n (upF g 3 (sg.1)) h ha hn1 (by omega) (by decide)) ⟨rfl, rfl⟩ ⟨by decide, by decide⟩ ⟨by decide, by decide⟩ (tb_8 72 rfl rfl) (tb_1 12 rfl rfl) (tb_8 69 rfl rfl) (tb_8 71 rfl rfl) (tb_0 42 rfl rfl) (show yX12_set.cls ≠ "java/lang/invoke/MethodHandle" ∧ yX12_set.cls ≠ "java/lang/invoke/VarHandle" ∧ (parseMethodDescriptor yX12_set.desc).map (fun d => d.parameters.length) = some 2 by decide +kernel) zs_blind (zs_ob hh418 ha (show RTg[11]? = some (0, 11, 0, fsX12) from rfl) (zCX12 hKn.1)) (fun U hU hW => ⟨rfl, by rw [hU]; exact hh418.l0, zKb s U hW.alike hKn, by rw [hU]; exact jg418⟩) hh418.2.2.1 hl394.1 (Nat.le_of_ble_eq_true rfl) (eX12_readDate (133, .invokevirtual 357, 3) (List.mem_of_getElem? (i := 71) rfl)) (fun r422 s422 t422 lo422 g422 f422 l422 => ?_)
            obtain ⟨q422, z422, c422, jg422⟩ := f422
            cases q422
            rw [g422] at c422
            have hh422 : zh_ok D cA RTg ro sz H0 t422.heap lo422 := ⟨z422.1, z422.2.1, l422, z422.2.2.2⟩
            have kp422 := kp418.trans (c422.mono (ms' := gM) (by decide))
            have jg422 : jG D cA ro t422.heap a n (upF (upF g 3 (sg.1)) 2 (-x392.1)) h := by rw [← show v421.toInt = -x392.1 by omega]; exact jg422
            have jv422 := jv418.kept ha c422 (by decide)
            refine W.eq (g2 := F0 m 136 ls394 []) rfl ?_
            refine lv_aload_n hx hb (eX12_readDate (136, .aload_n 0, 1) (List.mem_of_getElem? (i := 72) rfl)) rfl (lv_at hl394 3 rfl) ?_
            refine ff_iconst hx hb (eX12_readDate (137, .iconst 1, 1) (List.mem_of_getElem? (i := 73) rfl)) (by decide) (by decide) (fun v423 e423 => ?_)
            refine ff_ldc2 (n := 3) hx hb hown h2 (clX12_ok 134 3 (List.mem_of_getElem? (i := 15) rfl)) (eX12_readDate (138, .ldc2_w 134, 3) (List.mem_of_getElem? (i := 74) rfl)) (fun v424 e424 => ?_)
            refine tz_rowV (As := [.int v423, .long v424]) (st := []) (b := a) (C := RX12) (Ts := gT) hx hb hml hown h2 (fun _ h => h) (hX12_set l D cA ro sz H0 a v423 v424 1 n (upF (upF g 3 (sg.1)) 2 (-x392.1)) h ha hn1 (by omega) (by decide)) ⟨rfl, rfl⟩ ⟨by decide, by decide⟩ ⟨by decide, by decide⟩ (tb_8 72 rfl rfl) (tb_1 12 rfl rfl) (tb_8 69 rfl rfl) (tb_8 71 rfl rfl) (tb_0 42 rfl rfl) (show yX12_set.cls ≠ "java/lang/invoke/MethodHandle" ∧ yX12_set.cls ≠ "java/lang/invoke/VarHandle" ∧ (parseMethodDescriptor yX12_set.desc).map (fun d => d.parameters.length) = some 2 by decide +kernel) zs_blind (zs_ob hh422 ha (show RTg[11]? = some (0, 11, 0, fsX12) from rfl) (zCX12 hKn.1)) (fun U hU hW => ⟨rfl, by rw [hU]; exact hh422.l0, zKb s U hW.alike hKn, by rw [hU]; exact jg422⟩) hh422.2.2.1 hl394.1 (Nat.le_of_ble_eq_true rfl) (eX12_readDate (141, .invokevirtual 357, 3) (List.mem_of_getElem? (i := 75) rfl)) (fun r425 s425 t425 lo425 g425 f425 l425 => ?_)
            obtain ⟨q425, z425, c425, jg425⟩ := f425
            cases q425
            rw [g425] at c425
            have hh425 : zh_ok D cA RTg ro sz H0 t425.heap lo425 := ⟨z425.1, z425.2.1, l425, z425.2.2.2⟩
            have kp425 := kp422.trans (c425.mono (ms' := gM) (by decide))
            have jg425 : jG D cA ro t425.heap a n (upF (upF (upF g 3 (sg.1)) 2 (-x392.1)) 1 (3)) h := by rw [← show v424.toInt = 3 by omega]; exact jg425
            have jv425 := jv422.kept ha c425 (by decide)
            refine W.eq (g2 := F0 m 144 ls394 []) rfl ?_
            exact jn144 (upF (upF (upF g 3 (sg.1)) 2 (-x392.1)) 1 (3)) x418 v376 1 ls394 _ _ hh425 kp425 jv425 jg425 (by omega) (by unfold yrG; dsimp only; rw [hng, hyq, hyz]; rw [if_pos rfl, hx418]) hsd (by decide) (lv_sub hl394 [2, 3, 4] rfl)
      · have hsa : sgA T sg = (sg.1 + 1, sg.2) := by unfold sgA; rw [if_pos ⟨hsd, by omega⟩]
        refine ff_iconst hx hb (eX12_readDate (65, .iconst 1, 1) (List.mem_of_getElem? (i := 34) rfl)) (by decide) (by decide) (fun v426 e426 => ?_)
        refine lv_goto hx hb (eX12_readDate (66, .goto 4, 3) (List.mem_of_getElem? (i := 35) rfl)) (tgt := 70) rfl ?_
        have ha9427 : av383.toInt + v426.toInt ≤ 121 ∧ 0 ≤ av383.toInt := by omega
        refine ff_iadd hx hb (eX12_readDate (70, .iadd, 1) (List.mem_of_getElem? (i := 37) rfl)) (by omega) (by omega) (fun v427 e427 => ?_)
        have hlt := byI_lt (T := T) (a := sg.1) (by omega) (by omega)
        refine tz_put (r := 11) (k := 29) (t := (0, 0, 120)) hx hb hD hh385 ha rfl rfl ((hcl11 293 29 (0, 0, 120) (by decide) rfl).2 (by decide)) (tz_i (by omega) (by omega)) (eX12_readDate (71, .putfield 293, 3) (List.mem_of_getElem? (i := 38) rfl)) (fun H428 lo428 hh428 hf428 hk428 _ hq428 => ?_)
        have mf428_a_30 := (hk428.1 a 11 30 11 0 fsX12 ha rfl (by decide) (by decide)).trans f30383
        have mf428_a_31 := (hk428.1 a 11 31 11 0 fsX12 ha rfl (by decide) (by decide)).trans f31383
        have kp428 := kp304.trans (hk428.mono (ms' := gM) (fun x hx => by cases List.mem_singleton.mp hx; decide))
        have jv428 : jV D cA ro H428 a T (sg.1 + 1, sg.2) := ⟨jv304.1.kept ha hk428 (by decide) (by decide) (by decide), ⟨_, _, _, hf428, mf428_a_30, mf428_a_31, by show _ = sg.1 + 1; omega, hfv383, hbv383⟩, adG_ok jv304.2.2 (by omega)⟩
        have jg428 := jg304.kept ha hk428 (by decide)
        have uv428 := jv428.2.2
        unfold vOK at uv428
        have bb428 := byI_bd T (sg.1 + 1, sg.2).1
        refine lv_aload_n hx hb (eX12_readDate (74, .aload_n 0, 1) (List.mem_of_getElem? (i := 39) rfl)) rfl (lv_at hl382 2 rfl) ?_
        refine lv_iload_n hx hb (eX12_readDate (75, .iload_n 2, 1) (List.mem_of_getElem? (i := 40) rfl)) rfl (lv_at hl382 1 rfl) ?_
        refine ff_if_eq hx hb (eX12_readDate (76, .ifCond .eq 8, 3) (List.mem_of_getElem? (i := 41) rfl)) (tgt := 84) rfl (fun c429 => (by exfalso; omega)) (fun c429 => ?_)
        refine ff_bipush hx hb (eX12_readDate (79, .bipush 6, 2) (List.mem_of_getElem? (i := 42) rfl)) (by decide) (by decide) (fun v430 e430 => ?_)
        refine lv_goto hx hb (eX12_readDate (81, .goto 4, 3) (List.mem_of_getElem? (i := 43) rfl)) (tgt := 85) rfl ?_
        refine tz_rowV (As := [.int v430]) (st := []) (b := a) (C := RX12) (Ts := gT) hx hb hml hown h2 (fun _ h => h) (hX12_digitsW l D cA ro sz H0 a v430 6 T ((sg.1 + 1, sg.2)) ha (by omega) (by decide)) ⟨rfl, rfl⟩ ⟨by decide, by decide⟩ ⟨by decide, by decide⟩ (tb_8 43 rfl rfl) (tb_1 12 rfl rfl) (tb_8 40 rfl rfl) (tb_8 42 rfl rfl) (tb_0 36 rfl rfl) (show yX12_digits.cls ≠ "java/lang/invoke/MethodHandle" ∧ yX12_digits.cls ≠ "java/lang/invoke/VarHandle" ∧ (parseMethodDescriptor yX12_digits.desc).map (fun d => d.parameters.length) = some 1 by decide +kernel) zs_blind (zs_ob hh428 ha (show RTg[11]? = some (0, 11, 0, fsX12) from rfl) (zCX12 hKn.1)) (fun U hU hW => ⟨rfl, by rw [hU]; exact hh428.l0, zKb s U hW.alike hKn, by rw [hU]; exact jv428⟩) hh428.2.2.1 hl382.1 (Nat.le_of_ble_eq_true rfl) (eX12_readDate (85, .invokevirtual 331, 3) (List.mem_of_getElem? (i := 45) rfl)) (fun r431 s431 t431 lo431 g431 f431 l431 => ?_)
        obtain ⟨v431, q431, e431, z431, c431, jv431⟩ := f431
        cases q431
        rw [g431] at c431
        have hh431 : zh_ok D cA RTg ro sz H0 t431.heap lo431 := ⟨z431.1, z431.2.1, l431, z431.2.2.2⟩
        have kp431 := kp428.trans (c431.mono (ms' := gM) (by decide))
        have kf431 := dgG_w (T := T) (n := 6) (r := (sg.1 + 1, sg.2)) (M := 999999) (by decide)
        generalize hx431 : dgG T 6 0 (sg.1 + 1, sg.2) = x431 at jv431 e431 kf431
        have uu431 := jv431.2.2
        unfold vOK at uu431
        have bb431 := byI_bd T x431.2.1
        have jg431 := jg428.kept ha c431 (by decide)
        refine W.eq (g2 := F0 m 88 ls382 [.int v431]) rfl ?_
        refine ff_i2l hx hb (eX12_readDate (88, .i2l, 1) (List.mem_of_getElem? (i := 46) rfl)) (fun v432 e432 => ?_)
        refine lv_lstore hx hb (eX12_readDate (89, .lstore 4, 2) (List.mem_of_getElem? (i := 47) rfl)) hl382 (by decide) rfl (fun ls433 hl433 => ?_)
        have hyq : yqG T sg = x431 := by unfold yqG; rw [hsd, if_pos rfl, hsa, hx431]
        refine lv_iload_n hx hb (eX12_readDate (91, .iload_n 3, 1) (List.mem_of_getElem? (i := 48) rfl)) rfl (lv_at hl433 1 rfl) ?_
        refine ff_if_eq hx hb (eX12_readDate (92, .ifCond .eq 27, 3) (List.mem_of_getElem? (i := 49) rfl)) (tgt := 119) rfl (fun c434 => (by exfalso; omega)) (fun c434 => ?_)
        refine lv_lload hx hb (eX12_readDate (95, .lload 4, 2) (List.mem_of_getElem? (i := 50) rfl)) (lv_at hl433 0 rfl) ?_
        refine ff_lconst hx hb (eX12_readDate (97, .lconst 0, 1) (List.mem_of_getElem? (i := 51) rfl)) rfl (fun v435 e435 => ?_)
        refine ff_lcmp hx hb (eX12_readDate (98, .lcmp, 1) (List.mem_of_getElem? (i := 52) rfl)) (fun v436 e436 => ?_)
        refine ff_if_ne hx hb (eX12_readDate (99, .ifCond .ne 20, 3) (List.mem_of_getElem? (i := 53) rfl)) (tgt := 119) rfl (fun c437 => ?_) (fun c437 => ?_)
        · have hyz : yzG sg.1 1 x431 = x431.2 := by unfold yzG; rw [if_neg (by omega)]
          refine lv_aload_n hx hb (eX12_readDate (119, .aload_n 0, 1) (List.mem_of_getElem? (i := 63) rfl)) rfl (lv_at hl433 3 rfl) ?_
          refine ff_iconst hx hb (eX12_readDate (120, .iconst 2, 1) (List.mem_of_getElem? (i := 64) rfl)) (by decide) (by decide) (fun v438 e438 => ?_)
          refine lv_iload_n hx hb (eX12_readDate (121, .iload_n 3, 1) (List.mem_of_getElem? (i := 65) rfl)) rfl (lv_at hl433 1 rfl) ?_
          refine ff_if_eq hx hb (eX12_readDate (122, .ifCond .eq 9, 3) (List.mem_of_getElem? (i := 66) rfl)) (tgt := 131) rfl (fun c439 => (by exfalso; omega)) (fun c439 => ?_)
          refine lv_lload hx hb (eX12_readDate (125, .lload 4, 2) (List.mem_of_getElem? (i := 67) rfl)) (lv_at hl433 0 rfl) ?_
          refine ff_lneg hx hb (eX12_readDate (127, .lneg, 1) (List.mem_of_getElem? (i := 68) rfl)) (by omega) (by omega) (fun v440 e440 => ?_)
          refine lv_goto hx hb (eX12_readDate (128, .goto 5, 3) (List.mem_of_getElem? (i := 69) rfl)) (tgt := 133) rfl ?_
          refine tz_rowV (As := [.int v438, .long v440]) (st := []) (b := a) (C := RX12) (Ts := gT) hx hb hml hown h2 (fun _ h => h) (hX12_set l D cA ro sz H0 a v438 v440 2 n (upF g 3 (sg.1)) h ha hn1 (by omega) (by decide)) ⟨rfl, rfl⟩ ⟨by decide, by decide⟩ ⟨by decide, by decide⟩ (tb_8 72 rfl rfl) (tb_1 12 rfl rfl) (tb_8 69 rfl rfl) (tb_8 71 rfl rfl) (tb_0 42 rfl rfl) (show yX12_set.cls ≠ "java/lang/invoke/MethodHandle" ∧ yX12_set.cls ≠ "java/lang/invoke/VarHandle" ∧ (parseMethodDescriptor yX12_set.desc).map (fun d => d.parameters.length) = some 2 by decide +kernel) zs_blind (zs_ob hh431 ha (show RTg[11]? = some (0, 11, 0, fsX12) from rfl) (zCX12 hKn.1)) (fun U hU hW => ⟨rfl, by rw [hU]; exact hh431.l0, zKb s U hW.alike hKn, by rw [hU]; exact jg431⟩) hh431.2.2.1 hl433.1 (Nat.le_of_ble_eq_true rfl) (eX12_readDate (133, .invokevirtual 357, 3) (List.mem_of_getElem? (i := 71) rfl)) (fun r441 s441 t441 lo441 g441 f441 l441 => ?_)
          obtain ⟨q441, z441, c441, jg441⟩ := f441
          cases q441
          rw [g441] at c441
          have hh441 : zh_ok D cA RTg ro sz H0 t441.heap lo441 := ⟨z441.1, z441.2.1, l441, z441.2.2.2⟩
          have kp441 := kp431.trans (c441.mono (ms' := gM) (by decide))
          have jg441 : jG D cA ro t441.heap a n (upF (upF g 3 (sg.1)) 2 (-x431.1)) h := by rw [← show v440.toInt = -x431.1 by omega]; exact jg441
          have jv441 := jv431.kept ha c441 (by decide)
          refine W.eq (g2 := F0 m 136 ls433 []) rfl ?_
          refine lv_aload_n hx hb (eX12_readDate (136, .aload_n 0, 1) (List.mem_of_getElem? (i := 72) rfl)) rfl (lv_at hl433 3 rfl) ?_
          refine ff_iconst hx hb (eX12_readDate (137, .iconst 1, 1) (List.mem_of_getElem? (i := 73) rfl)) (by decide) (by decide) (fun v442 e442 => ?_)
          refine ff_ldc2 (n := 3) hx hb hown h2 (clX12_ok 134 3 (List.mem_of_getElem? (i := 15) rfl)) (eX12_readDate (138, .ldc2_w 134, 3) (List.mem_of_getElem? (i := 74) rfl)) (fun v443 e443 => ?_)
          refine tz_rowV (As := [.int v442, .long v443]) (st := []) (b := a) (C := RX12) (Ts := gT) hx hb hml hown h2 (fun _ h => h) (hX12_set l D cA ro sz H0 a v442 v443 1 n (upF (upF g 3 (sg.1)) 2 (-x431.1)) h ha hn1 (by omega) (by decide)) ⟨rfl, rfl⟩ ⟨by decide, by decide⟩ ⟨by decide, by decide⟩ (tb_8 72 rfl rfl) (tb_1 12 rfl rfl) (tb_8 69 rfl rfl) (tb_8 71 rfl rfl) (tb_0 42 rfl rfl) (show yX12_set.cls ≠ "java/lang/invoke/MethodHandle" ∧ yX12_set.cls ≠ "java/lang/invoke/VarHandle" ∧ (parseMethodDescriptor yX12_set.desc).map (fun d => d.parameters.length) = some 2 by decide +kernel) zs_blind (zs_ob hh441 ha (show RTg[11]? = some (0, 11, 0, fsX12) from rfl) (zCX12 hKn.1)) (fun U hU hW => ⟨rfl, by rw [hU]; exact hh441.l0, zKb s U hW.alike hKn, by rw [hU]; exact jg441⟩) hh441.2.2.1 hl433.1 (Nat.le_of_ble_eq_true rfl) (eX12_readDate (141, .invokevirtual 357, 3) (List.mem_of_getElem? (i := 75) rfl)) (fun r444 s444 t444 lo444 g444 f444 l444 => ?_)
          obtain ⟨q444, z444, c444, jg444⟩ := f444
          cases q444
          rw [g444] at c444
          have hh444 : zh_ok D cA RTg ro sz H0 t444.heap lo444 := ⟨z444.1, z444.2.1, l444, z444.2.2.2⟩
          have kp444 := kp441.trans (c444.mono (ms' := gM) (by decide))
          have jg444 : jG D cA ro t444.heap a n (upF (upF (upF g 3 (sg.1)) 2 (-x431.1)) 1 (3)) h := by rw [← show v443.toInt = 3 by omega]; exact jg444
          have jv444 := jv441.kept ha c444 (by decide)
          refine W.eq (g2 := F0 m 144 ls433 []) rfl ?_
          exact jn144 (upF (upF (upF g 3 (sg.1)) 2 (-x431.1)) 1 (3)) x431.2 v376 1 ls433 _ _ hh444 kp444 jv444 jg444 (by omega) (by unfold yrG; dsimp only; rw [hng, hyq, hyz]; rw [if_pos rfl]) hsd (by decide) (lv_sub hl433 [2, 3, 4] rfl)
        · skip
          refine lv_aload_n hx hb (eX12_readDate (102, .aload_n 0, 1) (List.mem_of_getElem? (i := 54) rfl)) rfl (lv_at hl433 3 rfl) ?_
          refine tz_rowV (As := []) (st := []) (b := a) (C := RX12) (Ts := gT) hx hb hml hown h2 (fun _ h => h) (hX12_isGood l D cA ro sz H0 a T (x431.2) ha) ⟨rfl, rfl⟩ ⟨by decide, by decide⟩ ⟨by decide, by decide⟩ (tb_8 17 rfl rfl) (tb_1 12 rfl rfl) (tb_8 14 rfl rfl) (tb_8 16 rfl rfl) (tb_0 31 rfl rfl) (show yX12_isGood.cls ≠ "java/lang/invoke/MethodHandle" ∧ yX12_isGood.cls ≠ "java/lang/invoke/VarHandle" ∧ (parseMethodDescriptor yX12_isGood.desc).map (fun d => d.parameters.length) = some 0 by decide +kernel) zs_blind (zs_ob hh431 ha (show RTg[11]? = some (0, 11, 0, fsX12) from rfl) (zCX12 hKn.1)) (fun U hU hW => ⟨rfl, by rw [hU]; exact hh431.l0, zKb s U hW.alike hKn, by rw [hU]; exact jv431⟩) hh431.2.2.1 hl433.1 (Nat.le_of_ble_eq_true rfl) (eX12_readDate (103, .invokevirtual 305, 3) (List.mem_of_getElem? (i := 55) rfl)) (fun r445 s445 t445 lo445 g445 f445 l445 => ?_)
          obtain ⟨z445, v445, q445, e445⟩ := f445
          cases q445
          rw [z445, g445]
          have hh445 : zh_ok D cA RTg ro sz H0 t431.heap lo445 := ⟨hh431.1, hh431.2.1, l445, hh431.2.2.2⟩
          refine W.eq (g2 := F0 m 106 ls433 [.int v445]) rfl ?_
          refine ff_if_eq hx hb (eX12_readDate (106, .ifCond .eq 13, 3) (List.mem_of_getElem? (i := 56) rfl)) (tgt := 119) rfl (fun c446 => ?_) (fun c446 => ?_)
          · have hyz : yzG sg.1 1 x431 = x431.2 := by unfold yzG; rw [if_neg (by omega)]
            refine lv_aload_n hx hb (eX12_readDate (119, .aload_n 0, 1) (List.mem_of_getElem? (i := 63) rfl)) rfl (lv_at hl433 3 rfl) ?_
            refine ff_iconst hx hb (eX12_readDate (120, .iconst 2, 1) (List.mem_of_getElem? (i := 64) rfl)) (by decide) (by decide) (fun v447 e447 => ?_)
            refine lv_iload_n hx hb (eX12_readDate (121, .iload_n 3, 1) (List.mem_of_getElem? (i := 65) rfl)) rfl (lv_at hl433 1 rfl) ?_
            refine ff_if_eq hx hb (eX12_readDate (122, .ifCond .eq 9, 3) (List.mem_of_getElem? (i := 66) rfl)) (tgt := 131) rfl (fun c448 => (by exfalso; omega)) (fun c448 => ?_)
            refine lv_lload hx hb (eX12_readDate (125, .lload 4, 2) (List.mem_of_getElem? (i := 67) rfl)) (lv_at hl433 0 rfl) ?_
            refine ff_lneg hx hb (eX12_readDate (127, .lneg, 1) (List.mem_of_getElem? (i := 68) rfl)) (by omega) (by omega) (fun v449 e449 => ?_)
            refine lv_goto hx hb (eX12_readDate (128, .goto 5, 3) (List.mem_of_getElem? (i := 69) rfl)) (tgt := 133) rfl ?_
            refine tz_rowV (As := [.int v447, .long v449]) (st := []) (b := a) (C := RX12) (Ts := gT) hx hb hml hown h2 (fun _ h => h) (hX12_set l D cA ro sz H0 a v447 v449 2 n (upF g 3 (sg.1)) h ha hn1 (by omega) (by decide)) ⟨rfl, rfl⟩ ⟨by decide, by decide⟩ ⟨by decide, by decide⟩ (tb_8 72 rfl rfl) (tb_1 12 rfl rfl) (tb_8 69 rfl rfl) (tb_8 71 rfl rfl) (tb_0 42 rfl rfl) (show yX12_set.cls ≠ "java/lang/invoke/MethodHandle" ∧ yX12_set.cls ≠ "java/lang/invoke/VarHandle" ∧ (parseMethodDescriptor yX12_set.desc).map (fun d => d.parameters.length) = some 2 by decide +kernel) zs_blind (zs_ob hh445 ha (show RTg[11]? = some (0, 11, 0, fsX12) from rfl) (zCX12 hKn.1)) (fun U hU hW => ⟨rfl, by rw [hU]; exact hh445.l0, zKb s U hW.alike hKn, by rw [hU]; exact jg431⟩) hh445.2.2.1 hl433.1 (Nat.le_of_ble_eq_true rfl) (eX12_readDate (133, .invokevirtual 357, 3) (List.mem_of_getElem? (i := 71) rfl)) (fun r450 s450 t450 lo450 g450 f450 l450 => ?_)
            obtain ⟨q450, z450, c450, jg450⟩ := f450
            cases q450
            rw [g450] at c450
            have hh450 : zh_ok D cA RTg ro sz H0 t450.heap lo450 := ⟨z450.1, z450.2.1, l450, z450.2.2.2⟩
            have kp450 := kp431.trans (c450.mono (ms' := gM) (by decide))
            have jg450 : jG D cA ro t450.heap a n (upF (upF g 3 (sg.1)) 2 (-x431.1)) h := by rw [← show v449.toInt = -x431.1 by omega]; exact jg450
            have jv450 := jv431.kept ha c450 (by decide)
            refine W.eq (g2 := F0 m 136 ls433 []) rfl ?_
            refine lv_aload_n hx hb (eX12_readDate (136, .aload_n 0, 1) (List.mem_of_getElem? (i := 72) rfl)) rfl (lv_at hl433 3 rfl) ?_
            refine ff_iconst hx hb (eX12_readDate (137, .iconst 1, 1) (List.mem_of_getElem? (i := 73) rfl)) (by decide) (by decide) (fun v451 e451 => ?_)
            refine ff_ldc2 (n := 3) hx hb hown h2 (clX12_ok 134 3 (List.mem_of_getElem? (i := 15) rfl)) (eX12_readDate (138, .ldc2_w 134, 3) (List.mem_of_getElem? (i := 74) rfl)) (fun v452 e452 => ?_)
            refine tz_rowV (As := [.int v451, .long v452]) (st := []) (b := a) (C := RX12) (Ts := gT) hx hb hml hown h2 (fun _ h => h) (hX12_set l D cA ro sz H0 a v451 v452 1 n (upF (upF g 3 (sg.1)) 2 (-x431.1)) h ha hn1 (by omega) (by decide)) ⟨rfl, rfl⟩ ⟨by decide, by decide⟩ ⟨by decide, by decide⟩ (tb_8 72 rfl rfl) (tb_1 12 rfl rfl) (tb_8 69 rfl rfl) (tb_8 71 rfl rfl) (tb_0 42 rfl rfl) (show yX12_set.cls ≠ "java/lang/invoke/MethodHandle" ∧ yX12_set.cls ≠ "java/lang/invoke/VarHandle" ∧ (parseMethodDescriptor yX12_set.desc).map (fun d => d.parameters.length) = some 2 by decide +kernel) zs_blind (zs_ob hh450 ha (show RTg[11]? = some (0, 11, 0, fsX12) from rfl) (zCX12 hKn.1)) (fun U hU hW => ⟨rfl, by rw [hU]; exact hh450.l0, zKb s U hW.alike hKn, by rw [hU]; exact jg450⟩) hh450.2.2.1 hl433.1 (Nat.le_of_ble_eq_true rfl) (eX12_readDate (141, .invokevirtual 357, 3) (List.mem_of_getElem? (i := 75) rfl)) (fun r453 s453 t453 lo453 g453 f453 l453 => ?_)
            obtain ⟨q453, z453, c453, jg453⟩ := f453
            cases q453
            rw [g453] at c453
            have hh453 : zh_ok D cA RTg ro sz H0 t453.heap lo453 := ⟨z453.1, z453.2.1, l453, z453.2.2.2⟩
            have kp453 := kp450.trans (c453.mono (ms' := gM) (by decide))
            have jg453 : jG D cA ro t453.heap a n (upF (upF (upF g 3 (sg.1)) 2 (-x431.1)) 1 (3)) h := by rw [← show v452.toInt = 3 by omega]; exact jg453
            have jv453 := jv450.kept ha c453 (by decide)
            refine W.eq (g2 := F0 m 144 ls433 []) rfl ?_
            exact jn144 (upF (upF (upF g 3 (sg.1)) 2 (-x431.1)) 1 (3)) x431.2 v376 1 ls433 _ _ hh453 kp453 jv453 jg453 (by omega) (by unfold yrG; dsimp only; rw [hng, hyq, hyz]; rw [if_pos rfl]) hsd (by decide) (lv_sub hl433 [2, 3, 4] rfl)
          · have hyz : yzG sg.1 1 x431 = bdG sg.1 x431.2 := by unfold yzG; rw [if_pos ⟨rfl, by omega, by omega⟩]
            refine lv_aload_n hx hb (eX12_readDate (109, .aload_n 0, 1) (List.mem_of_getElem? (i := 57) rfl)) rfl (lv_at hl433 3 rfl) ?_
            refine lv_aload_n hx hb (eX12_readDate (110, .aload_n 0, 1) (List.mem_of_getElem? (i := 58) rfl)) rfl (lv_at hl433 3 rfl) ?_
            refine ff_iconst hx hb (eX12_readDate (111, .iconst 3, 1) (List.mem_of_getElem? (i := 59) rfl)) (by decide) (by decide) (fun v454 e454 => ?_)
            refine tz_rowV (As := [.int v454]) (st := [.ref a]) (b := a) (C := RX12) (Ts := gT) hx hb hml hown h2 (fun _ h => h) (hX12_get l D cA ro sz H0 a v454 3 n (upF g 3 (sg.1)) h ha hn1 (by omega) (by decide)) ⟨rfl, rfl⟩ ⟨by decide, by decide⟩ ⟨by decide, by decide⟩ (tb_8 94 rfl rfl) (tb_1 12 rfl rfl) (tb_8 91 rfl rfl) (tb_8 93 rfl rfl) (tb_0 47 rfl rfl) (show yX12_get.cls ≠ "java/lang/invoke/MethodHandle" ∧ yX12_get.cls ≠ "java/lang/invoke/VarHandle" ∧ (parseMethodDescriptor yX12_get.desc).map (fun d => d.parameters.length) = some 1 by decide +kernel) zs_blind (zs_ob hh445 ha (show RTg[11]? = some (0, 11, 0, fsX12) from rfl) (zCX12 hKn.1)) (fun U hU hW => ⟨rfl, by rw [hU]; exact hh445.l0, zKb s U hW.alike hKn, by rw [hU]; exact jg431⟩) hh445.2.2.1 hl433.1 (Nat.le_of_ble_eq_true rfl) (eX12_readDate (112, .invokevirtual 361, 3) (List.mem_of_getElem? (i := 60) rfl)) (fun r455 s455 t455 lo455 g455 f455 l455 => ?_)
            obtain ⟨z455, v455, q455, e455⟩ := f455
            cases q455
            rw [z455, g455]
            have hh455 : zh_ok D cA RTg ro sz H0 t431.heap lo455 := ⟨hh445.1, hh445.2.1, l455, hh445.2.2.2⟩
            rw [up_eq] at e455
            refine W.eq (g2 := F0 m 115 ls433 [.long v455, .ref a]) rfl ?_
            refine ff_l2i hx hb (eX12_readDate (115, .l2i, 1) (List.mem_of_getElem? (i := 61) rfl)) (by omega) (by omega) (fun v456 e456 => ?_)
            refine tz_rowV (As := [.int v456]) (st := []) (b := a) (C := RX12) (Ts := gT) hx hb hml hown h2 (fun _ h => h) (hX12_bad l D cA ro sz H0 a v456 (sg.1) T (x431.2) ha (by omega)) ⟨rfl, rfl⟩ ⟨by decide, by decide⟩ ⟨by decide, by decide⟩ (tb_8 47 rfl rfl) (tb_1 12 rfl rfl) (tb_8 44 rfl rfl) (tb_8 46 rfl rfl) (tb_0 37 rfl rfl) (show yX12_bad.cls ≠ "java/lang/invoke/MethodHandle" ∧ yX12_bad.cls ≠ "java/lang/invoke/VarHandle" ∧ (parseMethodDescriptor yX12_bad.desc).map (fun d => d.parameters.length) = some 1 by decide +kernel) zs_blind (zs_ob hh455 ha (show RTg[11]? = some (0, 11, 0, fsX12) from rfl) (zCX12 hKn.1)) (fun U hU hW => ⟨rfl, by rw [hU]; exact hh455.l0, zKb s U hW.alike hKn, by rw [hU]; exact jv431⟩) hh455.2.2.1 hl433.1 (Nat.le_of_ble_eq_true rfl) (eX12_readDate (116, .invokevirtual 335, 3) (List.mem_of_getElem? (i := 62) rfl)) (fun r457 s457 t457 lo457 g457 f457 l457 => ?_)
            obtain ⟨q457, z457, c457, jv457⟩ := f457
            cases q457
            rw [g457] at c457
            have hh457 : zh_ok D cA RTg ro sz H0 t457.heap lo457 := ⟨z457.1, z457.2.1, l457, z457.2.2.2⟩
            have kp457 := kp431.trans (c457.mono (ms' := gM) (by decide))
            generalize hx457 : bdG (sg.1) x431.2 = x457 at jv457
            have uu457 := jv457.2.2
            unfold vOK at uu457
            have bb457 := byI_bd T x457.1
            have jg457 := jg431.kept ha c457 (by decide)
            refine W.eq (g2 := F0 m 119 ls433 []) rfl ?_
            refine lv_aload_n hx hb (eX12_readDate (119, .aload_n 0, 1) (List.mem_of_getElem? (i := 63) rfl)) rfl (lv_at hl433 3 rfl) ?_
            refine ff_iconst hx hb (eX12_readDate (120, .iconst 2, 1) (List.mem_of_getElem? (i := 64) rfl)) (by decide) (by decide) (fun v458 e458 => ?_)
            refine lv_iload_n hx hb (eX12_readDate (121, .iload_n 3, 1) (List.mem_of_getElem? (i := 65) rfl)) rfl (lv_at hl433 1 rfl) ?_
            refine ff_if_eq hx hb (eX12_readDate (122, .ifCond .eq 9, 3) (List.mem_of_getElem? (i := 66) rfl)) (tgt := 131) rfl (fun c459 => (by exfalso; omega)) (fun c459 => ?_)
            refine lv_lload hx hb (eX12_readDate (125, .lload 4, 2) (List.mem_of_getElem? (i := 67) rfl)) (lv_at hl433 0 rfl) ?_
            refine ff_lneg hx hb (eX12_readDate (127, .lneg, 1) (List.mem_of_getElem? (i := 68) rfl)) (by omega) (by omega) (fun v460 e460 => ?_)
            refine lv_goto hx hb (eX12_readDate (128, .goto 5, 3) (List.mem_of_getElem? (i := 69) rfl)) (tgt := 133) rfl ?_
            refine tz_rowV (As := [.int v458, .long v460]) (st := []) (b := a) (C := RX12) (Ts := gT) hx hb hml hown h2 (fun _ h => h) (hX12_set l D cA ro sz H0 a v458 v460 2 n (upF g 3 (sg.1)) h ha hn1 (by omega) (by decide)) ⟨rfl, rfl⟩ ⟨by decide, by decide⟩ ⟨by decide, by decide⟩ (tb_8 72 rfl rfl) (tb_1 12 rfl rfl) (tb_8 69 rfl rfl) (tb_8 71 rfl rfl) (tb_0 42 rfl rfl) (show yX12_set.cls ≠ "java/lang/invoke/MethodHandle" ∧ yX12_set.cls ≠ "java/lang/invoke/VarHandle" ∧ (parseMethodDescriptor yX12_set.desc).map (fun d => d.parameters.length) = some 2 by decide +kernel) zs_blind (zs_ob hh457 ha (show RTg[11]? = some (0, 11, 0, fsX12) from rfl) (zCX12 hKn.1)) (fun U hU hW => ⟨rfl, by rw [hU]; exact hh457.l0, zKb s U hW.alike hKn, by rw [hU]; exact jg457⟩) hh457.2.2.1 hl433.1 (Nat.le_of_ble_eq_true rfl) (eX12_readDate (133, .invokevirtual 357, 3) (List.mem_of_getElem? (i := 71) rfl)) (fun r461 s461 t461 lo461 g461 f461 l461 => ?_)
            obtain ⟨q461, z461, c461, jg461⟩ := f461
            cases q461
            rw [g461] at c461
            have hh461 : zh_ok D cA RTg ro sz H0 t461.heap lo461 := ⟨z461.1, z461.2.1, l461, z461.2.2.2⟩
            have kp461 := kp457.trans (c461.mono (ms' := gM) (by decide))
            have jg461 : jG D cA ro t461.heap a n (upF (upF g 3 (sg.1)) 2 (-x431.1)) h := by rw [← show v460.toInt = -x431.1 by omega]; exact jg461
            have jv461 := jv457.kept ha c461 (by decide)
            refine W.eq (g2 := F0 m 136 ls433 []) rfl ?_
            refine lv_aload_n hx hb (eX12_readDate (136, .aload_n 0, 1) (List.mem_of_getElem? (i := 72) rfl)) rfl (lv_at hl433 3 rfl) ?_
            refine ff_iconst hx hb (eX12_readDate (137, .iconst 1, 1) (List.mem_of_getElem? (i := 73) rfl)) (by decide) (by decide) (fun v462 e462 => ?_)
            refine ff_ldc2 (n := 3) hx hb hown h2 (clX12_ok 134 3 (List.mem_of_getElem? (i := 15) rfl)) (eX12_readDate (138, .ldc2_w 134, 3) (List.mem_of_getElem? (i := 74) rfl)) (fun v463 e463 => ?_)
            refine tz_rowV (As := [.int v462, .long v463]) (st := []) (b := a) (C := RX12) (Ts := gT) hx hb hml hown h2 (fun _ h => h) (hX12_set l D cA ro sz H0 a v462 v463 1 n (upF (upF g 3 (sg.1)) 2 (-x431.1)) h ha hn1 (by omega) (by decide)) ⟨rfl, rfl⟩ ⟨by decide, by decide⟩ ⟨by decide, by decide⟩ (tb_8 72 rfl rfl) (tb_1 12 rfl rfl) (tb_8 69 rfl rfl) (tb_8 71 rfl rfl) (tb_0 42 rfl rfl) (show yX12_set.cls ≠ "java/lang/invoke/MethodHandle" ∧ yX12_set.cls ≠ "java/lang/invoke/VarHandle" ∧ (parseMethodDescriptor yX12_set.desc).map (fun d => d.parameters.length) = some 2 by decide +kernel) zs_blind (zs_ob hh461 ha (show RTg[11]? = some (0, 11, 0, fsX12) from rfl) (zCX12 hKn.1)) (fun U hU hW => ⟨rfl, by rw [hU]; exact hh461.l0, zKb s U hW.alike hKn, by rw [hU]; exact jg461⟩) hh461.2.2.1 hl433.1 (Nat.le_of_ble_eq_true rfl) (eX12_readDate (141, .invokevirtual 357, 3) (List.mem_of_getElem? (i := 75) rfl)) (fun r464 s464 t464 lo464 g464 f464 l464 => ?_)
            obtain ⟨q464, z464, c464, jg464⟩ := f464
            cases q464
            rw [g464] at c464
            have hh464 : zh_ok D cA RTg ro sz H0 t464.heap lo464 := ⟨z464.1, z464.2.1, l464, z464.2.2.2⟩
            have kp464 := kp461.trans (c464.mono (ms' := gM) (by decide))
            have jg464 : jG D cA ro t464.heap a n (upF (upF (upF g 3 (sg.1)) 2 (-x431.1)) 1 (3)) h := by rw [← show v463.toInt = 3 by omega]; exact jg464
            have jv464 := jv461.kept ha c464 (by decide)
            refine W.eq (g2 := F0 m 144 ls433 []) rfl ?_
            exact jn144 (upF (upF (upF g 3 (sg.1)) 2 (-x431.1)) 1 (3)) x457 v376 1 ls433 _ _ hh464 kp464 jv464 jg464 (by omega) (by unfold yrG; dsimp only; rw [hng, hyq, hyz]; rw [if_pos rfl, hx457]) hsd (by decide) (lv_sub hl433 [2, 3, 4] rfl)
