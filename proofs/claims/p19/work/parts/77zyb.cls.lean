/-! p19: the class's read() -/
def kDc : List (Nat × Nat) := [(0, 2), (0, 3), (0, 4), (1, 0), (1, 1), (1, 2), (1, 3), (1, 4), (1, 5), (1, 6), (1, 7), (1, 8), (1, 9), (7, 0), (7, 1), (7, 2), (7, 3), (7, 4), (7, 5), (7, 6), (7, 7), (7, 8), (7, 9), (7, 10), (7, 11), (7, 12), (7, 13), (2, 0), (2, 1), (2, 2), (2, 3), (2, 4), (17, 0), (18, 0), (42, 0)]
/-- the reader of forms reads the text, and knows the leap days -/
def jRr (D : va_G) (ro : Nat → Option Nat) (H : Heap) (x : Nat) : Prop := ∃ fr tx lp : Nat, zh_f D H x 10 6 = .ref fr ∧ ro fr = some 3 ∧ zh_f D H x 10 4 = .ref tx ∧ zh_f D H x 10 0 = .ref lp ∧ zh_f D H fr 3 0 = .ref tx ∧ zh_f D H fr 3 1 = .ref lp
theorem jRr.kept {D : va_G} {ro : Nat → Option Nat} {H H' : Heap} {ms : List (Nat × Nat)} {x : Nat} (hx : ro x = some 10) (h : zc_kept D RTg ro ms H H') (hm : ∀ y ∈ [(10, 6), (10, 4), (10, 0), (3, 0), (3, 1)], y ∉ ms) (j : jRr D ro H x) : jRr D ro H' x := by
  obtain ⟨fr, tx, lp, a1, a2, a3, a4, a5, a6⟩ := j
  exact ⟨fr, tx, lp, (h.1 x 10 6 10 0 fsX11 hx rfl (by decide) (hm _ (by decide))).trans a1, a2, (h.1 x 10 4 10 0 fsX11 hx rfl (by decide) (hm _ (by decide))).trans a3, (h.1 x 10 0 10 0 fsX11 hx rfl (by decide) (hm _ (by decide))).trans a4, (h.1 fr 3 0 3 0 fsX4 a2 rfl (by decide) (hm _ (by decide))).trans a5, (h.1 fr 3 1 3 0 fsX4 a2 rfl (by decide) (hm _ (by decide))).trans a6⟩
theorem jRr.ext {D : va_G} {ro ro' : Nat → Option Nat} {H : Heap} {x : Nat} (he : ∀ q r, ro q = some r → ro' q = some r) (j : jRr D ro H x) : jRr D ro' H x := by
  obtain ⟨fr, tx, lp, a1, a2, a3⟩ := j
  exact ⟨fr, tx, lp, a1, he _ _ a2, a3⟩
theorem jF_mk {D : va_G} {cA : Nat → ClassId} {ro : Nat → Option Nat} {sz : Nat} {H0 H : Heap} {lo : List Loc} {a cl n : Nat} {fs : List zt_T} (hh : zh_ok D cA RTg ro sz H0 H lo) (ha : ro a = some cl) (hr : RTg[cl]? = some (0, cl, 0, fs)) (hn : n ≤ fs.length) (hi : ∀ k, k < n → ∃ lo9 hi9 : Int, fs[k]? = some (0, lo9, hi9)) : ∃ f : fN, jF D H a cl n f := by
  refine ⟨fun k => (match zh_f D H a cl k with | .int v => v.toInt | _ => 0), fun k hk => ?_⟩
  obtain ⟨lo9, hi9, hq⟩ := hi k hk
  obtain ⟨v, q, -, -⟩ := zh_fT (k := k) (t := (0, lo9, hi9)) hh ha hr hq
  exact ⟨v, q, by simp only [q]⟩
section ZSZ
variable {D : va_G} {cA : Nat → ClassId} {ro : Nat → Option Nat} {sz : Nat} {H0 H : Heap} {J : Heap → Prop} {vs : List Value}
def zs_PZ (D : va_G) (cA : Nat → ClassId) (ro : Nat → Option Nat) (sz : Nat) (H0 : Heap) (J : Heap → Prop) (vs : List Value) : Array Value → State → Prop := fun a U => a = vs.toArray ∧ zh_ok D cA RTg ro sz H0 U.heap [] ∧ zKa D cA ro sz H0 U ∧ (zBQ cA sz H0 U ∧ zLQ sz H0 U) ∧ J U.heap
theorem zs_blindZ : FrameBlind (zs_PZ D cA ro sz H0 J vs) := by
  intro a U g mk h
  obtain ⟨h1, h2, h3, h4, h5⟩ := h
  exact ⟨h1, h2, zKa.same (s := U) (U := U.calling g mk a) rfl h3, ⟨h4.1.alike (Vm.Alike.refl U.vm), h4.2.alike (Vm.Alike.refl U.vm)⟩, h5⟩
end ZSZ
def kd_Q (D : va_G) (cA : Nat → ClassId) (ro : Nat → Option Nat) (sz : Nat) (H0 : Heap) (SP : Int → Int → Prop) : Array Value → State → Outcome → State → Prop := fun _ st oc t => ∃ r : Int64, oc = .returned (some (.long r)) ∧ zh_ok D cA RTg ro sz H0 t.heap [] ∧ zc_kept D RTg ro kDc st.heap t.heap ∧ SP 0 r.toInt
def kd_X (D : va_G) (cA : Nat → ClassId) (ro : Nat → Option Nat) (sz : Nat) (H0 : Heap) (SP : Int → Int → Prop) : String → State → State → Prop := fun E st t => zh_ok D cA RTg ro sz H0 t.heap [] ∧ zc_kept D RTg ro [] st.heap t.heap ∧ E = eI ∧ ∃ r, SP 1 r
def kd_QL (D : va_G) (cA : Nat → ClassId) (ro : Nat → Option Nat) (sz : Nat) (H0 : Heap) (o : Nat) (SP : Int → Int → Prop) : Array Value → State → Outcome → State → Prop := fun _ st oc t => ∃ (k : Int32) (z : Nat → Value) (r : Int64), oc = .returned (some (.int k)) ∧ zh_ok D cA RTg ro sz H0 t.heap [] ∧ zc_kept D RTg ro kDc st.heap t.heap ∧ t.heap[o]? = some (arrV (cA 1) 1 z) ∧ z 0 = .long r ∧ ((k.toInt = 0 ∧ SP 0 r.toInt) ∨ (k.toInt ≠ 0 ∧ ∃ r', SP k.toInt r'))
set_option maxRecDepth 100000 in
set_option maxHeartbeats 4000000 in
theorem hX11_read (l : Launch) (hst : l.stackTraces = false) (D : va_G) (cA : Nat → ClassId) (ro : Nat → Option Nat) (sz : Nat) (H0 : Heap) (x : Nat) (fo : Int32) (L : List Int) (zc : Int) (T O : List Int) (hx10 : ro x = some 10) : vx_Met l yX11_read (gW yX11_read cX11_read 4 (some .long)) { frames := 7, cells := 1, slots := 6, locals := 170 } (zs_PZ D cA ro sz H0 (fun H => jCS D cA ro H x L zc ∧ jCK D cA ro H x T O ∧ jRr D ro H x) [.ref x, .int fo]) (kd_Q D cA ro sz H0 (spRd fo.toInt T L)) (kd_X D cA ro sz H0 (spRd fo.toInt T L)) 1 6 (zy_fr sz) := by
  refine vx_ofW (cc := cX11_read) (maxL := 4) (ret := (some .long)) (by decide +kernel) rfl ?_
  intro p e s m args below meth c s1 B hml hex hv
  obtain ⟨rfl, hh, hKa, ⟨hBQ, hLQ⟩, hJ⟩ := hv
  have hx := B.exec
  have hb := B.bytes
  have hr := B.returns
  have hlk := B.notSynchronized
  have hts0 := atoms_spec (ws := gW yX11_read cX11_read 4 (some .long)) B.pre
  have h2 : ∀ w ∈ gT, w.before ([.ref x, .int fo] : List Value).toArray s = true := fun w hw => hts0 w (List.mem_cons_of_mem _ hw)
  have hown : s.vm.findClass RX11 = some m.cls := findClass_of_methodNamed B.named
  have hl := lv_entry [.ref x, .int fo] (n := 4) (Nat.le_of_ble_eq_true rfl)
  rw [lg_entry_eq]
  generalize (lg_sl [.ref x, .int fo] ++ List.replicate (4 - (lg_sl [.ref x, .int fo]).length) Slot.unset).toArray = ls at hl ⊢
  have b_fo := zn_i32 fo
  obtain ⟨⟨⟨lp, fx0, rlp, hlpj⟩, -, hjl⟩, ⟨⟨tx, fx4, rtx, htxj⟩, -, hkb⟩, fr, tx9, lp9, fx6, rfr, g4, g0, ft9, fl9⟩ := id hJ
  cases fx4.symm.trans g4
  cases fx0.symm.trans g0
  have hT : (T.length : Int) ≤ 120 := by have := hkb.1; omega
  have hLb := hjl.2.2
  obtain ⟨dt, fdt, rdt⟩ := tz_ref (k := 2) (rr := 1) hh rfr (show RTg[3]? = some (0, 3, 0, fsX4) from rfl) rfl
  obtain ⟨tm, ftm, rtm⟩ := tz_ref (k := 3) (rr := 7) hh rfr (show RTg[3]? = some (0, 3, 0, fsX4) from rfl) rfl
  obtain ⟨du, fdu, rdu⟩ := tz_ref (k := 4) (rr := 2) hh rfr (show RTg[3]? = some (0, 3, 0, fsX4) from rfl) rfl
  have jfr : jFq D s.heap fr tx lp dt tm du := ⟨ft9, fl9, fdt, ftm, fdu⟩
  obtain ⟨fd, jdt⟩ := jF_mk (n := 10) hh rdt (show RTg[1]? = some (0, 1, 0, fsX1) from rfl) (by decide) (fun k hk => by match k, hk with | 0, _ => exact ⟨(-2147483648), 2147483647, rfl⟩ | 1, _ => exact ⟨0, 1, rfl⟩ | 2, _ => exact ⟨(-2147483648), 2147483647, rfl⟩ | 3, _ => exact ⟨0, 1, rfl⟩ | 4, _ => exact ⟨0, 1, rfl⟩ | 5, _ => exact ⟨(-2147483648), 2147483647, rfl⟩ | 6, _ => exact ⟨(-2147483648), 2147483647, rfl⟩ | 7, _ => exact ⟨(-2147483648), 2147483647, rfl⟩ | 8, _ => exact ⟨(-2147483648), 2147483647, rfl⟩ | 9, _ => exact ⟨(-2147483648), 2147483647, rfl⟩ | k + 10, h => exact absurd h (by omega))
  obtain ⟨ft, jtm⟩ := jF_mk (n := 14) hh rtm (show RTg[7]? = some (0, 7, 0, fsX8) from rfl) (by decide) (fun k hk => by match k, hk with | 0, _ => exact ⟨(-2147483648), 2147483647, rfl⟩ | 1, _ => exact ⟨(-2147483648), 2147483647, rfl⟩ | 2, _ => exact ⟨(-2147483648), 2147483647, rfl⟩ | 3, _ => exact ⟨(-2147483648), 2147483647, rfl⟩ | 4, _ => exact ⟨(-2147483648), 2147483647, rfl⟩ | 5, _ => exact ⟨(-2147483648), 2147483647, rfl⟩ | 6, _ => exact ⟨(-2147483648), 2147483647, rfl⟩ | 7, _ => exact ⟨(-2147483648), 2147483647, rfl⟩ | 8, _ => exact ⟨(-2147483648), 2147483647, rfl⟩ | 9, _ => exact ⟨0, 1, rfl⟩ | 10, _ => exact ⟨(-2147483648), 2147483647, rfl⟩ | 11, _ => exact ⟨(-2147483648), 2147483647, rfl⟩ | 12, _ => exact ⟨(-2147483648), 2147483647, rfl⟩ | 13, _ => exact ⟨(-2147483648), 2147483647, rfl⟩ | k + 14, h => exact absurd h (by omega))
  have hD := zD_all h2 hKa.1.1.1
  have hcl10 := fun (idx k : Nat) (t : zt_T) (h : (idx, 10, k) ∈ gfX11) (hk : fsX11[k]? = some t) => zf_clause (ro := ro) (ms := kDc) h2 hown hKa.1.1.1 gfX11_ok (by decide +kernel) idx 10 k 10 0 fsX11 t h rfl hk
  have hcl3 := fun (idx k : Nat) (t : zt_T) (h : (idx, 3, k) ∈ gfX11) (hk : fsX4[k]? = some t) => zf_clause (ro := ro) (ms := kDc) h2 hown hKa.1.1.1 gfX11_ok (by decide +kernel) idx 3 k 3 0 fsX4 t h rfl hk
  have kp0 : zc_kept D RTg ro kDc s.heap s.heap := zc_kept.refl
  refine lv_iload_n hx hb (eX11_read (0, .iload_n 1, 1) (List.mem_of_getElem? (i := 0) rfl)) rfl (lv_at hl 1 rfl) ?_
  refine ff_if_lt hx hb (eX11_read (1, .ifCond .lt 9, 3) (List.mem_of_getElem? (i := 1) rfl)) (tgt := 10) rfl (fun c1 => ?_) (fun c1 => ?_)
  · skip
    exact zx_leafGW (ik := 83) (is := 256) (ic := 87) (cls := "java/lang/IllegalArgumentException") (text := "no such form") hx hb hst hown h2 hKa.1 hh hh (by rw [hl.1, hml]) hex hlk ⟨by decide, by decide, by decide, by decide⟩ (tb_2 121 rfl rfl) (tb_1 17 rfl rfl) (by decide) (gAt_in gAt_1) (by decide +kernel) (by decide) (by decide) (fun t h7 h8 => ⟨hh.grow h7 h8, kept_grow hh h8, rfl, 0, Or.inl ⟨rfl, by omega⟩⟩) (eX11_read (10, .new 83, 3) (List.mem_of_getElem? (i := 5) rfl)) (eX11_read (13, .dup, 1) (List.mem_of_getElem? (i := 6) rfl)) (eX11_read (14, .ldc_w 256, 3) (List.mem_of_getElem? (i := 7) rfl)) (eX11_read (17, .invokespecial 87, 3) (List.mem_of_getElem? (i := 8) rfl)) (eX11_read (20, .athrow, 1) (List.mem_of_getElem? (i := 9) rfl))
  · skip
    refine lv_iload_n hx hb (eX11_read (4, .iload_n 1, 1) (List.mem_of_getElem? (i := 2) rfl)) rfl (lv_at hl 1 rfl) ?_
    refine ff_bipush hx hb (eX11_read (5, .bipush 7, 2) (List.mem_of_getElem? (i := 3) rfl)) (by decide) (by decide) (fun v2 e2 => ?_)
    refine ff_icmp_lt hx hb (eX11_read (7, .if_icmp .lt 14, 3) (List.mem_of_getElem? (i := 4) rfl)) (tgt := 21) rfl (fun c3 => ?_) (fun c3 => ?_)
    · skip
      refine lv_aload_n hx hb (eX11_read (21, .aload_n 0, 1) (List.mem_of_getElem? (i := 10) rfl)) rfl (lv_at hl 0 rfl) ?_
      refine tz_get (r := 10) (k := 6) (t := (10, 0, 0)) hx hb hh hx10 rfl rfl (hcl10 54 6 (10, 0, 0) (by decide) rfl).1 fx6 (eX11_read (22, .getfield 54, 3) (List.mem_of_getElem? (i := 11) rfl)) ?_
      refine tz_rowV (As := []) (st := []) (b := fr) (C := RX4) (Ts := gT) hx hb hml hown h2 (fun _ h => h) (hX4_start l D cA ro sz H0 fr tx lp dt tm du T L ((fd, ft, (0, 0, -1)) : mS) rfr rtx rlp rdt rtm rdu) ⟨rfl, rfl⟩ ⟨by decide, by decide⟩ ⟨by decide, by decide⟩ (tb_4 215 rfl rfl) (tb_1 7 rfl rfl) (tb_4 212 rfl rfl) (tb_4 213 rfl rfl) (tb_4 214 rfl rfl) (show yX4_start.cls ≠ "java/lang/invoke/MethodHandle" ∧ yX4_start.cls ≠ "java/lang/invoke/VarHandle" ∧ (parseMethodDescriptor yX4_start.desc).map (fun d => d.parameters.length) = some 0 by decide +kernel) zs_blindC (zs_ob hh rfr (show RTg[3]? = some (0, 3, 0, fsX4) from rfl) (zCX4 hKa.1.1.1)) (fun U hU hW => ⟨rfl, by rw [hU]; exact hh.l0, ⟨zKb s U hW.alike hKa.1.1, hBQ.alike hW.alike, hLQ.alike hW.alike⟩, by rw [hU]; exact ⟨jfr, htxj, jdt, jtm, hlpj⟩⟩) hh.2.2.1 hl.1 (Nat.le_of_ble_eq_true rfl) (eX11_read (25, .invokevirtual 258, 3) (List.mem_of_getElem? (i := 12) rfl)) (fun r4 s4 t4 lo4 g4 f4 l4 => ?_)
      obtain ⟨q4, z4, c4, jq4⟩ := f4
      cases q4
      rw [g4] at c4
      have hh4 : zh_ok D cA RTg ro sz H0 t4.heap lo4 := ⟨z4.1, z4.2.1, l4, z4.2.2.2⟩
      have kp4 := kp0.trans (c4.mono (ms' := kDc) (by decide))
      have mf4_4 := (c4.1 x 10 4 10 0 fsX11 hx10 rfl (by decide) (by decide)).trans fx4
      have mf4_6 := (c4.1 x 10 6 10 0 fsX11 hx10 rfl (by decide) (by decide)).trans fx6
      have jr4 : jRw D cA ro t4.heap fr tx lp dt tm du T L ((fd, ft, (0, 0, -1)) : mS) := jq4
      refine W.eq (g2 := F0 m 28 ls []) rfl ?_
      have jn144 : ∀ (sg : uS) (ls : Array Slot) (H : Heap) (lo0 : List Loc), zh_ok D cA RTg ro sz H0 H lo0 → zc_kept D RTg ro kDc s.heap H → jU D cA ro H tx T sg → zh_f D H x 10 6 = .ref fr → zh_f D H x 10 4 = .ref tx → sg = rqF T L fo.toInt ((fd, ft, (0, 0, -1)) : mS) → lv_has ls 4 [(0, .ref x), (1, .int fo)] → W p l e (headSpec (gW yX11_read cX11_read 4 (some .long)) { frames := 7, cells := 1, slots := 6, locals := 170 }).room s m ([.ref x, .int fo] : List Value).toArray below meth c H lo0 0 0 (vx_MQ below (kd_Q D cA ro sz H0 (spRd fo.toInt T L)) (kd_X D cA ro sz H0 (spRd fo.toInt T L)) ([.ref x, .int fo] : List Value).toArray s 1 6 (zy_fr sz)) (F0 m 144 ls []) := by
        intro sg ls H lo0 hh0 kpl jul fr6 fr4 hsg hl
        refine lv_aload_n hx hb (eX11_read (144, .aload_n 0, 1) (List.mem_of_getElem? (i := 47) rfl)) rfl (lv_at hl 0 rfl) ?_
        refine tz_get (r := 10) (k := 4) (t := (4, 0, 0)) hx hb hh0 hx10 rfl rfl (hcl10 38 4 (4, 0, 0) (by decide) rfl).1 fr4 (eX11_read (145, .getfield 38, 3) (List.mem_of_getElem? (i := 48) rfl)) ?_
        refine tz_rowV (As := []) (st := []) (b := tx) (C := RX0) (Ts := gT) hx hb hml hown h2 (fun _ h => h) (hX0_needEnd l D cA ro sz H0 tx T sg rtx) ⟨rfl, rfl⟩ ⟨by decide, by decide⟩ ⟨by decide, by decide⟩ (tb_4 88 rfl rfl) (tb_1 5 rfl rfl) (tb_5 184 rfl rfl) (tb_4 86 rfl rfl) (tb_4 87 rfl rfl) (show yX0_needEnd.cls ≠ "java/lang/invoke/MethodHandle" ∧ yX0_needEnd.cls ≠ "java/lang/invoke/VarHandle" ∧ (parseMethodDescriptor yX0_needEnd.desc).map (fun d => d.parameters.length) = some 0 by decide +kernel) zs_blind (zs_ob hh0 rtx (show RTg[0]? = some (0, 0, 0, fsX0) from rfl) (zCX0 hKa.1.1.1)) (fun U hU hW => ⟨rfl, by rw [hU]; exact hh0.l0, zKb s U hW.alike hKa.1.1, by rw [hU]; exact jul⟩) hh0.2.2.1 hl.1 (Nat.le_of_ble_eq_true rfl) (eX11_read (148, .invokevirtual 283, 3) (List.mem_of_getElem? (i := 49) rfl)) (fun r5 s5 t5 lo5 g5 f5 l5 => ?_)
        obtain ⟨q5, z5, c5, ju5, -⟩ := f5
        cases q5
        rw [g5] at c5
        have hh5 : zh_ok D cA RTg ro sz H0 t5.heap lo5 := ⟨z5.1, z5.2.1, l5, z5.2.2.2⟩
        have kp5 := kpl.trans (c5.mono (ms' := kDc) (by decide))
        have mf5_6 := (c5.1 x 10 6 10 0 fsX11 hx10 rfl (by decide) (by decide)).trans fr6
        have mf5_4 := (c5.1 x 10 4 10 0 fsX11 hx10 rfl (by decide) (by decide)).trans fr4
        refine W.eq (g2 := F0 m 151 ls []) rfl ?_
        refine lv_aload_n hx hb (eX11_read (151, .aload_n 0, 1) (List.mem_of_getElem? (i := 50) rfl)) rfl (lv_at hl 0 rfl) ?_
        refine tz_get (r := 10) (k := 4) (t := (4, 0, 0)) hx hb hh5 hx10 rfl rfl (hcl10 38 4 (4, 0, 0) (by decide) rfl).1 mf5_4 (eX11_read (152, .getfield 38, 3) (List.mem_of_getElem? (i := 51) rfl)) ?_
        refine tz_rowV (As := []) (st := []) (b := tx) (C := RX0) (Ts := gT) hx hb hml hown h2 (fun _ h => h) (hX0_verdict l D cA ro sz H0 tx T (neF T sg) rtx) ⟨rfl, rfl⟩ ⟨by decide, by decide⟩ ⟨by decide, by decide⟩ (tb_4 93 rfl rfl) (tb_1 5 rfl rfl) (tb_5 185 rfl rfl) (tb_4 91 rfl rfl) (tb_4 92 rfl rfl) (show yX0_verdict.cls ≠ "java/lang/invoke/MethodHandle" ∧ yX0_verdict.cls ≠ "java/lang/invoke/VarHandle" ∧ (parseMethodDescriptor yX0_verdict.desc).map (fun d => d.parameters.length) = some 0 by decide +kernel) zs_blind (zs_ob hh5 rtx (show RTg[0]? = some (0, 0, 0, fsX0) from rfl) (zCX0 hKa.1.1.1)) (fun U hU hW => ⟨rfl, by rw [hU]; exact hh5.l0, zKb s U hW.alike hKa.1.1, by rw [hU]; exact ju5⟩) hh5.2.2.1 hl.1 (Nat.le_of_ble_eq_true rfl) (eX11_read (155, .invokevirtual 286, 3) (List.mem_of_getElem? (i := 52) rfl)) (fun r6 s6 t6 lo6 g6 f6 l6 => ?_)
        obtain ⟨z6, v6, q6, e6⟩ := f6
        cases q6
        rw [z6, g6]
        have hh6 : zh_ok D cA RTg ro sz H0 t5.heap lo6 := ⟨hh5.1, hh5.2.1, l6, hh5.2.2.2⟩
        have hvd : v6.toInt = vdF (neF T sg) := e6
        refine W.eq (g2 := F0 m 158 ls [.long v6]) rfl ?_
        refine lv_lstore_n hx hb (eX11_read (158, .lstore_n 2, 1) (List.mem_of_getElem? (i := 53) rfl)) rfl hl (by decide) rfl (fun ls7 hl7 => ?_)
        refine lv_lload_n hx hb (eX11_read (159, .lload_n 2, 1) (List.mem_of_getElem? (i := 54) rfl)) rfl (lv_at hl7 0 rfl) ?_
        refine ff_ldc2 (n := (-9223372036854775808)) hx hb hown h2 (clX11_ok 62 (-9223372036854775808) (List.mem_of_getElem? (i := 0) rfl)) (eX11_read (160, .ldc2_w 62, 3) (List.mem_of_getElem? (i := 55) rfl)) (fun v8 e8 => ?_)
        refine ff_lcmp hx hb (eX11_read (163, .lcmp, 1) (List.mem_of_getElem? (i := 56) rfl)) (fun v9 e9 => ?_)
        refine ff_if_ne hx hb (eX11_read (164, .ifCond .ne 24, 3) (List.mem_of_getElem? (i := 57) rfl)) (tgt := 188) rfl (fun c10 => ?_) (fun c10 => ?_)
        · skip
          refine lv_lload_n hx hb (eX11_read (188, .lload_n 2, 1) (List.mem_of_getElem? (i := 69) rfl)) rfl (lv_at hl7 0 rfl) ?_
          have hfv : v6.toInt = rdG T L fo.toInt (fun _ => 0) (fun _ => 0) := by rw [hvd, hsg]; exact (rq_rd hLb).trans (rd_same hLb hT)
          exact vx_ret (W.widen (k := 1) (n := 6) (Nat.zero_le _) (Nat.zero_le _) (W.lret hx hb hr (fun t ht hW => ⟨_, rfl, by rw [ht]; exact hh6.l0, by rw [ht]; exact kp5, Or.inr ⟨rfl, by omega, hfv⟩⟩) hh6.2.2.1 (eX11_read (189, .lreturn, 1) (List.mem_of_getElem? (i := 70) rfl))))
        · skip
          refine lv_aload_n hx hb (eX11_read (167, .aload_n 0, 1) (List.mem_of_getElem? (i := 58) rfl)) rfl (lv_at hl7 1 rfl) ?_
          refine tz_get (r := 10) (k := 6) (t := (10, 0, 0)) hx hb hh6 hx10 rfl rfl (hcl10 54 6 (10, 0, 0) (by decide) rfl).1 mf5_6 (eX11_read (168, .getfield 54, 3) (List.mem_of_getElem? (i := 59) rfl)) ?_
          obtain ⟨a11, fa11, ra11⟩ := tz_ref (k := 5) (rr := 17) hh6 rfr (show RTg[3]? = some (0, 3, 0, fsX4) from rfl) rfl
          refine tz_get (r := 3) (k := 5) (t := (38, 0, 0)) hx hb hh6 rfr rfl rfl (hcl3 290 5 (38, 0, 0) (by decide) rfl).1 fa11 (eX11_read (171, .getfield 290, 3) (List.mem_of_getElem? (i := 60) rfl)) ?_
          refine ff_iconst hx hb (eX11_read (174, .iconst 0, 1) (List.mem_of_getElem? (i := 61) rfl)) (by decide) (by decide) (fun v12 e12 => ?_)
          refine lv_aload_n hx hb (eX11_read (175, .aload_n 0, 1) (List.mem_of_getElem? (i := 62) rfl)) rfl (lv_at hl7 1 rfl) ?_
          obtain ⟨a13, fa13, ra13⟩ := tz_ref (k := 7) (rr := 18) hh6 hx10 (show RTg[10]? = some (0, 10, 0, fsX11) from rfl) rfl
          refine tz_get (r := 10) (k := 7) (t := (40, 0, 0)) hx hb hh6 hx10 rfl rfl (hcl10 58 7 (40, 0, 0) (by decide) rfl).1 fa13 (eX11_read (176, .getfield 58, 3) (List.mem_of_getElem? (i := 63) rfl)) ?_
          refine ff_iconst hx hb (eX11_read (179, .iconst 0, 1) (List.mem_of_getElem? (i := 64) rfl)) (by decide) (by decide) (fun v14 e14 => ?_)
          refine lv_aload_n hx hb (eX11_read (180, .aload_n 0, 1) (List.mem_of_getElem? (i := 65) rfl)) rfl (lv_at hl7 1 rfl) ?_
          refine tz_get (r := 10) (k := 7) (t := (40, 0, 0)) hx hb hh6 hx10 rfl rfl (hcl10 58 7 (40, 0, 0) (by decide) rfl).1 fa13 (eX11_read (181, .getfield 58, 3) (List.mem_of_getElem? (i := 66) rfl)) ?_
          refine tz_alen (ty := .long) hx hb (zAr hKa.1.1.1 1 (by decide)) hh6 ra13 (show RTg[18]? = some (1, 1, 39, [(1, (-9223372036854775808), 9223372036854775807)]) from rfl) (by decide) (eX11_read (184, .arraylength, 1) (List.mem_of_getElem? (i := 67) rfl)) (fun v15 e15 => ?_)
          refine zcopy_row (idx := 293) (D := D) (cA := cA) (ro := ro) (sz := sz) (H0 := H0) hx hb hml hown hts0 hKa.1.1 ⟨by decide, by decide⟩ (tb_5 186 rfl rfl) (tb_5 188 rfl rfl) (tb_5 187 rfl rfl) (tb_1 21 rfl rfl) rfl 185 293 (.invokestatic 293) (Or.inl ⟨rfl, rfl⟩) (eX11_read (185, .invokestatic 293, 3) (List.mem_of_getElem? (i := 68) rfl)) t5.heap _ ls7 [] [.ref a11, .int v12, .ref a13, .int v14, .int v15] (by rw [hl7.1]) (by decide) hh6 ⟨⟨Or.inr ⟨_, rfl, ra11⟩, ⟨v12, rfl, by show (0 : Int) ≤ _; omega, by show _ ≤ (0 : Int); omega⟩, Or.inr ⟨_, rfl, ra13⟩, ⟨v14, rfl, by show (0 : Int) ≤ _; omega, by show _ ≤ (0 : Int); omega⟩, ⟨v15, rfl, by show (39 : Int) ≤ _; omega, by show _ ≤ (39 : Int); omega⟩, trivial⟩, (fun e9 he9 => by cases he9), (fun f9 hf9 => by cases hf9)⟩ (fun H16 lo16 r16 hh16 ck16 al16 => ?_)
          obtain ⟨al9, hal9, hal8⟩ := al16
          cases List.mem_singleton.mp hal9
          have hal7 := hal8.1
          cases r16 with
          | some v9 => exact False.elim hal7
          | none =>
            have kp16 := kp5.trans (ck16.mono (ms' := kDc) (by decide))
            refine W.eq (g2 := F0 m 188 ls7 []) rfl ?_
            refine lv_lload_n hx hb (eX11_read (188, .lload_n 2, 1) (List.mem_of_getElem? (i := 69) rfl)) rfl (lv_at hl7 0 rfl) ?_
            have hfv : v6.toInt = rdG T L fo.toInt (fun _ => 0) (fun _ => 0) := by rw [hvd, hsg]; exact (rq_rd hLb).trans (rd_same hLb hT)
            exact vx_ret (W.widen (k := 1) (n := 6) (Nat.zero_le _) (Nat.zero_le _) (W.lret hx hb hr (fun t ht hW => ⟨_, rfl, by rw [ht]; exact hh16.l0, by rw [ht]; exact kp16, Or.inr ⟨rfl, by omega, hfv⟩⟩) hh16.2.2.1 (eX11_read (189, .lreturn, 1) (List.mem_of_getElem? (i := 70) rfl))))
      refine lv_iload_n hx hb (eX11_read (28, .iload_n 1, 1) (List.mem_of_getElem? (i := 13) rfl)) rfl (lv_at hl 1 rfl) ?_
      have gl17 : ¬ fo.toInt < 0 ∨ fo.toInt < 0 := by omega
      by_cases gl : fo.toInt < 0
      · refine lv_tableOut hx hb (eX11_read (29, .tableswitch 101 0 5 #[39, 49, 59, 69, 80, 91], 39) (List.mem_of_getElem? (i := 14) rfl)) (Or.inl gl) (tgt := 130) rfl ?_
        refine lv_aload_n hx hb (eX11_read (130, .aload_n 0, 1) (List.mem_of_getElem? (i := 41) rfl)) rfl (lv_at hl 0 rfl) ?_
        refine tz_get (r := 10) (k := 6) (t := (10, 0, 0)) hx hb hh4 hx10 rfl rfl (hcl10 54 6 (10, 0, 0) (by decide) rfl).1 mf4_6 (eX11_read (131, .getfield 54, 3) (List.mem_of_getElem? (i := 42) rfl)) ?_
        refine tz_rowV (As := []) (st := []) (b := fr) (C := RX4) (Ts := gT) hx hb hml hown h2 (fun _ h => h) (hX4_scanCount l D cA ro sz H0 fr  tx lp dt tm du T L ((fd, ft, (0, 0, -1)) : mS) rfr rtx rlp rdt rtm rdu) ⟨rfl, rfl⟩ ⟨by decide, by decide⟩ ⟨by decide, by decide⟩ (tb_5 181 rfl rfl) (tb_1 7 rfl rfl) (tb_5 178 rfl rfl) (tb_5 179 rfl rfl) (tb_5 180 rfl rfl) (show yX4_scanCount.cls ≠ "java/lang/invoke/MethodHandle" ∧ yX4_scanCount.cls ≠ "java/lang/invoke/VarHandle" ∧ (parseMethodDescriptor yX4_scanCount.desc).map (fun d => d.parameters.length) = some 0 by decide +kernel) zs_blindC (zs_ob hh4 rfr (show RTg[3]? = some (0, 3, 0, fsX4) from rfl) (zCX4 hKa.1.1.1)) (fun U hU hW => ⟨rfl, by rw [hU]; exact hh4.l0, ⟨zKb s U hW.alike hKa.1.1, hBQ.alike hW.alike, hLQ.alike hW.alike⟩, by rw [hU]; exact jr4⟩) hh4.2.2.1 hl.1 (Nat.le_of_ble_eq_true rfl) (eX11_read (134, .invokevirtual 280, 3) (List.mem_of_getElem? (i := 43) rfl)) (fun r18 s18 t18 lo18 g18 f18 l18 => ?_)
        obtain ⟨q18, z18, c18, jr18⟩ := f18
        cases q18
        rw [g18] at c18
        have hh18 : zh_ok D cA RTg ro sz H0 t18.heap lo18 := ⟨z18.1, z18.2.1, l18, z18.2.2.2⟩
        have kp18 := kp4.trans (c18.mono (ms' := kDc) (by decide))
        have mf18_4 := (c18.1 x 10 4 10 0 fsX11 hx10 rfl (by decide) (by decide)).trans mf4_4
        have mf18_6 := (c18.1 x 10 6 10 0 fsX11 hx10 rfl (by decide) (by decide)).trans mf4_6
        generalize hx18 : cqF T ((fd, ft, (0, 0, -1)) : mS) = x18 at jr18
        refine W.eq (g2 := F0 m 137 ls []) rfl ?_
        refine lv_aload_n hx hb (eX11_read (137, .aload_n 0, 1) (List.mem_of_getElem? (i := 44) rfl)) rfl (lv_at hl 0 rfl) ?_
        refine tz_get (r := 10) (k := 6) (t := (10, 0, 0)) hx hb hh18 hx10 rfl rfl (hcl10 54 6 (10, 0, 0) (by decide) rfl).1 mf18_6 (eX11_read (138, .getfield 54, 3) (List.mem_of_getElem? (i := 45) rfl)) ?_
        refine tz_rowV (As := []) (st := []) (b := fr) (C := RX4) (Ts := gT) hx hb hml hown h2 (fun _ h => h) (hX4_scanInterval l D cA ro sz H0 fr  tx lp dt tm du T L x18 rfr rtx rlp rdt rtm rdu) ⟨rfl, rfl⟩ ⟨by decide, by decide⟩ ⟨by decide, by decide⟩ (tb_5 174 rfl rfl) (tb_1 7 rfl rfl) (tb_5 171 rfl rfl) (tb_5 172 rfl rfl) (tb_5 173 rfl rfl) (show yX4_scanInterval.cls ≠ "java/lang/invoke/MethodHandle" ∧ yX4_scanInterval.cls ≠ "java/lang/invoke/VarHandle" ∧ (parseMethodDescriptor yX4_scanInterval.desc).map (fun d => d.parameters.length) = some 0 by decide +kernel) zs_blindC (zs_ob hh18 rfr (show RTg[3]? = some (0, 3, 0, fsX4) from rfl) (zCX4 hKa.1.1.1)) (fun U hU hW => ⟨rfl, by rw [hU]; exact hh18.l0, ⟨zKb s U hW.alike hKa.1.1, hBQ.alike hW.alike, hLQ.alike hW.alike⟩, by rw [hU]; exact jr18⟩) hh18.2.2.1 hl.1 (Nat.le_of_ble_eq_true rfl) (eX11_read (141, .invokevirtual 277, 3) (List.mem_of_getElem? (i := 46) rfl)) (fun r19 s19 t19 lo19 g19 f19 l19 => ?_)
        obtain ⟨q19, z19, c19, jr19⟩ := f19
        cases q19
        rw [g19] at c19
        have hh19 : zh_ok D cA RTg ro sz H0 t19.heap lo19 := ⟨z19.1, z19.2.1, l19, z19.2.2.2⟩
        have kp19 := kp18.trans (c19.mono (ms' := kDc) (by decide))
        have mf19_4 := (c19.1 x 10 4 10 0 fsX11 hx10 rfl (by decide) (by decide)).trans mf18_4
        have mf19_6 := (c19.1 x 10 6 10 0 fsX11 hx10 rfl (by decide) (by decide)).trans mf18_6
        generalize hx19 : iqF T L x18 = x19 at jr19
        refine W.eq (g2 := F0 m 144 ls []) rfl ?_
        have hsg : x19.2.2 = rqF T L fo.toInt ((fd, ft, (0, 0, -1)) : mS) := by unfold rqF; rw [if_neg (show ¬ fo.toInt = 0 by omega), if_neg (show ¬ fo.toInt = 1 by omega), if_neg (show ¬ fo.toInt = 2 by omega), if_neg (show ¬ fo.toInt = 3 by omega), if_neg (show ¬ fo.toInt = 4 by omega), if_neg (show ¬ fo.toInt = 5 by omega), hx18, hx19]
        exact jn144 x19.2.2 ls _ _ hh19 kp19 jr19.2.1 mf19_6 mf19_4 hsg (lv_sub hl [0, 1] rfl)
      by_cases gh : 5 < fo.toInt
      · refine lv_tableOut hx hb (eX11_read (29, .tableswitch 101 0 5 #[39, 49, 59, 69, 80, 91], 39) (List.mem_of_getElem? (i := 14) rfl)) (Or.inr gh) (tgt := 130) rfl ?_
        refine lv_aload_n hx hb (eX11_read (130, .aload_n 0, 1) (List.mem_of_getElem? (i := 41) rfl)) rfl (lv_at hl 0 rfl) ?_
        refine tz_get (r := 10) (k := 6) (t := (10, 0, 0)) hx hb hh4 hx10 rfl rfl (hcl10 54 6 (10, 0, 0) (by decide) rfl).1 mf4_6 (eX11_read (131, .getfield 54, 3) (List.mem_of_getElem? (i := 42) rfl)) ?_
        refine tz_rowV (As := []) (st := []) (b := fr) (C := RX4) (Ts := gT) hx hb hml hown h2 (fun _ h => h) (hX4_scanCount l D cA ro sz H0 fr  tx lp dt tm du T L ((fd, ft, (0, 0, -1)) : mS) rfr rtx rlp rdt rtm rdu) ⟨rfl, rfl⟩ ⟨by decide, by decide⟩ ⟨by decide, by decide⟩ (tb_5 181 rfl rfl) (tb_1 7 rfl rfl) (tb_5 178 rfl rfl) (tb_5 179 rfl rfl) (tb_5 180 rfl rfl) (show yX4_scanCount.cls ≠ "java/lang/invoke/MethodHandle" ∧ yX4_scanCount.cls ≠ "java/lang/invoke/VarHandle" ∧ (parseMethodDescriptor yX4_scanCount.desc).map (fun d => d.parameters.length) = some 0 by decide +kernel) zs_blindC (zs_ob hh4 rfr (show RTg[3]? = some (0, 3, 0, fsX4) from rfl) (zCX4 hKa.1.1.1)) (fun U hU hW => ⟨rfl, by rw [hU]; exact hh4.l0, ⟨zKb s U hW.alike hKa.1.1, hBQ.alike hW.alike, hLQ.alike hW.alike⟩, by rw [hU]; exact jr4⟩) hh4.2.2.1 hl.1 (Nat.le_of_ble_eq_true rfl) (eX11_read (134, .invokevirtual 280, 3) (List.mem_of_getElem? (i := 43) rfl)) (fun r20 s20 t20 lo20 g20 f20 l20 => ?_)
        obtain ⟨q20, z20, c20, jr20⟩ := f20
        cases q20
        rw [g20] at c20
        have hh20 : zh_ok D cA RTg ro sz H0 t20.heap lo20 := ⟨z20.1, z20.2.1, l20, z20.2.2.2⟩
        have kp20 := kp4.trans (c20.mono (ms' := kDc) (by decide))
        have mf20_4 := (c20.1 x 10 4 10 0 fsX11 hx10 rfl (by decide) (by decide)).trans mf4_4
        have mf20_6 := (c20.1 x 10 6 10 0 fsX11 hx10 rfl (by decide) (by decide)).trans mf4_6
        generalize hx20 : cqF T ((fd, ft, (0, 0, -1)) : mS) = x20 at jr20
        refine W.eq (g2 := F0 m 137 ls []) rfl ?_
        refine lv_aload_n hx hb (eX11_read (137, .aload_n 0, 1) (List.mem_of_getElem? (i := 44) rfl)) rfl (lv_at hl 0 rfl) ?_
        refine tz_get (r := 10) (k := 6) (t := (10, 0, 0)) hx hb hh20 hx10 rfl rfl (hcl10 54 6 (10, 0, 0) (by decide) rfl).1 mf20_6 (eX11_read (138, .getfield 54, 3) (List.mem_of_getElem? (i := 45) rfl)) ?_
        refine tz_rowV (As := []) (st := []) (b := fr) (C := RX4) (Ts := gT) hx hb hml hown h2 (fun _ h => h) (hX4_scanInterval l D cA ro sz H0 fr  tx lp dt tm du T L x20 rfr rtx rlp rdt rtm rdu) ⟨rfl, rfl⟩ ⟨by decide, by decide⟩ ⟨by decide, by decide⟩ (tb_5 174 rfl rfl) (tb_1 7 rfl rfl) (tb_5 171 rfl rfl) (tb_5 172 rfl rfl) (tb_5 173 rfl rfl) (show yX4_scanInterval.cls ≠ "java/lang/invoke/MethodHandle" ∧ yX4_scanInterval.cls ≠ "java/lang/invoke/VarHandle" ∧ (parseMethodDescriptor yX4_scanInterval.desc).map (fun d => d.parameters.length) = some 0 by decide +kernel) zs_blindC (zs_ob hh20 rfr (show RTg[3]? = some (0, 3, 0, fsX4) from rfl) (zCX4 hKa.1.1.1)) (fun U hU hW => ⟨rfl, by rw [hU]; exact hh20.l0, ⟨zKb s U hW.alike hKa.1.1, hBQ.alike hW.alike, hLQ.alike hW.alike⟩, by rw [hU]; exact jr20⟩) hh20.2.2.1 hl.1 (Nat.le_of_ble_eq_true rfl) (eX11_read (141, .invokevirtual 277, 3) (List.mem_of_getElem? (i := 46) rfl)) (fun r21 s21 t21 lo21 g21 f21 l21 => ?_)
        obtain ⟨q21, z21, c21, jr21⟩ := f21
        cases q21
        rw [g21] at c21
        have hh21 : zh_ok D cA RTg ro sz H0 t21.heap lo21 := ⟨z21.1, z21.2.1, l21, z21.2.2.2⟩
        have kp21 := kp20.trans (c21.mono (ms' := kDc) (by decide))
        have mf21_4 := (c21.1 x 10 4 10 0 fsX11 hx10 rfl (by decide) (by decide)).trans mf20_4
        have mf21_6 := (c21.1 x 10 6 10 0 fsX11 hx10 rfl (by decide) (by decide)).trans mf20_6
        generalize hx21 : iqF T L x20 = x21 at jr21
        refine W.eq (g2 := F0 m 144 ls []) rfl ?_
        have hsg : x21.2.2 = rqF T L fo.toInt ((fd, ft, (0, 0, -1)) : mS) := by unfold rqF; rw [if_neg (show ¬ fo.toInt = 0 by omega), if_neg (show ¬ fo.toInt = 1 by omega), if_neg (show ¬ fo.toInt = 2 by omega), if_neg (show ¬ fo.toInt = 3 by omega), if_neg (show ¬ fo.toInt = 4 by omega), if_neg (show ¬ fo.toInt = 5 by omega), hx20, hx21]
        exact jn144 x21.2.2 ls _ _ hh21 kp21 jr21.2.1 mf21_6 mf21_4 hsg (lv_sub hl [0, 1] rfl)
      by_cases q17_0 : fo.toInt = 0
      · refine lv_tableIn hx hb (eX11_read (29, .tableswitch 101 0 5 #[39, 49, 59, 69, 80, 91], 39) (List.mem_of_getElem? (i := 14) rfl)) gl gh (off := 39) (by rw [q17_0] <;> rfl) (tgt := 68) rfl ?_
        refine lv_aload_n hx hb (eX11_read (68, .aload_n 0, 1) (List.mem_of_getElem? (i := 15) rfl)) rfl (lv_at hl 0 rfl) ?_
        refine tz_get (r := 10) (k := 6) (t := (10, 0, 0)) hx hb hh4 hx10 rfl rfl (hcl10 54 6 (10, 0, 0) (by decide) rfl).1 mf4_6 (eX11_read (69, .getfield 54, 3) (List.mem_of_getElem? (i := 16) rfl)) ?_
        refine tz_rowV (As := []) (st := []) (b := fr) (C := RX4) (Ts := gT) hx hb hml hown h2 (fun _ h => h) (hX4_scanStamp l D cA ro sz H0 fr  tx lp dt tm du T L ((fd, ft, (0, 0, -1)) : mS) rfr rtx rlp rdt rtm rdu) ⟨rfl, rfl⟩ ⟨by decide, by decide⟩ ⟨by decide, by decide⟩ (tb_4 222 rfl rfl) (tb_1 7 rfl rfl) (tb_4 219 rfl rfl) (tb_4 220 rfl rfl) (tb_4 221 rfl rfl) (show yX4_scanStamp.cls ≠ "java/lang/invoke/MethodHandle" ∧ yX4_scanStamp.cls ≠ "java/lang/invoke/VarHandle" ∧ (parseMethodDescriptor yX4_scanStamp.desc).map (fun d => d.parameters.length) = some 0 by decide +kernel) zs_blindC (zs_ob hh4 rfr (show RTg[3]? = some (0, 3, 0, fsX4) from rfl) (zCX4 hKa.1.1.1)) (fun U hU hW => ⟨rfl, by rw [hU]; exact hh4.l0, ⟨zKb s U hW.alike hKa.1.1, hBQ.alike hW.alike, hLQ.alike hW.alike⟩, by rw [hU]; exact jr4⟩) hh4.2.2.1 hl.1 (Nat.le_of_ble_eq_true rfl) (eX11_read (72, .invokevirtual 261, 3) (List.mem_of_getElem? (i := 17) rfl)) (fun r22 s22 t22 lo22 g22 f22 l22 => ?_)
        obtain ⟨q22, z22, c22, jr22⟩ := f22
        cases q22
        rw [g22] at c22
        have hh22 : zh_ok D cA RTg ro sz H0 t22.heap lo22 := ⟨z22.1, z22.2.1, l22, z22.2.2.2⟩
        have kp22 := kp4.trans (c22.mono (ms' := kDc) (by decide))
        have mf22_4 := (c22.1 x 10 4 10 0 fsX11 hx10 rfl (by decide) (by decide)).trans mf4_4
        have mf22_6 := (c22.1 x 10 6 10 0 fsX11 hx10 rfl (by decide) (by decide)).trans mf4_6
        generalize hx22 : sqqF T L ((fd, ft, (0, 0, -1)) : mS) = x22 at jr22
        refine W.eq (g2 := F0 m 75 ls []) rfl ?_
        refine lv_goto hx hb (eX11_read (75, .goto 69, 3) (List.mem_of_getElem? (i := 18) rfl)) (tgt := 144) rfl ?_
        have hsg : x22.2.2 = rqF T L fo.toInt ((fd, ft, (0, 0, -1)) : mS) := by unfold rqF; rw [if_pos (show fo.toInt = 0 by omega), hx22]
        exact jn144 x22.2.2 ls _ _ hh22 kp22 jr22.2.1 mf22_6 mf22_4 hsg (lv_sub hl [0, 1] rfl)
      by_cases q17_1 : fo.toInt = 1
      · refine lv_tableIn hx hb (eX11_read (29, .tableswitch 101 0 5 #[39, 49, 59, 69, 80, 91], 39) (List.mem_of_getElem? (i := 14) rfl)) gl gh (off := 49) (by rw [q17_1] <;> rfl) (tgt := 78) rfl ?_
        refine lv_aload_n hx hb (eX11_read (78, .aload_n 0, 1) (List.mem_of_getElem? (i := 19) rfl)) rfl (lv_at hl 0 rfl) ?_
        refine tz_get (r := 10) (k := 6) (t := (10, 0, 0)) hx hb hh4 hx10 rfl rfl (hcl10 54 6 (10, 0, 0) (by decide) rfl).1 mf4_6 (eX11_read (79, .getfield 54, 3) (List.mem_of_getElem? (i := 20) rfl)) ?_
        refine tz_rowV (As := []) (st := []) (b := fr) (C := RX4) (Ts := gT) hx hb hml hown h2 (fun _ h => h) (hX4_scanDate l D cA ro sz H0 fr  tx lp dt tm du T L ((fd, ft, (0, 0, -1)) : mS) rfr rtx rlp rdt rtm rdu) ⟨rfl, rfl⟩ ⟨by decide, by decide⟩ ⟨by decide, by decide⟩ (tb_5 100 rfl rfl) (tb_1 7 rfl rfl) (tb_5 97 rfl rfl) (tb_5 98 rfl rfl) (tb_5 99 rfl rfl) (show yX4_scanDate.cls ≠ "java/lang/invoke/MethodHandle" ∧ yX4_scanDate.cls ≠ "java/lang/invoke/VarHandle" ∧ (parseMethodDescriptor yX4_scanDate.desc).map (fun d => d.parameters.length) = some 0 by decide +kernel) zs_blindC (zs_ob hh4 rfr (show RTg[3]? = some (0, 3, 0, fsX4) from rfl) (zCX4 hKa.1.1.1)) (fun U hU hW => ⟨rfl, by rw [hU]; exact hh4.l0, ⟨zKb s U hW.alike hKa.1.1, hBQ.alike hW.alike, hLQ.alike hW.alike⟩, by rw [hU]; exact jr4⟩) hh4.2.2.1 hl.1 (Nat.le_of_ble_eq_true rfl) (eX11_read (82, .invokevirtual 264, 3) (List.mem_of_getElem? (i := 21) rfl)) (fun r23 s23 t23 lo23 g23 f23 l23 => ?_)
        obtain ⟨q23, z23, c23, jr23⟩ := f23
        cases q23
        rw [g23] at c23
        have hh23 : zh_ok D cA RTg ro sz H0 t23.heap lo23 := ⟨z23.1, z23.2.1, l23, z23.2.2.2⟩
        have kp23 := kp4.trans (c23.mono (ms' := kDc) (by decide))
        have mf23_4 := (c23.1 x 10 4 10 0 fsX11 hx10 rfl (by decide) (by decide)).trans mf4_4
        have mf23_6 := (c23.1 x 10 6 10 0 fsX11 hx10 rfl (by decide) (by decide)).trans mf4_6
        generalize hx23 : dqqF T ((fd, ft, (0, 0, -1)) : mS) = x23 at jr23
        refine W.eq (g2 := F0 m 85 ls []) rfl ?_
        refine lv_goto hx hb (eX11_read (85, .goto 59, 3) (List.mem_of_getElem? (i := 22) rfl)) (tgt := 144) rfl ?_
        have hsg : x23.2.2 = rqF T L fo.toInt ((fd, ft, (0, 0, -1)) : mS) := by unfold rqF; rw [if_neg (show ¬ fo.toInt = 0 by omega), if_pos (show fo.toInt = 1 by omega), hx23]
        exact jn144 x23.2.2 ls _ _ hh23 kp23 jr23.2.1 mf23_6 mf23_4 hsg (lv_sub hl [0, 1] rfl)
      by_cases q17_2 : fo.toInt = 2
      · refine lv_tableIn hx hb (eX11_read (29, .tableswitch 101 0 5 #[39, 49, 59, 69, 80, 91], 39) (List.mem_of_getElem? (i := 14) rfl)) gl gh (off := 59) (by rw [q17_2] <;> rfl) (tgt := 88) rfl ?_
        refine lv_aload_n hx hb (eX11_read (88, .aload_n 0, 1) (List.mem_of_getElem? (i := 23) rfl)) rfl (lv_at hl 0 rfl) ?_
        refine tz_get (r := 10) (k := 6) (t := (10, 0, 0)) hx hb hh4 hx10 rfl rfl (hcl10 54 6 (10, 0, 0) (by decide) rfl).1 mf4_6 (eX11_read (89, .getfield 54, 3) (List.mem_of_getElem? (i := 24) rfl)) ?_
        refine tz_rowV (As := []) (st := []) (b := fr) (C := RX4) (Ts := gT) hx hb hml hown h2 (fun _ h => h) (hX4_scanTime l D cA ro sz H0 fr  tx lp dt tm du T L ((fd, ft, (0, 0, -1)) : mS) rfr rtx rlp rdt rtm rdu) ⟨rfl, rfl⟩ ⟨by decide, by decide⟩ ⟨by decide, by decide⟩ (tb_5 131 rfl rfl) (tb_1 7 rfl rfl) (tb_5 128 rfl rfl) (tb_5 129 rfl rfl) (tb_5 130 rfl rfl) (show yX4_scanTime.cls ≠ "java/lang/invoke/MethodHandle" ∧ yX4_scanTime.cls ≠ "java/lang/invoke/VarHandle" ∧ (parseMethodDescriptor yX4_scanTime.desc).map (fun d => d.parameters.length) = some 0 by decide +kernel) zs_blindC (zs_ob hh4 rfr (show RTg[3]? = some (0, 3, 0, fsX4) from rfl) (zCX4 hKa.1.1.1)) (fun U hU hW => ⟨rfl, by rw [hU]; exact hh4.l0, ⟨zKb s U hW.alike hKa.1.1, hBQ.alike hW.alike, hLQ.alike hW.alike⟩, by rw [hU]; exact jr4⟩) hh4.2.2.1 hl.1 (Nat.le_of_ble_eq_true rfl) (eX11_read (92, .invokevirtual 267, 3) (List.mem_of_getElem? (i := 25) rfl)) (fun r24 s24 t24 lo24 g24 f24 l24 => ?_)
        obtain ⟨q24, z24, c24, jr24⟩ := f24
        cases q24
        rw [g24] at c24
        have hh24 : zh_ok D cA RTg ro sz H0 t24.heap lo24 := ⟨z24.1, z24.2.1, l24, z24.2.2.2⟩
        have kp24 := kp4.trans (c24.mono (ms' := kDc) (by decide))
        have mf24_4 := (c24.1 x 10 4 10 0 fsX11 hx10 rfl (by decide) (by decide)).trans mf4_4
        have mf24_6 := (c24.1 x 10 6 10 0 fsX11 hx10 rfl (by decide) (by decide)).trans mf4_6
        generalize hx24 : tqqF T L ((fd, ft, (0, 0, -1)) : mS) = x24 at jr24
        refine W.eq (g2 := F0 m 95 ls []) rfl ?_
        refine lv_goto hx hb (eX11_read (95, .goto 49, 3) (List.mem_of_getElem? (i := 26) rfl)) (tgt := 144) rfl ?_
        have hsg : x24.2.2 = rqF T L fo.toInt ((fd, ft, (0, 0, -1)) : mS) := by unfold rqF; rw [if_neg (show ¬ fo.toInt = 0 by omega), if_neg (show ¬ fo.toInt = 1 by omega), if_pos (show fo.toInt = 2 by omega), hx24]
        exact jn144 x24.2.2 ls _ _ hh24 kp24 jr24.2.1 mf24_6 mf24_4 hsg (lv_sub hl [0, 1] rfl)
      by_cases q17_3 : fo.toInt = 3
      · refine lv_tableIn hx hb (eX11_read (29, .tableswitch 101 0 5 #[39, 49, 59, 69, 80, 91], 39) (List.mem_of_getElem? (i := 14) rfl)) gl gh (off := 69) (by rw [q17_3] <;> rfl) (tgt := 98) rfl ?_
        refine lv_aload_n hx hb (eX11_read (98, .aload_n 0, 1) (List.mem_of_getElem? (i := 27) rfl)) rfl (lv_at hl 0 rfl) ?_
        refine tz_get (r := 10) (k := 6) (t := (10, 0, 0)) hx hb hh4 hx10 rfl rfl (hcl10 54 6 (10, 0, 0) (by decide) rfl).1 mf4_6 (eX11_read (99, .getfield 54, 3) (List.mem_of_getElem? (i := 28) rfl)) ?_
        refine ff_iconst hx hb (eX11_read (102, .iconst 0, 1) (List.mem_of_getElem? (i := 29) rfl)) (by decide) (by decide) (fun v25 e25 => ?_)
        refine tz_rowV (As := [.int v25]) (st := []) (b := fr) (C := RX4) (Ts := gT) hx hb hml hown h2 (fun _ h => h) (hX4_scanMoment l D cA ro sz H0 fr v25 tx lp dt tm du T L ((fd, ft, (0, 0, -1)) : mS) rfr rtx rlp rdt rtm rdu) ⟨rfl, rfl⟩ ⟨by decide, by decide⟩ ⟨by decide, by decide⟩ (tb_5 140 rfl rfl) (tb_1 7 rfl rfl) (tb_5 137 rfl rfl) (tb_5 138 rfl rfl) (tb_5 139 rfl rfl) (show yX4_scanMoment.cls ≠ "java/lang/invoke/MethodHandle" ∧ yX4_scanMoment.cls ≠ "java/lang/invoke/VarHandle" ∧ (parseMethodDescriptor yX4_scanMoment.desc).map (fun d => d.parameters.length) = some 1 by decide +kernel) zs_blindC (zs_ob hh4 rfr (show RTg[3]? = some (0, 3, 0, fsX4) from rfl) (zCX4 hKa.1.1.1)) (fun U hU hW => ⟨rfl, by rw [hU]; exact hh4.l0, ⟨zKb s U hW.alike hKa.1.1, hBQ.alike hW.alike, hLQ.alike hW.alike⟩, by rw [hU]; exact jr4⟩) hh4.2.2.1 hl.1 (Nat.le_of_ble_eq_true rfl) (eX11_read (103, .invokevirtual 270, 3) (List.mem_of_getElem? (i := 30) rfl)) (fun r26 s26 t26 lo26 g26 f26 l26 => ?_)
        obtain ⟨q26, z26, c26, jr26⟩ := f26
        cases q26
        rw [g26] at c26
        have hh26 : zh_ok D cA RTg ro sz H0 t26.heap lo26 := ⟨z26.1, z26.2.1, l26, z26.2.2.2⟩
        have kp26 := kp4.trans (c26.mono (ms' := kDc) (by decide))
        have mf26_4 := (c26.1 x 10 4 10 0 fsX11 hx10 rfl (by decide) (by decide)).trans mf4_4
        have mf26_6 := (c26.1 x 10 6 10 0 fsX11 hx10 rfl (by decide) (by decide)).trans mf4_6
        generalize hx26 : mqF T L ((fd, ft, (0, 0, -1)) : mS) = x26 at jr26
        refine W.eq (g2 := F0 m 106 ls []) rfl ?_
        refine lv_goto hx hb (eX11_read (106, .goto 38, 3) (List.mem_of_getElem? (i := 31) rfl)) (tgt := 144) rfl ?_
        have hsg : x26.2.2 = rqF T L fo.toInt ((fd, ft, (0, 0, -1)) : mS) := by unfold rqF; rw [if_neg (show ¬ fo.toInt = 0 by omega), if_neg (show ¬ fo.toInt = 1 by omega), if_neg (show ¬ fo.toInt = 2 by omega), if_pos (show fo.toInt = 3 by omega), hx26]
        exact jn144 x26.2.2 ls _ _ hh26 kp26 jr26.2.1 mf26_6 mf26_4 hsg (lv_sub hl [0, 1] rfl)
      by_cases q17_4 : fo.toInt = 4
      · refine lv_tableIn hx hb (eX11_read (29, .tableswitch 101 0 5 #[39, 49, 59, 69, 80, 91], 39) (List.mem_of_getElem? (i := 14) rfl)) gl gh (off := 80) (by rw [q17_4] <;> rfl) (tgt := 109) rfl ?_
        refine lv_aload_n hx hb (eX11_read (109, .aload_n 0, 1) (List.mem_of_getElem? (i := 32) rfl)) rfl (lv_at hl 0 rfl) ?_
        refine tz_get (r := 10) (k := 6) (t := (10, 0, 0)) hx hb hh4 hx10 rfl rfl (hcl10 54 6 (10, 0, 0) (by decide) rfl).1 mf4_6 (eX11_read (110, .getfield 54, 3) (List.mem_of_getElem? (i := 33) rfl)) ?_
        refine ff_iconst hx hb (eX11_read (113, .iconst 0, 1) (List.mem_of_getElem? (i := 34) rfl)) (by decide) (by decide) (fun v27 e27 => ?_)
        refine tz_rowV (As := [.int v27]) (st := []) (b := fr) (C := RX4) (Ts := gT) hx hb hml hown h2 (fun _ h => h) (hX4_scanDuration l D cA ro sz H0 fr v27 tx lp dt tm du T L ((fd, ft, (0, 0, -1)) : mS) rfr rtx rlp rdt rtm rdu) ⟨rfl, rfl⟩ ⟨by decide, by decide⟩ ⟨by decide, by decide⟩ (tb_5 144 rfl rfl) (tb_1 7 rfl rfl) (tb_5 141 rfl rfl) (tb_5 142 rfl rfl) (tb_5 143 rfl rfl) (show yX4_scanDuration.cls ≠ "java/lang/invoke/MethodHandle" ∧ yX4_scanDuration.cls ≠ "java/lang/invoke/VarHandle" ∧ (parseMethodDescriptor yX4_scanDuration.desc).map (fun d => d.parameters.length) = some 1 by decide +kernel) zs_blindC (zs_ob hh4 rfr (show RTg[3]? = some (0, 3, 0, fsX4) from rfl) (zCX4 hKa.1.1.1)) (fun U hU hW => ⟨rfl, by rw [hU]; exact hh4.l0, ⟨zKb s U hW.alike hKa.1.1, hBQ.alike hW.alike, hLQ.alike hW.alike⟩, by rw [hU]; exact jr4⟩) hh4.2.2.1 hl.1 (Nat.le_of_ble_eq_true rfl) (eX11_read (114, .invokevirtual 274, 3) (List.mem_of_getElem? (i := 35) rfl)) (fun r28 s28 t28 lo28 g28 f28 l28 => ?_)
        obtain ⟨q28, z28, c28, jr28⟩ := f28
        cases q28
        rw [g28] at c28
        have hh28 : zh_ok D cA RTg ro sz H0 t28.heap lo28 := ⟨z28.1, z28.2.1, l28, z28.2.2.2⟩
        have kp28 := kp4.trans (c28.mono (ms' := kDc) (by decide))
        have mf28_4 := (c28.1 x 10 4 10 0 fsX11 hx10 rfl (by decide) (by decide)).trans mf4_4
        have mf28_6 := (c28.1 x 10 6 10 0 fsX11 hx10 rfl (by decide) (by decide)).trans mf4_6
        generalize hx28 : ((((fd, ft, (0, 0, -1)) : mS).1, ((fd, ft, (0, 0, -1)) : mS).2.1, duF T ((fd, ft, (0, 0, -1)) : mS).2.2) : mS) = x28 at jr28
        refine W.eq (g2 := F0 m 117 ls []) rfl ?_
        refine lv_goto hx hb (eX11_read (117, .goto 27, 3) (List.mem_of_getElem? (i := 36) rfl)) (tgt := 144) rfl ?_
        have hsg : x28.2.2 = rqF T L fo.toInt ((fd, ft, (0, 0, -1)) : mS) := by unfold rqF; rw [if_neg (show ¬ fo.toInt = 0 by omega), if_neg (show ¬ fo.toInt = 1 by omega), if_neg (show ¬ fo.toInt = 2 by omega), if_neg (show ¬ fo.toInt = 3 by omega), if_pos (show fo.toInt = 4 by omega), ← hx28]
        exact jn144 x28.2.2 ls _ _ hh28 kp28 jr28.2.1 mf28_6 mf28_4 hsg (lv_sub hl [0, 1] rfl)
      by_cases q17_5 : fo.toInt = 5
      · refine lv_tableIn hx hb (eX11_read (29, .tableswitch 101 0 5 #[39, 49, 59, 69, 80, 91], 39) (List.mem_of_getElem? (i := 14) rfl)) gl gh (off := 91) (by rw [q17_5] <;> rfl) (tgt := 120) rfl ?_
        refine lv_aload_n hx hb (eX11_read (120, .aload_n 0, 1) (List.mem_of_getElem? (i := 37) rfl)) rfl (lv_at hl 0 rfl) ?_
        refine tz_get (r := 10) (k := 6) (t := (10, 0, 0)) hx hb hh4 hx10 rfl rfl (hcl10 54 6 (10, 0, 0) (by decide) rfl).1 mf4_6 (eX11_read (121, .getfield 54, 3) (List.mem_of_getElem? (i := 38) rfl)) ?_
        refine tz_rowV (As := []) (st := []) (b := fr) (C := RX4) (Ts := gT) hx hb hml hown h2 (fun _ h => h) (hX4_scanInterval l D cA ro sz H0 fr  tx lp dt tm du T L ((fd, ft, (0, 0, -1)) : mS) rfr rtx rlp rdt rtm rdu) ⟨rfl, rfl⟩ ⟨by decide, by decide⟩ ⟨by decide, by decide⟩ (tb_5 174 rfl rfl) (tb_1 7 rfl rfl) (tb_5 171 rfl rfl) (tb_5 172 rfl rfl) (tb_5 173 rfl rfl) (show yX4_scanInterval.cls ≠ "java/lang/invoke/MethodHandle" ∧ yX4_scanInterval.cls ≠ "java/lang/invoke/VarHandle" ∧ (parseMethodDescriptor yX4_scanInterval.desc).map (fun d => d.parameters.length) = some 0 by decide +kernel) zs_blindC (zs_ob hh4 rfr (show RTg[3]? = some (0, 3, 0, fsX4) from rfl) (zCX4 hKa.1.1.1)) (fun U hU hW => ⟨rfl, by rw [hU]; exact hh4.l0, ⟨zKb s U hW.alike hKa.1.1, hBQ.alike hW.alike, hLQ.alike hW.alike⟩, by rw [hU]; exact jr4⟩) hh4.2.2.1 hl.1 (Nat.le_of_ble_eq_true rfl) (eX11_read (124, .invokevirtual 277, 3) (List.mem_of_getElem? (i := 39) rfl)) (fun r29 s29 t29 lo29 g29 f29 l29 => ?_)
        obtain ⟨q29, z29, c29, jr29⟩ := f29
        cases q29
        rw [g29] at c29
        have hh29 : zh_ok D cA RTg ro sz H0 t29.heap lo29 := ⟨z29.1, z29.2.1, l29, z29.2.2.2⟩
        have kp29 := kp4.trans (c29.mono (ms' := kDc) (by decide))
        have mf29_4 := (c29.1 x 10 4 10 0 fsX11 hx10 rfl (by decide) (by decide)).trans mf4_4
        have mf29_6 := (c29.1 x 10 6 10 0 fsX11 hx10 rfl (by decide) (by decide)).trans mf4_6
        generalize hx29 : iqF T L ((fd, ft, (0, 0, -1)) : mS) = x29 at jr29
        refine W.eq (g2 := F0 m 127 ls []) rfl ?_
        refine lv_goto hx hb (eX11_read (127, .goto 17, 3) (List.mem_of_getElem? (i := 40) rfl)) (tgt := 144) rfl ?_
        have hsg : x29.2.2 = rqF T L fo.toInt ((fd, ft, (0, 0, -1)) : mS) := by unfold rqF; rw [if_neg (show ¬ fo.toInt = 0 by omega), if_neg (show ¬ fo.toInt = 1 by omega), if_neg (show ¬ fo.toInt = 2 by omega), if_neg (show ¬ fo.toInt = 3 by omega), if_neg (show ¬ fo.toInt = 4 by omega), if_pos (show fo.toInt = 5 by omega), hx29]
        exact jn144 x29.2.2 ls _ _ hh29 kp29 jr29.2.1 mf29_6 mf29_4 hsg (lv_sub hl [0, 1] rfl)
      exfalso
      omega
    · skip
      exact zx_leafGW (ik := 83) (is := 256) (ic := 87) (cls := "java/lang/IllegalArgumentException") (text := "no such form") hx hb hst hown h2 hKa.1 hh hh (by rw [hl.1, hml]) hex hlk ⟨by decide, by decide, by decide, by decide⟩ (tb_2 121 rfl rfl) (tb_1 17 rfl rfl) (by decide) (gAt_in gAt_1) (by decide +kernel) (by decide) (by decide) (fun t h7 h8 => ⟨hh.grow h7 h8, kept_grow hh h8, rfl, 0, Or.inl ⟨rfl, by omega⟩⟩) (eX11_read (10, .new 83, 3) (List.mem_of_getElem? (i := 5) rfl)) (eX11_read (13, .dup, 1) (List.mem_of_getElem? (i := 6) rfl)) (eX11_read (14, .ldc_w 256, 3) (List.mem_of_getElem? (i := 7) rfl)) (eX11_read (17, .invokespecial 87, 3) (List.mem_of_getElem? (i := 8) rfl)) (eX11_read (20, .athrow, 1) (List.mem_of_getElem? (i := 9) rfl))
set_option maxRecDepth 100000 in
set_option maxHeartbeats 4000000 in
theorem wD_read (l : Launch) (hst : l.stackTraces = false) (D : va_G) (cA : Nat → ClassId) (ro : Nat → Option Nat) (sz : Nat) (H0 : Heap) (x : Nat) (p1 : Int32) (o : Nat) (L : List Int) (zc : Int) (T O : List Int) (hx10 : ro x = some 10) (ho : ro o = some 42) : Met l yL_read (Cond.codeWith yL_read cL_read 4 (some .int) [(0, 8, 11, 13)] :: gT) { frames := 8, cells := 1, slots := 6, locals := 193 } (zs_PZ D cA ro sz H0 (fun H => jCS D cA ro H x L zc ∧ jCK D cA ro H x T O ∧ jRr D ro H x) [.ref x, .int p1, .ref o]) (kd_QL D cA ro sz H0 o (spRd p1.toInt T L)) 1 6 (zy_fr sz) := by
  refine zw_ofW (cc := cL_read) (maxL := 4) (ret := some .int) (by decide +kernel) rfl ?_
  intro p e s m args below meth c s1 B hml hv
  obtain ⟨rfl, hh, hKa, hBQ, hJ⟩ := hv
  have hx := B.exec
  have hb := B.bytes
  have hr := B.returns
  have hlk := B.notSynchronized
  have hts0 := atoms_spec (ws := Cond.codeWith yL_read cL_read 4 (some .int) [(0, 8, 11, 13)] :: gT) B.pre
  have h2 : ∀ w ∈ gT, w.before ([.ref x, .int p1, .ref o] : List Value).toArray s = true := fun w hw => hts0 w (List.mem_cons_of_mem _ hw)
  have hown : s.vm.findClass RL = some m.cls := findClass_of_methodNamed B.named
  have hl := lv_entry [.ref x, .int p1, .ref o] (n := 4) (Nat.le_of_ble_eq_true rfl)
  rw [lg_entry_eq]
  generalize (lg_sl [.ref x, .int p1, .ref o] ++ List.replicate (4 - (lg_sl [.ref x, .int p1, .ref o]).length) Slot.unset).toArray = ls at hl ⊢
  refine lv_aload_n hx hb (eL_read (0, .aload_n 2, 1) (List.mem_of_getElem? (i := 0) rfl)) rfl (lv_at hl 2 rfl) ?_
  refine ff_iconst hx hb (eL_read (1, .iconst 0, 1) (List.mem_of_getElem? (i := 1) rfl)) (by decide) (by decide) (fun v1 e1 => ?_)
  refine lv_aload_n hx hb (eL_read (2, .aload_n 0, 1) (List.mem_of_getElem? (i := 2) rfl)) rfl (lv_at hl 0 rfl) ?_
  refine lv_iload_n hx hb (eL_read (3, .iload_n 1, 1) (List.mem_of_getElem? (i := 3) rfl)) rfl (lv_at hl 1 rfl) ?_
  refine zx_rowG (As := [.int p1]) (st := [.int v1, .ref o]) (b := x) (C := RX11) hx hb hml hown hts0 (hX11_read l hst D cA ro sz H0 x p1 L zc T O hx10) ⟨rfl, rfl⟩ ⟨by decide, by decide⟩ ⟨by decide, by decide⟩ (tb_4 210 rfl rfl) (tb_1 1 rfl rfl) (tb_4 207 rfl rfl) (tb_4 208 rfl rfl) (tb_4 209 rfl rfl) rfl (show yX11_read.cls ≠ "java/lang/invoke/MethodHandle" ∧ yX11_read.cls ≠ "java/lang/invoke/VarHandle" ∧ (parseMethodDescriptor yX11_read.desc).map (fun d => d.parameters.length) = some 1 by decide +kernel) zs_blindZ (zw_ob hh hKa.1.1.1 hx10) (fun U hU hW => ⟨rfl, by rw [hU]; exact hh, hKa.warm hW, ⟨hBQ.1.alike hW.alike, hBQ.2.alike hW.alike⟩, by rw [hU]; exact hJ⟩) (fun q hq => by cases hq) hl.1 (Nat.le_of_ble_eq_true rfl) (eL_read (4, .invokevirtual 68, 3) (List.mem_of_getElem? (i := 4) rfl)) (fun v s0 t lo1 g0 g1 g2 => ?_) (fun q s0 t lo1 E ce g0 g1 g3 g4 g5 g2 => ?_)
  · obtain ⟨y9, q1, q5, q6, q8⟩ := g1
    cases q1
    rw [g0] at q6
    have hh1 : zh_ok D cA RTg ro sz H0 t.heap lo1 := ⟨q5.1, q5.2.1, g2, q5.2.2.2⟩
    have kp1 := q6
    refine W.eq (g2 := F0 m 7 ls [.long y9, .int v1, .ref o]) rfl ?_
    refine zw_out hx hb hh1 hKa.1.1.1 ho (by omega) (eL_read (7, .lastore, 1) (List.mem_of_getElem? (i := 5) rfl)) (fun H9 lo9 hh9 hq9 _ hz9 => ?_)
    obtain ⟨z9, hz9, hz8⟩ := hz9
    have kg9 : zc_kept D RTg ro [(42, 0)] t.heap H9 := zk_setA (by decide) ho rfl hq9
    have kp9 := kp1.trans (kg9.mono (ms' := kDc) (by decide))
    refine lv_goto hx hb (eL_read (8, .goto 6, 3) (List.mem_of_getElem? (i := 6) rfl)) (tgt := 14) rfl ?_
    refine ff_iconst hx hb (eL_read (14, .iconst 0, 1) (List.mem_of_getElem? (i := 10) rfl)) (by decide) (by decide) (fun v2 e2 => ?_)
    exact W.zret hx hb hr rfl (fun t ht hW => ⟨_, z9, y9, rfl, by rw [ht]; exact hh9.l0, by rw [ht]; exact kp9, by rw [ht]; exact hz9, hz8, Or.inl ⟨by omega, q8⟩⟩) hh9.2.2.1 (eL_read (15, .ireturn, 1) (List.mem_of_getElem? (i := 11) rfl))
  · obtain ⟨q4, k5, rfl, sp1⟩ := g1
    rw [g0] at k5
    have k4 : zc_kept D RTg ro kDc s.heap t.heap := k5.mono (fun _ h => by cases h)
    have hh1 : zh_ok D cA RTg ro sz H0 t.heap lo1 := ⟨q4.1, q4.2.1, g2, q4.2.2.2⟩
    obtain ⟨-, z1, oc1, yo1⟩ := zh_arr hh1 ho (show RTg[42]? = some (1, 1, 1, [(1, (-9223372036854775808), 9223372036854775807)]) from rfl)
    obtain ⟨r1, or1, -, -⟩ := yo1 0 (by decide)
    refine vx_catch (own := RL) (name := "java/lang/IllegalArgumentException") hown [] ⟨0, 8, 11, 13⟩ [] (vx_table (x := yL_read) B (h2 _ (tb_4 206 rfl rfl))) (fun z hz => by cases hz) rfl (by decide) (h2 _ (tb_2 103 rfl rfl)) (va_Nw.use rfl (hKa.1.2.2.2.2.1 (eI, eI) (List.mem_of_getElem? (i := 0) rfl))) g3 g4 g5 ?_
    refine lv_astore_n hx hb (eL_read (11, .astore_n 3, 1) (List.mem_of_getElem? (i := 7) rfl)) rfl hl (by decide) rfl (fun ls3 hl3 => ?_)
    refine ff_iconst hx hb (eL_read (12, .iconst 1, 1) (List.mem_of_getElem? (i := 8) rfl)) (by decide) (by decide) (fun v4 e4 => ?_)
    exact W.zret hx hb hr rfl (fun t ht hW => ⟨_, z1, r1, rfl, by rw [ht]; exact hh1.l0, by rw [ht]; exact k4, by rw [ht]; exact oc1, or1, Or.inr ⟨by omega, by have g6 := sp1; rw [show (1 : Int) = _ from (by omega : (1 : Int) = v4.toInt)] at g6; exact g6⟩⟩) hh1.2.2.1 (eL_read (13, .ireturn, 1) (List.mem_of_getElem? (i := 9) rfl))
