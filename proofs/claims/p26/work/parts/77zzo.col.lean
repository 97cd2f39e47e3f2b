def kF : List (Nat × Nat) := [(5, 5), (5, 6), (5, 7), (5, 8), (5, 9), (5, 10), (19, 0)]
theorem jZR.kept {D : va_G} {cA : Nat → ClassId} {ro : Nat → Option Nat} {H H' : Heap} {ms : List (Nat × Nat)} {zq zA zB : Nat} {ze : zE} {lp : Nat} {L : List Int} {ru rF rT : Nat} {rr : rU} (h : zc_kept D RTg ro ms H H') (hm : ∀ y ∈ zrF ++ uFl, y ∉ ms) (j : jZR D cA ro H zq zA zB ze lp L ru rF rT rr) : jZR D cA ro H' zq zA zB ze lp L ru rF rT rr := j.upd h (fun y hy => hm y (List.mem_append_left _ hy)) (j.2.2.2.2.2.kept h (fun y hy => hm y (List.mem_append_right _ hy)))
theorem ofs_bd {e : zE} {r : rU} {i : Nat} {o : Int} (hw : rW r) (h1 : oOK e.1) (h2 : ∀ c ∈ e.2, oOK c.2) (h : (ofsL e r)[i]? = some o) : oOK o := by
  have hm := List.mem_of_getElem? h
  unfold ofsL at hm
  rcases List.mem_cons.mp hm with g | g
  · rw [g]; exact h1
  · rcases List.mem_append.mp g with g | g
    · obtain ⟨c, hc, e9⟩ := List.mem_map.mp g
      rw [← e9]; exact h2 c hc
    · split at g
      · cases g
      · split at g
        · rw [List.mem_singleton.mp g]; exact hw.2.2.1 (by omega)
        · have h3 := hw.1
          have h4 := hw.2.1
          rcases List.mem_cons.mp g with g | g
          · rw [g]; exact hw.2.2.1 (by omega)
          · rw [List.mem_singleton.mp g]; exact (hw.2.2.2 (by omega)).1
set_option maxRecDepth 100000 in
set_option maxHeartbeats 4000000 in
theorem hX10_collect (l : Launch) (D : va_G) (cA : Nat → ClassId) (ro : Nat → Option Nat) (sz : Nat) (H0 : Heap) (zq : Nat) (m0 : Int64) (s0 : Int32) (fo : Nat) (zA zB : Nat) (ze : zE) (lp : Nat) (L : List Int) (ru rF rT : Nat) (rr : rU) (hq9 : ro zq = some 9) (hjL : L.length ≤ 40) (rfo : ro fo = some 19) (hm1 : -526984793280 ≤ m0.toInt) (hm2 : m0.toInt ≤ 524913079679) (hs1 : 0 ≤ s0.toInt) (hs2 : s0.toInt ≤ 60) (hoA : oOK ze.1) (hoB : ∀ c ∈ ze.2, oOK c.2) : Met l yX10_collect (gW yX10_collect cX10_collect 12 (some .int)) { frames := 4, cells := 0, slots := 0, locals := 97 } (zs_PB D cA ro sz H0 (fun H => jZR D cA ro H zq zA zB ze lp L ru rF rT rr ∧ ∃ zf : Nat → Value, H[fo]? = some (arrV (cA 1) 63 zf)) [.ref zq, .long m0, .int s0, .ref fo]) (fun _ st oc t => ∃ r : Int32, oc = .returned (some (.int r)) ∧ r.toInt = ((clF L ze rr m0.toInt s0.toInt).length : Int) ∧ zh_ok D cA RTg ro sz H0 t.heap [] ∧ zc_kept D RTg ro kF st.heap t.heap ∧ jZR D cA ro t.heap zq zA zB ze lp L ru rF rT rr ∧ (∃ z9 : Nat → Value, t.heap[fo]? = some (arrV (cA 1) 63 z9) ∧ jN (clF L ze rr m0.toInt s0.toInt) z9) ∧ ∀ p9 : Nat, p9 ∉ [ru, fo] → t.heap[p9]? = st.heap[p9]?) 0 0 (zy_fr sz) := by
  refine zy_ofW (cc := cX10_collect) (maxL := 12) (ret := (some .int)) (by decide +kernel) rfl ?_
  intro p e s m args below meth c s1 B hml hv
  obtain ⟨rfl, hh, ⟨hKn, hBQ⟩, hJ⟩ := hv
  have hx := B.exec
  have hb := B.bytes
  have hr := B.returns
  have hlk := B.notSynchronized
  have hts0 := atoms_spec (ws := gW yX10_collect cX10_collect 12 (some .int)) B.pre
  have h2 : ∀ w ∈ gT, w.before ([.ref zq, .long m0, .int s0, .ref fo] : List Value).toArray s = true := fun w hw => hts0 w (List.mem_cons_of_mem _ hw)
  have hown : s.vm.findClass RX10 = some m.cls := findClass_of_methodNamed B.named
  have hl := lv_entry [.ref zq, .long m0, .int s0, .ref fo] (n := 12) (Nat.le_of_ble_eq_true rfl)
  rw [lg_entry_eq]
  generalize (lg_sl [.ref zq, .long m0, .int s0, .ref fo] ++ List.replicate (12 - (lg_sl [.ref zq, .long m0, .int s0, .ref fo]).length) Slot.unset).toArray = ls at hl ⊢
  have b_m0 := zn_i64 m0
  have b_s0 := zn_i32 s0
  have hD := zD_all h2 hKn.1
  have hcl9 := fun (idx k : Nat) (t : zt_T) (h : (idx, 9, k) ∈ gfX10) (hk : fsX10[k]? = some t) => zf_clause (ro := ro) (ms := kF) h2 hown hKn.1 gfX10_ok (by decide +kernel) idx 9 k 9 0 fsX10 t h rfl hk
  have hcl5 := fun (idx k : Nat) (t : zt_T) (h : (idx, 5, k) ∈ gfX10) (hk : fsX6[k]? = some t) => zf_clause (ro := ro) (ms := kF) h2 hown hKn.1 gfX10_ok (by decide +kernel) idx 5 k 5 0 fsX6 t h rfl hk
  have kp0 : zc_kept D RTg ro kF s.heap s.heap := zc_kept.refl
  obtain ⟨hJ, zf0, cf0⟩ := id hJ
  obtain ⟨hzo, fzl, rl4, hlp, fzu, hro⟩ := id hJ
  obtain ⟨-, rA, rB, f2, f3, ⟨k0, f0, hk0⟩, n, y, w, f4, hn, cA1, cB1, hc⟩ := id hzo
  obtain ⟨n9, g9, n1, n2⟩ := zh_fT (k := 4) (t := (0, 0, 60)) hh hq9 (show RTg[9]? = some (0, 9, 0, fsX10) from rfl) rfl
  cases f4.symm.trans g9
  dsimp only at n1 n2
  clear g9
  obtain ⟨hru, r6F, r6T, ⟨hF3, hF4, nn, a1, b1, u0, u1, u2, hnn, ha1, hb1⟩, hcc, hw⟩ := id hro
  have hwN := hw.1
  have hwC := hw.2.1
  have fr0 : ∀ p9 : Nat, p9 ∉ [ru] → s.heap[p9]? = s.heap[p9]? := fun _ _ => rfl
  obtain ⟨-, xA, dA, hA⟩ := zh_arr hh rA (show RTg[14]? = some (1, 1, 60, [(1, (-9223372036854775808), 9223372036854775807)]) from rfl)
  have hyA : ∀ i, i < 60 → zt_ok ro (y i) (1, (-9223372036854775808), 9223372036854775807) := zs_arr (cA1.symm.trans dA) hA
  obtain ⟨-, xB, dB, hB⟩ := zh_arr hh rB (show RTg[15]? = some (1, 0, 60, [(0, (-2147483648), 2147483647)]) from rfl)
  have hyB : ∀ i, i < 60 → zt_ok ro (w i) (0, (-2147483648), 2147483647) := zs_arr (cB1.symm.trans dB) hB
  have hol := ofsL_len (e := ze) (r := rr) hwN hwC
  have hnn0 : nn.toInt = rr.1 := hnn
  have fr1 : ∀ p9 : Nat, p9 ∉ [ru, fo] → s.heap[p9]? = s.heap[p9]? := fun _ _ => rfl
  refine ff_iconst hx hb (eX10_collect (0, .iconst 0, 1) (List.mem_of_getElem? (i := 0) rfl)) (by decide) (by decide) (fun v1 e1 => ?_)
  refine lv_istore hx hb (eX10_collect (1, .istore 5, 2) (List.mem_of_getElem? (i := 1) rfl)) hl (by decide) rfl (fun ls2 hl2 => ?_)
  refine ff_iconst hx hb (eX10_collect (3, .iconst (-1), 1) (List.mem_of_getElem? (i := 2) rfl)) (by decide) (by decide) (fun v3 e3 => ?_)
  refine lv_istore hx hb (eX10_collect (4, .istore 6, 2) (List.mem_of_getElem? (i := 3) rfl)) hl2 (by decide) rfl (fun ls4 hl4 => ?_)
  have loop : ∀ (n9 k0 : Nat) (iv sv : Int32) (A1 : List Int) (zf : Nat → Value) (ls : Array Slot) (H : Heap) (lo0 : List Loc), k0 + n9 = (ofsL ze rr).length → iv.toInt = (k0 : Int) - 1 → A1 = ((ofsL ze rr).take k0).foldl (clS L ze rr m0.toInt s0.toInt) [] → zh_ok D cA RTg ro sz H0 H lo0 → zc_kept D RTg ro kF s.heap H → jZR D cA ro H zq zA zB ze lp L ru rF rT rr → (∀ p9 : Nat, p9 ∉ [ru, fo] → H[p9]? = s.heap[p9]?) → H[fo]? = some (arrV (cA 1) 63 zf) → jN A1 zf → sv.toInt = (A1.length : Int) → A1.length ≤ k0 → lv_has ls 12 [(6, .int iv), (5, .int sv), (0, .ref zq), (1, .long m0), (3, .int s0), (4, .ref fo)] → W p l e (headSpec (gW yX10_collect cX10_collect 12 (some .int)) { frames := 4, cells := 0, slots := 0, locals := 97 }).room s m ([.ref zq, .long m0, .int s0, .ref fo] : List Value).toArray below meth c H lo0 0 0 (MQ below (fun _ st oc t => ∃ r : Int32, oc = .returned (some (.int r)) ∧ r.toInt = ((clF L ze rr m0.toInt s0.toInt).length : Int) ∧ zh_ok D cA RTg ro sz H0 t.heap [] ∧ zc_kept D RTg ro kF st.heap t.heap ∧ jZR D cA ro t.heap zq zA zB ze lp L ru rF rT rr ∧ (∃ z9 : Nat → Value, t.heap[fo]? = some (arrV (cA 1) 63 z9) ∧ jN (clF L ze rr m0.toInt s0.toInt) z9) ∧ ∀ p9 : Nat, p9 ∉ [ru, fo] → t.heap[p9]? = st.heap[p9]?) ([.ref zq, .long m0, .int s0, .ref fo] : List Value).toArray s 0 0 (zy_fr sz)) (F0 m 6 ls []) := by
    intro n9
    induction n9 with
    | zero =>
      intro k0 iv sv A1 zf ls H lo0 hk hiv hA1 hh0 kpl jzl frl cfl hjn hsv hAk hl
      obtain ⟨⟨-, -, -, -, -, -, nl, -, -, fl4, hnl, -⟩, fl1, -, -, fl5, hrol⟩ := id jzl
      obtain ⟨-, -, -, ⟨-, -, nnl, -, -, ul0, -, -, hnnl, -⟩, -, -⟩ := id hrol
      refine lv_iload hx hb (eX10_collect (6, .iload 6, 2) (List.mem_of_getElem? (i := 4) rfl)) (lv_at hl 0 rfl) ?_
      refine lv_aload_n hx hb (eX10_collect (8, .aload_n 0, 1) (List.mem_of_getElem? (i := 5) rfl)) rfl (lv_at hl 2 rfl) ?_
      refine tz_get (r := 9) (k := 4) (t := (0, 0, 60)) hx hb hh0 hq9 rfl rfl (hcl9 19 4 (0, 0, 60) (by decide) rfl).1 fl4 (eX10_collect (9, .getfield 19, 3) (List.mem_of_getElem? (i := 6) rfl)) ?_
      refine lv_aload_n hx hb (eX10_collect (12, .aload_n 0, 1) (List.mem_of_getElem? (i := 7) rfl)) rfl (lv_at hl 2 rfl) ?_
      refine tz_get (r := 9) (k := 5) (t := (14, 0, 0)) hx hb hh0 hq9 rfl rfl (hcl9 26 5 (14, 0, 0) (by decide) rfl).1 fl5 (eX10_collect (13, .getfield 26, 3) (List.mem_of_getElem? (i := 8) rfl)) ?_
      refine tz_get (r := 5) (k := 0) (t := (0, (-2147483648), 2147483647)) hx hb hh0 hru rfl rfl (hcl5 37 0 (0, (-2147483648), 2147483647) (by decide) rfl).1 ul0 (eX10_collect (16, .getfield 37, 3) (List.mem_of_getElem? (i := 9) rfl)) ?_
      refine ff_iadd hx hb (eX10_collect (19, .iadd, 1) (List.mem_of_getElem? (i := 10) rfl)) (by omega) (by omega) (fun v5 e5 => ?_)
      refine ff_icmp_ge hx hb (eX10_collect (20, .if_icmp .ge 82, 3) (List.mem_of_getElem? (i := 11) rfl)) (tgt := 102) rfl (fun c6 => ?_) (fun c6 => (by exfalso; omega))
      refine lv_iload hx hb (eX10_collect (102, .iload 5, 2) (List.mem_of_getElem? (i := 49) rfl)) (lv_at hl 1 rfl) ?_
      have hfn : A1 = clF L ze rr m0.toInt s0.toInt := by rw [hA1, List.take_of_length_le (by omega)]; rfl
      exact W.zret hx hb hr rfl (fun t ht hW => ⟨_, rfl, by rw [← hfn]; exact hsv, by rw [ht]; exact hh0.l0, by rw [ht]; exact kpl, by rw [ht]; exact jzl, ⟨zf, by rw [ht]; exact cfl, by rw [← hfn]; exact hjn⟩, by rw [ht]; exact frl⟩) hh0.2.2.1 (eX10_collect (104, .ireturn, 1) (List.mem_of_getElem? (i := 50) rfl))
    | succ n9 ih =>
      intro k0 iv sv A1 zf ls H lo0 hk hiv hA1 hh0 kpl jzl frl cfl hjn hsv hAk hl
      obtain ⟨⟨-, -, -, -, -, -, nl, -, -, fl4, hnl, -⟩, fl1, -, -, fl5, hrol⟩ := id jzl
      obtain ⟨-, -, -, ⟨-, -, nnl, -, -, ul0, -, -, hnnl, -⟩, -, -⟩ := id hrol
      refine lv_iload hx hb (eX10_collect (6, .iload 6, 2) (List.mem_of_getElem? (i := 4) rfl)) (lv_at hl 0 rfl) ?_
      refine lv_aload_n hx hb (eX10_collect (8, .aload_n 0, 1) (List.mem_of_getElem? (i := 5) rfl)) rfl (lv_at hl 2 rfl) ?_
      refine tz_get (r := 9) (k := 4) (t := (0, 0, 60)) hx hb hh0 hq9 rfl rfl (hcl9 19 4 (0, 0, 60) (by decide) rfl).1 fl4 (eX10_collect (9, .getfield 19, 3) (List.mem_of_getElem? (i := 6) rfl)) ?_
      refine lv_aload_n hx hb (eX10_collect (12, .aload_n 0, 1) (List.mem_of_getElem? (i := 7) rfl)) rfl (lv_at hl 2 rfl) ?_
      refine tz_get (r := 9) (k := 5) (t := (14, 0, 0)) hx hb hh0 hq9 rfl rfl (hcl9 26 5 (14, 0, 0) (by decide) rfl).1 fl5 (eX10_collect (13, .getfield 26, 3) (List.mem_of_getElem? (i := 8) rfl)) ?_
      refine tz_get (r := 5) (k := 0) (t := (0, (-2147483648), 2147483647)) hx hb hh0 hru rfl rfl (hcl5 37 0 (0, (-2147483648), 2147483647) (by decide) rfl).1 ul0 (eX10_collect (16, .getfield 37, 3) (List.mem_of_getElem? (i := 9) rfl)) ?_
      refine ff_iadd hx hb (eX10_collect (19, .iadd, 1) (List.mem_of_getElem? (i := 10) rfl)) (by omega) (by omega) (fun v7 e7 => ?_)
      refine ff_icmp_ge hx hb (eX10_collect (20, .if_icmp .ge 82, 3) (List.mem_of_getElem? (i := 11) rfl)) (tgt := 102) rfl (fun c8 => (by exfalso; omega)) (fun c8 => ?_)
      refine lv_aload_n hx hb (eX10_collect (23, .aload_n 0, 1) (List.mem_of_getElem? (i := 12) rfl)) rfl (lv_at hl 2 rfl) ?_
      refine lv_iload hx hb (eX10_collect (24, .iload 6, 2) (List.mem_of_getElem? (i := 13) rfl)) (lv_at hl 0 rfl) ?_
      refine tz_rowV (As := [.int iv]) (st := []) (b := zq) (C := RX10) (Ts := gT) hx hb hml hown h2 (fun _ h => h) (hX10_offsetToTry l D cA ro sz H0 zq iv zA zB ze lp L ru rF rT rr hq9 (by omega) (by omega)) ⟨rfl, rfl⟩ ⟨by decide, by decide⟩ ⟨by decide, by decide⟩ (tb_4 160 rfl rfl) (tb_1 20 rfl rfl) (tb_4 157 rfl rfl) (tb_4 158 rfl rfl) (tb_4 159 rfl rfl) (show yX10_offsetToTry.cls ≠ "java/lang/invoke/MethodHandle" ∧ yX10_offsetToTry.cls ≠ "java/lang/invoke/VarHandle" ∧ (parseMethodDescriptor yX10_offsetToTry.desc).map (fun d => d.parameters.length) = some 1 by decide +kernel) zs_blind (zs_ob hh0 hq9 (show RTg[9]? = some (0, 9, 0, fsX10) from rfl) (zCX10 hKn.1)) (fun U hU hW => ⟨rfl, by rw [hU]; exact hh0.l0, zKb s U hW.alike hKn, by rw [hU]; exact jzl⟩) hh0.2.2.1 hl.1 (Nat.le_of_ble_eq_true rfl) (eX10_collect (26, .invokevirtual 58, 3) (List.mem_of_getElem? (i := 14) rfl)) (fun r9 s9 t9 lo9 g9 f9 l9 => ?_)
      obtain ⟨z9, v9, q9, e9⟩ := f9
      cases q9
      rw [z9, g9]
      have hh9 : zh_ok D cA RTg ro sz H0 H lo9 := ⟨hh0.1, hh0.2.1, l9, hh0.2.2.2⟩
      rw [show (iv.toInt + 1).toNat = k0 by omega] at e9
      have hob : -1439 ≤ v9.toInt ∧ v9.toInt ≤ 1439 := ofs_bd hw hoA hoB e9
      refine W.eq (g2 := F0 m 29 ls [.int v9]) rfl ?_
      refine lv_istore hx hb (eX10_collect (29, .istore 7, 2) (List.mem_of_getElem? (i := 15) rfl)) hl (by decide) rfl (fun ls10 hl10 => ?_)
      refine lv_lload_n hx hb (eX10_collect (31, .lload_n 1, 1) (List.mem_of_getElem? (i := 16) rfl)) rfl (lv_at hl10 4 rfl) ?_
      refine lv_iload hx hb (eX10_collect (32, .iload 7, 2) (List.mem_of_getElem? (i := 17) rfl)) (lv_at hl10 0 rfl) ?_
      refine ff_i2l hx hb (eX10_collect (34, .i2l, 1) (List.mem_of_getElem? (i := 18) rfl)) (fun v11 e11 => ?_)
      refine ff_lsub hx hb (eX10_collect (35, .lsub, 1) (List.mem_of_getElem? (i := 19) rfl)) (by omega) (by omega) (fun v12 e12 => ?_)
      refine lv_lstore hx hb (eX10_collect (36, .lstore 8, 2) (List.mem_of_getElem? (i := 20) rfl)) hl10 (by decide) rfl (fun ls13 hl13 => ?_)
      have huv : v12.toInt = m0.toInt - v9.toInt := by omega
      refine lv_lload hx hb (eX10_collect (38, .lload 8, 2) (List.mem_of_getElem? (i := 21) rfl)) (lv_at hl13 0 rfl) ?_
      refine zu_S (vs := [.long v12]) (rest := []) hx hb hml hown hts0 zu_BT (hX2_holdsMinute l v12) ⟨rfl, rfl⟩ ⟨by decide, by decide⟩ ⟨by decide, by decide⟩ (tb_3 108 rfl rfl) (tb_1 13 rfl rfl) (tb_4 161 rfl rfl) (tb_3 107 rfl rfl) (show yX2_holdsMinute.cls ≠ "java/lang/invoke/MethodHandle" ∧ yX2_holdsMinute.cls ≠ "java/lang/invoke/VarHandle" ∧ (parseMethodDescriptor yX2_holdsMinute.desc).map (fun d => d.parameters.length) = some 1 by decide +kernel) rfl (fun _ _ _ => trivial) hl13.1 (Nat.le_of_ble_eq_true rfl) (eX10_collect (40, .invokestatic 62, 3) (List.mem_of_getElem? (i := 22) rfl)) (fun w14 f14 => ?_)
      obtain ⟨v14, rfl, e14⟩ := f14
      refine ff_if_eq hx hb (eX10_collect (43, .ifCond .eq 53, 3) (List.mem_of_getElem? (i := 23) rfl)) (tgt := 96) rfl (fun c15 => ?_) (fun c15 => ?_)
      · have hno : ¬ (mIn (m0.toInt - v9.toInt) ∧ s0.toInt ≤ lsS L (m0.toInt - v9.toInt) ∧ ofF L ze rr (stI L (m0.toInt - v9.toInt) + s0.toInt) = v9.toInt) := fun g => by rcases e14 with h | h; exfalso; omega; exact h.2 (by rw [huv]; exact g.1)
        refine ff_iinc (k := 2) hx hb (eX10_collect (96, .iinc 6 1, 3) (List.mem_of_getElem? (i := 47) rfl)) hl13 rfl (by decide) (by decide) (by decide) (by omega) (by omega) (fun v16 e16 ls16 hl16 => ?_)
        refine lv_goto hx hb (eX10_collect (99, .goto (-93), 3) (List.mem_of_getElem? (i := 48) rfl)) (tgt := 6) rfl ?_
        have hcl : clS L ze rr m0.toInt s0.toInt A1 v9.toInt = A1 := by unfold clS; rw [if_neg (fun g => hno g)]
        exact ih (k0 + 1) v16 sv A1 zf ls16 _ _ (by omega) (by omega) (by rw [fold_take e9, ← hA1, hcl]) hh9 kpl jzl frl cfl hjn hsv (by omega) (lv_sub hl16 [0, 3, 4, 5, 6, 7] rfl)
      · have hmk : mOK v12.toInt := by rcases e14 with h | h; exact h.2; exfalso; omega
        have hmin : mIn (m0.toInt - v9.toInt) := by rw [← huv]; exact hmk
        clear e14
        refine lv_iload_n hx hb (eX10_collect (46, .iload_n 3, 1) (List.mem_of_getElem? (i := 24) rfl)) rfl (lv_at hl13 6 rfl) ?_
        refine lv_aload_n hx hb (eX10_collect (47, .aload_n 0, 1) (List.mem_of_getElem? (i := 25) rfl)) rfl (lv_at hl13 4 rfl) ?_
        refine tz_get (r := 9) (k := 1) (t := (12, 0, 0)) hx hb hh9 hq9 rfl rfl (hcl9 33 1 (12, 0, 0) (by decide) rfl).1 fl1 (eX10_collect (48, .getfield 33, 3) (List.mem_of_getElem? (i := 26) rfl)) ?_
        refine lv_lload hx hb (eX10_collect (51, .lload 8, 2) (List.mem_of_getElem? (i := 27) rfl)) (lv_at hl13 0 rfl) ?_
        refine tz_rowV (As := [.long v12]) (st := [.int s0]) (b := lp) (C := RX5) (Ts := gT) hx hb hml hown h2 (fun _ h => h) (hX5_lastSecondOf l D cA ro sz H0 lp v12 L rl4 (by unfold mOK at *; omega) (by unfold mOK at *; omega)) ⟨rfl, rfl⟩ ⟨by decide, by decide⟩ ⟨by decide, by decide⟩ (tb_3 114 rfl rfl) (tb_1 2 rfl rfl) (tb_4 162 rfl rfl) (tb_3 112 rfl rfl) (tb_3 113 rfl rfl) (show yX5_lastSecondOf.cls ≠ "java/lang/invoke/MethodHandle" ∧ yX5_lastSecondOf.cls ≠ "java/lang/invoke/VarHandle" ∧ (parseMethodDescriptor yX5_lastSecondOf.desc).map (fun d => d.parameters.length) = some 1 by decide +kernel) zs_blind (zs_ob hh9 rl4 (show RTg[4]? = some (0, 4, 0, fsX5) from rfl) (zCX5 hKn.1)) (fun U hU hW => ⟨rfl, by rw [hU]; exact hh9.l0, zKb s U hW.alike hKn, by rw [hU]; exact jzl.2.2.2.1⟩) hh9.2.2.1 hl13.1 (Nat.le_of_ble_eq_true rfl) (eX10_collect (53, .invokevirtual 67, 3) (List.mem_of_getElem? (i := 28) rfl)) (fun r17 s17 t17 lo17 g17 f17 l17 => ?_)
        obtain ⟨z17, v17, q17, e17⟩ := f17
        cases q17
        rw [z17, g17]
        have hh17 : zh_ok D cA RTg ro sz H0 H lo17 := ⟨hh9.1, hh9.2.1, l17, hh9.2.2.2⟩
        refine W.eq (g2 := F0 m 56 ls13 [.int v17, .int s0]) rfl ?_
        have hlS : v17.toInt = lsS L (m0.toInt - v9.toInt) := by unfold lsS; rw [← huv]; rcases e17 with ⟨h, h9⟩ | ⟨h, h9⟩; (rw [if_pos h9]; exact h); (rw [if_neg h9]; exact h)
        clear e17
        refine ff_icmp_le hx hb (eX10_collect (56, .if_icmp .le 6, 3) (List.mem_of_getElem? (i := 29) rfl)) (tgt := 62) rfl (fun c18 => ?_) (fun c18 => ?_)
        · have hsec : s0.toInt ≤ lsS L (m0.toInt - v9.toInt) := by omega
          refine lv_aload_n hx hb (eX10_collect (62, .aload_n 0, 1) (List.mem_of_getElem? (i := 31) rfl)) rfl (lv_at hl13 4 rfl) ?_
          refine tz_get (r := 9) (k := 1) (t := (12, 0, 0)) hx hb hh17 hq9 rfl rfl (hcl9 33 1 (12, 0, 0) (by decide) rfl).1 fl1 (eX10_collect (63, .getfield 33, 3) (List.mem_of_getElem? (i := 32) rfl)) ?_
          refine lv_lload hx hb (eX10_collect (66, .lload 8, 2) (List.mem_of_getElem? (i := 33) rfl)) (lv_at hl13 0 rfl) ?_
          refine lv_iload_n hx hb (eX10_collect (68, .iload_n 3, 1) (List.mem_of_getElem? (i := 34) rfl)) rfl (lv_at hl13 6 rfl) ?_
          refine tz_rowV (As := [.long v12, .int s0]) (st := []) (b := lp) (C := RX5) (Ts := gT) hx hb hml hown h2 (fun _ h => h) (hX5_instantOf l D cA ro sz H0 lp v12 s0 L rl4 (by unfold mOK at *; omega) (by unfold mOK at *; omega) (by omega) (by omega)) ⟨rfl, rfl⟩ ⟨by decide, by decide⟩ ⟨by decide, by decide⟩ (tb_3 123 rfl rfl) (tb_1 2 rfl rfl) (tb_4 163 rfl rfl) (tb_3 121 rfl rfl) (tb_3 122 rfl rfl) (show yX5_instantOf.cls ≠ "java/lang/invoke/MethodHandle" ∧ yX5_instantOf.cls ≠ "java/lang/invoke/VarHandle" ∧ (parseMethodDescriptor yX5_instantOf.desc).map (fun d => d.parameters.length) = some 2 by decide +kernel) zs_blind (zs_ob hh17 rl4 (show RTg[4]? = some (0, 4, 0, fsX5) from rfl) (zCX5 hKn.1)) (fun U hU hW => ⟨rfl, by rw [hU]; exact hh17.l0, zKb s U hW.alike hKn, by rw [hU]; exact jzl.2.2.2.1⟩) hh17.2.2.1 hl13.1 (Nat.le_of_ble_eq_true rfl) (eX10_collect (69, .invokevirtual 70, 3) (List.mem_of_getElem? (i := 35) rfl)) (fun r19 s19 t19 lo19 g19 f19 l19 => ?_)
          obtain ⟨z19, v19, q19, e19⟩ := f19
          cases q19
          rw [z19, g19]
          have hh19 : zh_ok D cA RTg ro sz H0 H lo19 := ⟨hh17.1, hh17.2.1, l19, hh17.2.2.2⟩
          have hib := lsI_b hjL (v12.toInt / 1440)
          have hie := e19
          unfold stI at hie
          have htb : -32000000000000 ≤ v19.toInt ∧ v19.toInt ≤ 32000000000000 := by unfold mOK at *; omega
          refine W.eq (g2 := F0 m 72 ls13 [.long v19]) rfl ?_
          refine lv_lstore hx hb (eX10_collect (72, .lstore 10, 2) (List.mem_of_getElem? (i := 36) rfl)) hl13 (by decide) rfl (fun ls20 hl20 => ?_)
          rw [huv] at e19
          refine lv_aload_n hx hb (eX10_collect (74, .aload_n 0, 1) (List.mem_of_getElem? (i := 37) rfl)) rfl (lv_at hl20 5 rfl) ?_
          refine lv_lload hx hb (eX10_collect (75, .lload 10, 2) (List.mem_of_getElem? (i := 38) rfl)) (lv_at hl20 0 rfl) ?_
          refine tz_rowV (As := [.long v19]) (st := []) (b := zq) (C := RX10) (Ts := gT) hx hb hml hown h2 (fun _ h => h) (hX10_offsetAt l D cA ro sz H0 zq v19 zA zB ze lp L ru rF rT rr hq9 hjL htb.1 htb.2) ⟨rfl, rfl⟩ ⟨by decide, by decide⟩ ⟨by decide, by decide⟩ (tb_4 113 rfl rfl) (tb_1 20 rfl rfl) (tb_4 164 rfl rfl) (tb_4 111 rfl rfl) (tb_4 112 rfl rfl) (show yX10_offsetAt.cls ≠ "java/lang/invoke/MethodHandle" ∧ yX10_offsetAt.cls ≠ "java/lang/invoke/VarHandle" ∧ (parseMethodDescriptor yX10_offsetAt.desc).map (fun d => d.parameters.length) = some 1 by decide +kernel) zs_blindB (zs_ob hh19 hq9 (show RTg[9]? = some (0, 9, 0, fsX10) from rfl) (zCX10 hKn.1)) (fun U hU hW => ⟨rfl, by rw [hU]; exact hh19.l0, ⟨zKb s U hW.alike hKn, hBQ.alike hW.alike⟩, by rw [hU]; exact jzl⟩) hh19.2.2.1 hl20.1 (Nat.le_of_ble_eq_true rfl) (eX10_collect (77, .invokevirtual 74, 3) (List.mem_of_getElem? (i := 39) rfl)) (fun r21 s21 t21 lo21 g21 f21 l21 => ?_)
          obtain ⟨v21, q21, e21, z21, c21, j21, fx21⟩ := f21
          cases q21
          rw [g21] at c21 fx21
          have fr21 : ∀ p9 : Nat, p9 ∉ [ru, fo] → t21.heap[p9]? = s.heap[p9]? := fun p9 h9 => (fx21 p9 (fun q => h9 (by rw [List.mem_singleton.mp q]; exact List.mem_cons_self))).trans (frl p9 h9)
          have hh21 : zh_ok D cA RTg ro sz H0 t21.heap lo21 := ⟨z21.1, z21.2.1, l21, z21.2.2.2⟩
          have kp21 := kpl.trans (c21.mono (ms' := kF) (by decide))
          have hcf21 := (fx21 fo (l_n1 (ro_ne rfo hru (by decide)))).trans cfl
          refine W.eq (g2 := F0 m 80 ls20 [.int v21]) rfl ?_
          refine lv_iload hx hb (eX10_collect (80, .iload 7, 2) (List.mem_of_getElem? (i := 40) rfl)) (lv_at hl20 2 rfl) ?_
          rw [e19] at e21
          refine ff_icmp_ne hx hb (eX10_collect (82, .if_icmp .ne 14, 3) (List.mem_of_getElem? (i := 41) rfl)) (tgt := 96) rfl (fun c22 => ?_) (fun c22 => ?_)
          · have hno : ¬ (mIn (m0.toInt - v9.toInt) ∧ s0.toInt ≤ lsS L (m0.toInt - v9.toInt) ∧ ofF L ze rr (stI L (m0.toInt - v9.toInt) + s0.toInt) = v9.toInt) := fun g => by have g2 := g.2.2; omega
            refine ff_iinc (k := 3) hx hb (eX10_collect (96, .iinc 6 1, 3) (List.mem_of_getElem? (i := 47) rfl)) hl20 rfl (by decide) (by decide) (by decide) (by omega) (by omega) (fun v23 e23 ls23 hl23 => ?_)
            refine lv_goto hx hb (eX10_collect (99, .goto (-93), 3) (List.mem_of_getElem? (i := 48) rfl)) (tgt := 6) rfl ?_
            have hcl : clS L ze rr m0.toInt s0.toInt A1 v9.toInt = A1 := by unfold clS; rw [if_neg (fun g => hno g)]
            exact ih (k0 + 1) v23 sv A1 zf ls23 _ _ (by omega) (by omega) (by rw [fold_take e9, ← hA1, hcl]) hh21 kp21 j21 fr21 hcf21 hjn hsv (by omega) (lv_sub hl23 [0, 4, 5, 6, 7, 8] rfl)
          · have hof : ofF L ze rr (stI L (m0.toInt - v9.toInt) + s0.toInt) = v9.toInt := by omega
            refine lv_lload hx hb (eX10_collect (85, .lload 10, 2) (List.mem_of_getElem? (i := 42) rfl)) (lv_at hl20 0 rfl) ?_
            refine lv_aload hx hb (eX10_collect (87, .aload 4, 2) (List.mem_of_getElem? (i := 43) rfl)) (lv_at hl20 8 rfl) ?_
            refine lv_iload hx hb (eX10_collect (89, .iload 5, 2) (List.mem_of_getElem? (i := 44) rfl)) (lv_at hl20 4 rfl) ?_
            refine tz_rowS (As := [.long v19, .ref fo, .int sv]) (st := []) (Ts := gT) hx hb hml hown h2 (fun _ h => h) (hX10_insert l D cA ro sz H0 v19 fo sv A1 zf rfo hsv (by omega)) ⟨rfl, rfl⟩ ⟨by decide, by decide⟩ ⟨by decide, by decide⟩ (tb_4 167 rfl rfl) (tb_1 20 rfl rfl) (tb_4 165 rfl rfl) (tb_4 166 rfl rfl) (show yX10_insert.cls ≠ "java/lang/invoke/MethodHandle" ∧ yX10_insert.cls ≠ "java/lang/invoke/VarHandle" ∧ (parseMethodDescriptor yX10_insert.desc).map (fun d => d.parameters.length) = some 3 by decide +kernel) zs_blind (fun U hU hW => ⟨rfl, by rw [hU]; exact hh21.l0, zKb s U hW.alike hKn, by rw [hU]; exact ⟨hcf21, hjn⟩⟩) hh21.2.2.1 hl20.1 (Nat.le_of_ble_eq_true rfl) (eX10_collect (91, .invokestatic 75, 3) (List.mem_of_getElem? (i := 45) rfl)) (fun r24 s24 t24 lo24 g24 f24 l24 => ?_)
            obtain ⟨v24, q24, e24, z24, c24, ⟨zf24, cf24, jn24⟩, fx24⟩ := f24
            cases q24
            rw [g24] at c24 fx24
            have fr24 : ∀ p9 : Nat, p9 ∉ [ru, fo] → t24.heap[p9]? = s.heap[p9]? := fun p9 h9 => (fx24 p9 (fun q => h9 (by rw [List.mem_singleton.mp q]; exact (List.mem_cons_of_mem _ List.mem_cons_self)))).trans (fr21 p9 h9)
            have hh24 : zh_ok D cA RTg ro sz H0 t24.heap lo24 := ⟨z24.1, z24.2.1, l24, z24.2.2.2⟩
            have kp24 := kp21.trans (c24.mono (ms' := kF) (by decide))
            have jz24 := j21.kept c24 (by decide)
            rw [e19] at e24 jn24
            refine W.eq (g2 := F0 m 94 ls20 [.int v24]) rfl ?_
            refine lv_istore hx hb (eX10_collect (94, .istore 5, 2) (List.mem_of_getElem? (i := 46) rfl)) hl20 (by decide) rfl (fun ls25 hl25 => ?_)
            refine ff_iinc (k := 4) hx hb (eX10_collect (96, .iinc 6 1, 3) (List.mem_of_getElem? (i := 47) rfl)) hl25 rfl (by decide) (by decide) (by decide) (by omega) (by omega) (fun v26 e26 ls26 hl26 => ?_)
            refine lv_goto hx hb (eX10_collect (99, .goto (-93), 3) (List.mem_of_getElem? (i := 48) rfl)) (tgt := 6) rfl ?_
            have hcl : clS L ze rr m0.toInt s0.toInt A1 v9.toInt = insF (stI L (m0.toInt - v9.toInt) + s0.toInt) A1 := by unfold clS; rw [if_pos ⟨hmin, hsec, hof⟩]
            have hle9 := insF_len (stI L (m0.toInt - v9.toInt) + s0.toInt) A1
            exact ih (k0 + 1) v26 v24 _ zf24 ls26 _ _ (by omega) (by omega) (by rw [fold_take e9, ← hA1, hcl]) hh24 kp24 jz24 fr24 cf24 jn24 (by omega) (by omega) (lv_sub hl26 [0, 1, 5, 6, 7, 8] rfl)
        · have hno : ¬ (mIn (m0.toInt - v9.toInt) ∧ s0.toInt ≤ lsS L (m0.toInt - v9.toInt) ∧ ofF L ze rr (stI L (m0.toInt - v9.toInt) + s0.toInt) = v9.toInt) := fun g => by have g2 := g.2.1; omega
          refine lv_goto hx hb (eX10_collect (59, .goto 37, 3) (List.mem_of_getElem? (i := 30) rfl)) (tgt := 96) rfl ?_
          refine ff_iinc (k := 2) hx hb (eX10_collect (96, .iinc 6 1, 3) (List.mem_of_getElem? (i := 47) rfl)) hl13 rfl (by decide) (by decide) (by decide) (by omega) (by omega) (fun v27 e27 ls27 hl27 => ?_)
          refine lv_goto hx hb (eX10_collect (99, .goto (-93), 3) (List.mem_of_getElem? (i := 48) rfl)) (tgt := 6) rfl ?_
          have hcl : clS L ze rr m0.toInt s0.toInt A1 v9.toInt = A1 := by unfold clS; rw [if_neg (fun g => hno g)]
          exact ih (k0 + 1) v27 sv A1 zf ls27 _ _ (by omega) (by omega) (by rw [fold_take e9, ← hA1, hcl]) hh17 kpl jzl frl cfl hjn hsv (by omega) (lv_sub hl27 [0, 3, 4, 5, 6, 7] rfl)
  exact loop (ofsL ze rr).length 0 v3 v1 [] zf0 ls4 _ _ (by omega) (by omega) rfl hh kp0 hJ fr1 cf0 (fun i hi => absurd hi (Nat.not_lt_zero _)) (by show _ = ((0 : Nat) : Int); omega) (Nat.le_refl _) (lv_sub hl4 [0, 1, 2, 3, 4, 5] rfl)
