def nB : Nat → Int
  | 0 => 0
  | k + 1 => nB k * 10 + 9
theorem nB_8 : ∀ k, k < 9 → nB k ≤ 99999999 := by decide
theorem nB_9 : ∀ k, k < 10 → nB k ≤ 999999999 := by decide
/-- the number stays below its digits -/
theorem nbF_hi {T : List Int} {ld : Int} (n : Nat) : ∀ {i v : Int} {s : uS} {k : Nat}, 0 ≤ v → v ≤ nB k → 0 ≤ (nbF T ld n i v s).1 ∧ (nbF T ld n i v s).1 ≤ nB (k + n) := by
  induction n with
  | zero => intro i v s k h0 h; exact ⟨h0, h⟩
  | succ n ih =>
    intro i v s k h0 h
    show 0 ≤ (if _ then _ else _ : Int × uS).1 ∧ (if _ then _ else _ : Int × uS).1 ≤ nB (k + (n + 1))
    by_cases g : dgF T s < 0
    · rw [if_pos g]
      have key : ∀ m : Nat, nB k ≤ nB (k + m) := by
        intro m
        induction m with
        | zero => exact Int.le_refl _
        | succ m im =>
          have hn : ∀ j : Nat, 0 ≤ nB j := by
            intro j
            induction j with
            | zero => exact Int.le_refl _
            | succ j ij => show 0 ≤ nB j * 10 + 9; omega
          have h1 := hn (k + m)
          show nB k ≤ nB (k + m) * 10 + 9
          omega
      have := key (n + 1)
      exact ⟨h0, by dsimp only; omega⟩
    · rw [if_neg g]
      have hd : isD (lk T s) := dgF_iff.mp (by omega)
      have e := dgF_ge hd
      unfold isD at hd
      have := ih (i := i + 1) (v := v * 10 + dgF T s) (s := (s.1 + 1, s.2)) (k := k + 1) (by omega) (by show _ ≤ nB k * 10 + 9; omega)
      rw [show k + (n + 1) = k + 1 + n by omega]
      exact this
set_option maxRecDepth 100000 in
set_option maxHeartbeats 4000000 in
theorem hX0_numberW (l : Launch) (D : va_G) (cA : Nat → ClassId) (ro : Nat → Option Nat) (sz : Nat) (H0 : Heap) (tx : Nat) (ld : Int32) (md : Int32) (k0 : Int) (m0 : Nat) (T : List Int) (sg : uS) (htx : ro tx = some 0) (hk0 : ld.toInt = k0) (hm0 : md.toInt = (m0 : Int)) (hm9 : m0 ≤ 9) : Met l yX0_number (gW yX0_number cX0_number 6 (some .int)) { frames := 1, cells := 0, slots := 0, locals := 21 } (zs_P D cA ro sz H0 (fun H => jU D cA ro H tx T sg) [.ref tx, .int ld, .int md]) (ku_Q D cA ro sz H0 uM [tx] tx T (nbF T k0 m0 0 0 sg)) 0 0 (zy_fr sz) := by
  refine zy_ofW (cc := cX0_number) (maxL := 6) (ret := (some .int)) (by decide +kernel) rfl ?_
  intro p e s m args below meth c s1 B hml hv
  obtain ⟨rfl, hh, hKn, hJ⟩ := hv
  have hx := B.exec
  have hb := B.bytes
  have hr := B.returns
  have hlk := B.notSynchronized
  have hts0 := atoms_spec (ws := gW yX0_number cX0_number 6 (some .int)) B.pre
  have h2 : ∀ w ∈ gT, w.before ([.ref tx, .int ld, .int md] : List Value).toArray s = true := fun w hw => hts0 w (List.mem_cons_of_mem _ hw)
  have hown : s.vm.findClass RX0 = some m.cls := findClass_of_methodNamed B.named
  have hl := lv_entry [.ref tx, .int ld, .int md] (n := 6) (Nat.le_of_ble_eq_true rfl)
  rw [lg_entry_eq]
  generalize (lg_sl [.ref tx, .int ld, .int md] ++ List.replicate (6 - (lg_sl [.ref tx, .int ld, .int md]).length) Slot.unset).toArray = ls at hl ⊢
  have b_ld := zn_i32 ld
  have b_md := zn_i32 md
  have hD := zD_all h2 hKn.1
  have hcl0 := fun (idx k : Nat) (t : zt_T) (h : (idx, 0, k) ∈ gfX0) (hk : fsX0[k]? = some t) => zf_clause (ro := ro) (ms := uM) h2 hown hKn.1 gfX0_ok (by decide +kernel) idx 0 k 0 0 fsX0 t h rfl hk
  have kp0 : zc_kept D RTg ro uM s.heap s.heap := zc_kept.refl
  obtain ⟨hjt, ⟨av, bv, wv, f2, f3, f4, hav, hbv, hwv⟩, hu⟩ := id hJ
  obtain ⟨tb, n, z, f0, r0, f1, hn, hc, hz⟩ := id hjt
  obtain ⟨n9, g9, n1, n2⟩ := zh_fT (k := 1) (t := (0, 0, 120)) hh htx (show RTg[0]? = some (0, 0, 0, fsX0) from rfl) rfl
  cases f1.symm.trans g9
  dsimp only at n1 n2
  clear g9
  obtain ⟨-, z9, c9, hy9⟩ := zh_arr hh r0 (show RTg[12]? = some (1, 2, 120, [(0, (-128), 127)]) from rfl)
  have hy : ∀ i, i < 120 → zt_ok ro (z i) (0, (-128), 127) := zs_arr (hc.symm.trans c9) hy9
  obtain ⟨u1, u2, u3⟩ := id hu
  have fr0 : ∀ p9 : Nat, p9 ∉ [tx] → s.heap[p9]? = s.heap[p9]? := fun _ _ => rfl
  refine ff_iconst hx hb (eX0_number (0, .iconst 0, 1) (List.mem_of_getElem? (i := 0) rfl)) (by decide) (by decide) (fun v1 e1 => ?_)
  refine lv_istore_n hx hb (eX0_number (1, .istore_n 3, 1) (List.mem_of_getElem? (i := 1) rfl)) rfl hl (by decide) rfl (fun ls2 hl2 => ?_)
  refine ff_iconst hx hb (eX0_number (2, .iconst 0, 1) (List.mem_of_getElem? (i := 2) rfl)) (by decide) (by decide) (fun v3 e3 => ?_)
  refine lv_istore hx hb (eX0_number (3, .istore 4, 2) (List.mem_of_getElem? (i := 3) rfl)) hl2 (by decide) rfl (fun ls4 hl4 => ?_)
  have loop : ∀ (n0 i : Nat) (iv vv : Int32) (g : uS) (ls : Array Slot) (H : Heap) (lo0 : List Loc), i + n0 = m0 → iv.toInt = (i : Int) → (0 ≤ vv.toInt ∧ vv.toInt ≤ nB i) → nbF T k0 n0 (i : Int) vv.toInt g = nbF T k0 m0 0 0 sg → zh_ok D cA RTg ro sz H0 H lo0 → zc_kept D RTg ro uM s.heap H → jU D cA ro H tx T g → (∀ p9 : Nat, p9 ∉ [tx] → H[p9]? = s.heap[p9]?) → lv_has ls 6 [(3, .int vv), (4, .int iv), (0, .ref tx), (1, .int ld), (2, .int md)] → W p l e (headSpec (gW yX0_number cX0_number 6 (some .int)) { frames := 1, cells := 0, slots := 0, locals := 21 }).room s m ([.ref tx, .int ld, .int md] : List Value).toArray below meth c H lo0 0 0 (MQ below (ku_Q D cA ro sz H0 uM [tx] tx T (nbF T k0 m0 0 0 sg)) ([.ref tx, .int ld, .int md] : List Value).toArray s 0 0 (zy_fr sz)) (F0 m 5 ls []) := by
    intro n0
    induction n0 with
    | zero =>
      intro i iv vv g ls H lo0 hi hiv hvv htot hh0 kpl jl frl hl
      have hul := jl.2.2
      unfold uOK at hul
      refine lv_iload hx hb (eX0_number (5, .iload 4, 2) (List.mem_of_getElem? (i := 4) rfl)) (lv_at hl 1 rfl) ?_
      refine lv_iload_n hx hb (eX0_number (7, .iload_n 2, 1) (List.mem_of_getElem? (i := 5) rfl)) rfl (lv_at hl 4 rfl) ?_
      refine ff_icmp_ge hx hb (eX0_number (8, .if_icmp .ge 62, 3) (List.mem_of_getElem? (i := 6) rfl)) (tgt := 70) rfl (fun c5 => ?_) (fun c5 => (by exfalso; omega))
      refine lv_iload_n hx hb (eX0_number (70, .iload_n 3, 1) (List.mem_of_getElem? (i := 39) rfl)) rfl (lv_at hl 0 rfl) ?_
      have hfin : nbF T k0 m0 0 0 sg = (vv.toInt, g) := by rw [← htot] <;> rfl
      exact W.zret hx hb hr rfl (fun t ht hW => ⟨_, rfl, by rw [hfin] <;> exact rfl, by rw [ht]; exact hh0.l0, by rw [ht]; exact kpl, by rw [ht, hfin]; exact jl, by rw [ht]; exact frl⟩) hh0.2.2.1 (eX0_number (71, .ireturn, 1) (List.mem_of_getElem? (i := 40) rfl))
    | succ n0 ih =>
      intro i iv vv g ls H lo0 hi hiv hvv htot hh0 kpl jl frl hl
      have hul := jl.2.2
      unfold uOK at hul
      have hB8 := nB_8 i (by omega)
      refine lv_iload hx hb (eX0_number (5, .iload 4, 2) (List.mem_of_getElem? (i := 4) rfl)) (lv_at hl 1 rfl) ?_
      refine lv_iload_n hx hb (eX0_number (7, .iload_n 2, 1) (List.mem_of_getElem? (i := 5) rfl)) rfl (lv_at hl 4 rfl) ?_
      refine ff_icmp_ge hx hb (eX0_number (8, .if_icmp .ge 62, 3) (List.mem_of_getElem? (i := 6) rfl)) (tgt := 70) rfl (fun c6 => (by exfalso; omega)) (fun c6 => ?_)
      refine lv_aload_n hx hb (eX0_number (11, .aload_n 0, 1) (List.mem_of_getElem? (i := 7) rfl)) rfl (lv_at hl 2 rfl) ?_
      refine tz_rowV (As := []) (st := []) (b := tx) (C := RX0) (Ts := gT) hx hb hml hown h2 (fun _ h => h) (hX0_digit l D cA ro sz H0 tx T (g) htx) ⟨rfl, rfl⟩ ⟨by decide, by decide⟩ ⟨by decide, by decide⟩ (tb_4 28 rfl rfl) (tb_1 5 rfl rfl) (tb_4 25 rfl rfl) (tb_4 26 rfl rfl) (tb_4 27 rfl rfl) (show yX0_digit.cls ≠ "java/lang/invoke/MethodHandle" ∧ yX0_digit.cls ≠ "java/lang/invoke/VarHandle" ∧ (parseMethodDescriptor yX0_digit.desc).map (fun d => d.parameters.length) = some 0 by decide +kernel) zs_blind (zs_ob hh0 htx (show RTg[0]? = some (0, 0, 0, fsX0) from rfl) (zCX0 hKn.1)) (fun U hU hW => ⟨rfl, by rw [hU]; exact hh0.l0, zKb s U hW.alike hKn, by rw [hU]; exact jl⟩) hh0.2.2.1 hl.1 (Nat.le_of_ble_eq_true rfl) (eX0_number (12, .invokevirtual 33, 3) (List.mem_of_getElem? (i := 8) rfl)) (fun r7 s7 t7 lo7 g7 f7 l7 => ?_)
      obtain ⟨z7, v7, q7, e7⟩ := f7
      cases q7
      rw [z7, g7]
      have hh7 : zh_ok D cA RTg ro sz H0 H lo7 := ⟨hh0.1, hh0.2.1, l7, hh0.2.2.2⟩
      refine W.eq (g2 := F0 m 15 ls [.int v7]) rfl ?_
      refine lv_istore hx hb (eX0_number (15, .istore 5, 2) (List.mem_of_getElem? (i := 9) rfl)) hl (by decide) rfl (fun ls8 hl8 => ?_)
      refine lv_iload hx hb (eX0_number (17, .iload 5, 2) (List.mem_of_getElem? (i := 10) rfl)) (lv_at hl8 0 rfl) ?_
      refine ff_if_ge hx hb (eX0_number (19, .ifCond .ge 27, 3) (List.mem_of_getElem? (i := 11) rfl)) (tgt := 46) rfl (fun c9 => ?_) (fun c9 => ?_)
      · skip
        have hat := dgF_at jl.2.2 (show 0 ≤ dgF T g by omega)
        refine lv_iload_n hx hb (eX0_number (46, .iload_n 3, 1) (List.mem_of_getElem? (i := 25) rfl)) rfl (lv_at hl8 1 rfl) ?_
        refine ff_bipush hx hb (eX0_number (47, .bipush 10, 2) (List.mem_of_getElem? (i := 26) rfl)) (by decide) (by decide) (fun v10 e10 => ?_)
        refine ff_imulR hx hb (eX0_number (49, .imul, 1) (List.mem_of_getElem? (i := 27) rfl)) (e10) (by omega) (by omega) (fun v11 e11 => ?_)
        refine lv_iload hx hb (eX0_number (50, .iload 5, 2) (List.mem_of_getElem? (i := 28) rfl)) (lv_at hl8 0 rfl) ?_
        refine ff_iadd hx hb (eX0_number (52, .iadd, 1) (List.mem_of_getElem? (i := 29) rfl)) (by omega) (by omega) (fun v12 e12 => ?_)
        refine lv_istore_n hx hb (eX0_number (53, .istore_n 3, 1) (List.mem_of_getElem? (i := 30) rfl)) rfl hl8 (by decide) rfl (fun ls13 hl13 => ?_)
        refine lv_aload_n hx hb (eX0_number (54, .aload_n 0, 1) (List.mem_of_getElem? (i := 31) rfl)) rfl (lv_at hl13 3 rfl) ?_
        refine lv_dup hx hb (eX0_number (55, .dup, 1) (List.mem_of_getElem? (i := 32) rfl)) rfl ?_
        obtain ⟨jt14, ⟨av14, bv14, wv14, f214, f314, f414, hav14, hbv14, hwv14⟩, hu14⟩ := id jl
        refine tz_get (r := 0) (k := 2) (t := (0, (-2147483648), 2147483647)) hx hb hh7 htx rfl rfl (hcl0 19 2 (0, (-2147483648), 2147483647) (by decide) rfl).1 f214 (eX0_number (56, .getfield 19, 3) (List.mem_of_getElem? (i := 33) rfl)) ?_
        refine ff_iconst hx hb (eX0_number (59, .iconst 1, 1) (List.mem_of_getElem? (i := 34) rfl)) (by decide) (by decide) (fun v15 e15 => ?_)
        refine ff_iadd hx hb (eX0_number (60, .iadd, 1) (List.mem_of_getElem? (i := 35) rfl)) (by omega) (by omega) (fun v16 e16 => ?_)
        refine tz_put (r := 0) (k := 2) (t := (0, (-2147483648), 2147483647)) hx hb hD hh7 htx rfl rfl ((hcl0 19 2 (0, (-2147483648), 2147483647) (by decide) rfl).2 (by decide)) (tz_i (zn_i32 _).1 (zn_i32 _).2) (eX0_number (61, .putfield 19, 3) (List.mem_of_getElem? (i := 36) rfl)) (fun H17 lo17 hh17 hf17 hk17 _ hq17 => ?_)
        have mf17_tx_3 := (hk17.1 tx 0 3 0 0 fsX0 htx rfl (by decide) (by decide)).trans f314
        have mf17_tx_4 := (hk17.1 tx 0 4 0 0 fsX0 htx rfl (by decide) (by decide)).trans f414
        have kp17 := kpl.trans (hk17.mono (ms' := uM) (fun x hx => by cases List.mem_singleton.mp hx; decide))
        have jm17 := (jl.1).kept htx hk17 (by decide) (by decide) (by decide)
        have fr17 : ∀ p9 : Nat, p9 ∉ [tx] → H17[p9]? = s.heap[p9]? := fun p9 h9 => (hq17 p9 (fun e9 => h9 (by rw [e9]; exact List.mem_cons_self))).trans (frl p9 h9)
        refine ff_iinc (k := 2) hx hb (eX0_number (64, .iinc 4 1, 3) (List.mem_of_getElem? (i := 37) rfl)) hl13 rfl (by decide) (by decide) (by decide) (by omega) (by omega) (fun v18 e18 ls18 hl18 => ?_)
        refine lv_goto hx hb (eX0_number (67, .goto (-62), 3) (List.mem_of_getElem? (i := 38) rfl)) (tgt := 5) rfl ?_
        exact ih (i + 1) v18 v12 (g.1 + 1, g.2) ls18 _ _ (by omega) (by omega) ⟨by omega, by show _ ≤ nB i * 10 + 9; omega⟩ (by rw [← htot]; show _ = (if _ then _ else _ : Int × uS); rw [if_neg (by omega), show v12.toInt = vv.toInt * 10 + dgF T g by omega] <;> rfl) hh17 kp17 ⟨jm17, ⟨_, _, _, hf17, mf17_tx_3, mf17_tx_4, by show _ = g.1 + 1; omega, by assumption, by assumption⟩, by unfold uOK; dsimp only; omega⟩ fr17 (lv_sub hl18 [1, 0, 3, 4, 5] rfl)
      · skip
        refine lv_aload_n hx hb (eX0_number (22, .aload_n 0, 1) (List.mem_of_getElem? (i := 12) rfl)) rfl (lv_at hl8 3 rfl) ?_
        refine lv_aload_n hx hb (eX0_number (23, .aload_n 0, 1) (List.mem_of_getElem? (i := 13) rfl)) rfl (lv_at hl8 3 rfl) ?_
        obtain ⟨jt19, ⟨av19, bv19, wv19, f219, f319, f419, hav19, hbv19, hwv19⟩, hu19⟩ := id jl
        refine tz_get (r := 0) (k := 3) (t := (0, 0, 1)) hx hb hh7 htx rfl rfl (hcl0 22 3 (0, 0, 1) (by decide) rfl).1 f319 (eX0_number (24, .getfield 22, 3) (List.mem_of_getElem? (i := 14) rfl)) ?_
        refine ff_if_ne hx hb (eX0_number (27, .ifCond .ne 9, 3) (List.mem_of_getElem? (i := 15) rfl)) (tgt := 36) rfl (fun c20 => ?_) (fun c20 => ?_)
        · skip
          refine ff_iconst hx hb (eX0_number (36, .iconst 1, 1) (List.mem_of_getElem? (i := 19) rfl)) (by decide) (by decide) (fun v21 e21 => ?_)
          refine lv_goto hx hb (eX0_number (37, .goto 4, 3) (List.mem_of_getElem? (i := 20) rfl)) (tgt := 41) rfl ?_
          refine tz_put (r := 0) (k := 3) (t := (0, 0, 1)) hx hb hD hh7 htx rfl rfl ((hcl0 22 3 (0, 0, 1) (by decide) rfl).2 (by decide)) (tz_i (by omega) (by omega)) (eX0_number (41, .putfield 22, 3) (List.mem_of_getElem? (i := 22) rfl)) (fun H22 lo22 hh22 hf22 hk22 _ hq22 => ?_)
          have mf22_tx_2 := (hk22.1 tx 0 2 0 0 fsX0 htx rfl (by decide) (by decide)).trans f219
          have mf22_tx_4 := (hk22.1 tx 0 4 0 0 fsX0 htx rfl (by decide) (by decide)).trans f419
          have kp22 := kpl.trans (hk22.mono (ms' := uM) (fun x hx => by cases List.mem_singleton.mp hx; decide))
          have jm22 := (jl.1).kept htx hk22 (by decide) (by decide) (by decide)
          have fr22 : ∀ p9 : Nat, p9 ∉ [tx] → H22[p9]? = s.heap[p9]? := fun p9 h9 => (hq22 p9 (fun e9 => h9 (by rw [e9]; exact List.mem_cons_self))).trans (frl p9 h9)
          refine lv_iload_n hx hb (eX0_number (44, .iload_n 3, 1) (List.mem_of_getElem? (i := 23) rfl)) rfl (lv_at hl8 1 rfl) ?_
          have hfin : nbF T k0 m0 0 0 sg = (vv.toInt, (g.1, 1, g.2.2)) := by rw [← htot]; show (if _ then _ else _ : Int × uS) = _; rw [if_pos (by omega), if_pos (by omega)]
          exact W.zret hx hb hr rfl (fun t ht hW => ⟨_, rfl, by rw [hfin] <;> rfl, by rw [ht]; exact hh22.l0, by rw [ht]; exact kp22, by rw [ht, hfin]; exact ⟨jm22, ⟨_, _, _, mf22_tx_2, hf22, mf22_tx_4, by assumption, by show _ = (1 : Int); omega, by assumption⟩, by unfold uOK; dsimp only; omega⟩, by rw [ht]; exact fr22⟩) hh22.2.2.1 (eX0_number (45, .ireturn, 1) (List.mem_of_getElem? (i := 24) rfl))
        · skip
          refine lv_iload hx hb (eX0_number (30, .iload 4, 2) (List.mem_of_getElem? (i := 16) rfl)) (lv_at hl8 2 rfl) ?_
          refine lv_iload_n hx hb (eX0_number (32, .iload_n 1, 1) (List.mem_of_getElem? (i := 17) rfl)) rfl (lv_at hl8 4 rfl) ?_
          refine ff_icmp_ge hx hb (eX0_number (33, .if_icmp .ge 7, 3) (List.mem_of_getElem? (i := 18) rfl)) (tgt := 40) rfl (fun c23 => ?_) (fun c23 => ?_)
          · skip
            refine ff_iconst hx hb (eX0_number (40, .iconst 0, 1) (List.mem_of_getElem? (i := 21) rfl)) (by decide) (by decide) (fun v24 e24 => ?_)
            refine tz_put (r := 0) (k := 3) (t := (0, 0, 1)) hx hb hD hh7 htx rfl rfl ((hcl0 22 3 (0, 0, 1) (by decide) rfl).2 (by decide)) (tz_i (by omega) (by omega)) (eX0_number (41, .putfield 22, 3) (List.mem_of_getElem? (i := 22) rfl)) (fun H25 lo25 hh25 hf25 hk25 _ hq25 => ?_)
            have mf25_tx_2 := (hk25.1 tx 0 2 0 0 fsX0 htx rfl (by decide) (by decide)).trans f219
            have mf25_tx_4 := (hk25.1 tx 0 4 0 0 fsX0 htx rfl (by decide) (by decide)).trans f419
            have kp25 := kpl.trans (hk25.mono (ms' := uM) (fun x hx => by cases List.mem_singleton.mp hx; decide))
            have jm25 := (jl.1).kept htx hk25 (by decide) (by decide) (by decide)
            have fr25 : ∀ p9 : Nat, p9 ∉ [tx] → H25[p9]? = s.heap[p9]? := fun p9 h9 => (hq25 p9 (fun e9 => h9 (by rw [e9]; exact List.mem_cons_self))).trans (frl p9 h9)
            refine lv_iload_n hx hb (eX0_number (44, .iload_n 3, 1) (List.mem_of_getElem? (i := 23) rfl)) rfl (lv_at hl8 1 rfl) ?_
            have hfin : nbF T k0 m0 0 0 sg = (vv.toInt, (g.1, 0, g.2.2)) := by rw [← htot]; show (if _ then _ else _ : Int × uS) = _; rw [if_pos (by omega), if_neg (by omega)]
            exact W.zret hx hb hr rfl (fun t ht hW => ⟨_, rfl, by rw [hfin] <;> rfl, by rw [ht]; exact hh25.l0, by rw [ht]; exact kp25, by rw [ht, hfin]; exact ⟨jm25, ⟨_, _, _, mf25_tx_2, hf25, mf25_tx_4, by assumption, by show _ = (0 : Int); omega, by assumption⟩, by unfold uOK; dsimp only; omega⟩, by rw [ht]; exact fr25⟩) hh25.2.2.1 (eX0_number (45, .ireturn, 1) (List.mem_of_getElem? (i := 24) rfl))
          · skip
            refine ff_iconst hx hb (eX0_number (36, .iconst 1, 1) (List.mem_of_getElem? (i := 19) rfl)) (by decide) (by decide) (fun v26 e26 => ?_)
            refine lv_goto hx hb (eX0_number (37, .goto 4, 3) (List.mem_of_getElem? (i := 20) rfl)) (tgt := 41) rfl ?_
            refine tz_put (r := 0) (k := 3) (t := (0, 0, 1)) hx hb hD hh7 htx rfl rfl ((hcl0 22 3 (0, 0, 1) (by decide) rfl).2 (by decide)) (tz_i (by omega) (by omega)) (eX0_number (41, .putfield 22, 3) (List.mem_of_getElem? (i := 22) rfl)) (fun H27 lo27 hh27 hf27 hk27 _ hq27 => ?_)
            have mf27_tx_2 := (hk27.1 tx 0 2 0 0 fsX0 htx rfl (by decide) (by decide)).trans f219
            have mf27_tx_4 := (hk27.1 tx 0 4 0 0 fsX0 htx rfl (by decide) (by decide)).trans f419
            have kp27 := kpl.trans (hk27.mono (ms' := uM) (fun x hx => by cases List.mem_singleton.mp hx; decide))
            have jm27 := (jl.1).kept htx hk27 (by decide) (by decide) (by decide)
            have fr27 : ∀ p9 : Nat, p9 ∉ [tx] → H27[p9]? = s.heap[p9]? := fun p9 h9 => (hq27 p9 (fun e9 => h9 (by rw [e9]; exact List.mem_cons_self))).trans (frl p9 h9)
            refine lv_iload_n hx hb (eX0_number (44, .iload_n 3, 1) (List.mem_of_getElem? (i := 23) rfl)) rfl (lv_at hl8 1 rfl) ?_
            have hfin : nbF T k0 m0 0 0 sg = (vv.toInt, (g.1, 1, g.2.2)) := by rw [← htot]; show (if _ then _ else _ : Int × uS) = _; rw [if_pos (by omega), if_pos (by omega)]
            exact W.zret hx hb hr rfl (fun t ht hW => ⟨_, rfl, by rw [hfin] <;> rfl, by rw [ht]; exact hh27.l0, by rw [ht]; exact kp27, by rw [ht, hfin]; exact ⟨jm27, ⟨_, _, _, mf27_tx_2, hf27, mf27_tx_4, by assumption, by show _ = (1 : Int); omega, by assumption⟩, by unfold uOK; dsimp only; omega⟩, by rw [ht]; exact fr27⟩) hh27.2.2.1 (eX0_number (45, .ireturn, 1) (List.mem_of_getElem? (i := 24) rfl))
  exact loop m0 0 v3 v1 sg ls4 _ _ (by omega) (by omega) ⟨by omega, by show _ ≤ (0 : Int); omega⟩ (by rw [show v1.toInt = 0 by omega] <;> rfl) hh kp0 hJ fr0 (lv_sub hl4 [1, 0, 2, 3, 4] rfl)
set_option maxRecDepth 100000 in
set_option maxHeartbeats 4000000 in
theorem hX0_part (l : Launch) (D : va_G) (cA : Nat → ClassId) (ro : Nat → Option Nat) (sz : Nat) (H0 : Heap) (tx : Nat)  (T : List Int) (sg : uS) (htx : ro tx = some 0)  : Met l yX0_part (gW yX0_part cX0_part 4 (some .int)) { frames := 2, cells := 0, slots := 0, locals := 41 } (zs_P D cA ro sz H0 (fun H => jU D cA ro H tx T sg) [.ref tx]) (ku_Q D cA ro sz H0 uM [tx] tx T (ptF T sg)) 0 0 (zy_fr sz) := by
  refine zy_ofW (cc := cX0_part) (maxL := 4) (ret := (some .int)) (by decide +kernel) rfl ?_
  intro p e s m args below meth c s1 B hml hv
  obtain ⟨rfl, hh, hKn, hJ⟩ := hv
  have hx := B.exec
  have hb := B.bytes
  have hr := B.returns
  have hlk := B.notSynchronized
  have hts0 := atoms_spec (ws := gW yX0_part cX0_part 4 (some .int)) B.pre
  have h2 : ∀ w ∈ gT, w.before ([.ref tx] : List Value).toArray s = true := fun w hw => hts0 w (List.mem_cons_of_mem _ hw)
  have hown : s.vm.findClass RX0 = some m.cls := findClass_of_methodNamed B.named
  have hl := lv_entry [.ref tx] (n := 4) (Nat.le_of_ble_eq_true rfl)
  rw [lg_entry_eq]
  generalize (lg_sl [.ref tx] ++ List.replicate (4 - (lg_sl [.ref tx]).length) Slot.unset).toArray = ls at hl ⊢
  have hD := zD_all h2 hKn.1
  have hcl0 := fun (idx k : Nat) (t : zt_T) (h : (idx, 0, k) ∈ gfX0) (hk : fsX0[k]? = some t) => zf_clause (ro := ro) (ms := uM) h2 hown hKn.1 gfX0_ok (by decide +kernel) idx 0 k 0 0 fsX0 t h rfl hk
  have kp0 : zc_kept D RTg ro uM s.heap s.heap := zc_kept.refl
  obtain ⟨hjt, ⟨av, bv, wv, f2, f3, f4, hav, hbv, hwv⟩, hu⟩ := id hJ
  obtain ⟨tb, n, z, f0, r0, f1, hn, hc, hz⟩ := id hjt
  obtain ⟨n9, g9, n1, n2⟩ := zh_fT (k := 1) (t := (0, 0, 120)) hh htx (show RTg[0]? = some (0, 0, 0, fsX0) from rfl) rfl
  cases f1.symm.trans g9
  dsimp only at n1 n2
  clear g9
  obtain ⟨-, z9, c9, hy9⟩ := zh_arr hh r0 (show RTg[12]? = some (1, 2, 120, [(0, (-128), 127)]) from rfl)
  have hy : ∀ i, i < 120 → zt_ok ro (z i) (0, (-128), 127) := zs_arr (hc.symm.trans c9) hy9
  obtain ⟨u1, u2, u3⟩ := id hu
  have fr0 : ∀ p9 : Nat, p9 ∉ [tx] → s.heap[p9]? = s.heap[p9]? := fun _ _ => rfl
  obtain ⟨g0, hg0⟩ : ∃ g : uS, g = if dgF T sg < 0 then flF sg else sg := ⟨_, rfl⟩
  refine lv_aload_n hx hb (eX0_part (0, .aload_n 0, 1) (List.mem_of_getElem? (i := 0) rfl)) rfl (lv_at hl 0 rfl) ?_
  refine tz_rowV (As := []) (st := []) (b := tx) (C := RX0) (Ts := gT) hx hb hml hown h2 (fun _ h => h) (hX0_atDigit l D cA ro sz H0 tx T (sg) htx) ⟨rfl, rfl⟩ ⟨by decide, by decide⟩ ⟨by decide, by decide⟩ (tb_4 24 rfl rfl) (tb_1 5 rfl rfl) (tb_4 21 rfl rfl) (tb_4 22 rfl rfl) (tb_4 23 rfl rfl) (show yX0_atDigit.cls ≠ "java/lang/invoke/MethodHandle" ∧ yX0_atDigit.cls ≠ "java/lang/invoke/VarHandle" ∧ (parseMethodDescriptor yX0_atDigit.desc).map (fun d => d.parameters.length) = some 0 by decide +kernel) zs_blind (zs_ob hh htx (show RTg[0]? = some (0, 0, 0, fsX0) from rfl) (zCX0 hKn.1)) (fun U hU hW => ⟨rfl, by rw [hU]; exact hh.l0, zKb s U hW.alike hKn, by rw [hU]; exact hJ⟩) hh.2.2.1 hl.1 (Nat.le_of_ble_eq_true rfl) (eX0_part (1, .invokevirtual 36, 3) (List.mem_of_getElem? (i := 1) rfl)) (fun r1 s1 t1 lo1 g1 f1 l1 => ?_)
  obtain ⟨z1, v1, q1, e1⟩ := f1
  cases q1
  rw [z1, g1]
  have hh1 : zh_ok D cA RTg ro sz H0 s.heap lo1 := ⟨hh.1, hh.2.1, l1, hh.2.2.2⟩
  refine W.eq (g2 := F0 m 4 ls [.int v1]) rfl ?_
  refine ff_if_ne hx hb (eX0_part (4, .ifCond .ne 8, 3) (List.mem_of_getElem? (i := 2) rfl)) (tgt := 12) rfl (fun c2 => ?_) (fun c2 => ?_)
  · skip
    refine ff_iconst hx hb (eX0_part (12, .iconst 0, 1) (List.mem_of_getElem? (i := 6) rfl)) (by decide) (by decide) (fun v3 e3 => ?_)
    refine lv_istore_n hx hb (eX0_part (13, .istore_n 1, 1) (List.mem_of_getElem? (i := 7) rfl)) rfl hl (by decide) rfl (fun ls4 hl4 => ?_)
    refine ff_iconst hx hb (eX0_part (14, .iconst 0, 1) (List.mem_of_getElem? (i := 8) rfl)) (by decide) (by decide) (fun v5 e5 => ?_)
    refine lv_istore_n hx hb (eX0_part (15, .istore_n 2, 1) (List.mem_of_getElem? (i := 9) rfl)) rfl hl4 (by decide) rfl (fun ls6 hl6 => ?_)
    refine ff_iconst hx hb (eX0_part (16, .iconst 0, 1) (List.mem_of_getElem? (i := 10) rfl)) (by decide) (by decide) (fun v7 e7 => ?_)
    refine lv_istore_n hx hb (eX0_part (17, .istore_n 3, 1) (List.mem_of_getElem? (i := 11) rfl)) rfl hl6 (by decide) rfl (fun ls8 hl8 => ?_)
    have jg0 : jU D cA ro s.heap tx T g0 := by rw [hg0, if_neg (by omega)]; exact hJ
    have loop : ∀ (n0 i k : Nat) (iv vv kv : Int32) (g : uS) (ls : Array Slot) (H : Heap) (lo0 : List Loc), i + n0 = 120 → iv.toInt = (i : Int) → kv.toInt = (k : Int) → k ≤ 9 → (0 ≤ vv.toInt ∧ vv.toInt ≤ nB k) → ptR T n0 vv.toInt (k : Int) g = ptR T 120 0 0 g0 → zh_ok D cA RTg ro sz H0 H lo0 → zc_kept D RTg ro uM s.heap H → jU D cA ro H tx T g → (∀ p9 : Nat, p9 ∉ [tx] → H[p9]? = s.heap[p9]?) → lv_has ls 4 [(3, .int iv), (1, .int vv), (2, .int kv), (0, .ref tx)] → W p l e (headSpec (gW yX0_part cX0_part 4 (some .int)) { frames := 2, cells := 0, slots := 0, locals := 41 }).room s m ([.ref tx] : List Value).toArray below meth c H lo0 0 0 (MQ below (ku_Q D cA ro sz H0 uM [tx] tx T (ptF T sg)) ([.ref tx] : List Value).toArray s 0 0 (zy_fr sz)) (F0 m 18 ls []) := by
      intro n0
      induction n0 with
      | zero =>
        intro i k iv vv kv g ls H lo0 hi hiv hkv hk9 hvv htot hh0 kpl jl frl hl
        have hul := jl.2.2
        unfold uOK at hul
        have hB9 := nB_9 k (by omega)
        refine lv_iload_n hx hb (eX0_part (18, .iload_n 3, 1) (List.mem_of_getElem? (i := 12) rfl)) rfl (lv_at hl 0 rfl) ?_
        refine ff_bipush hx hb (eX0_part (19, .bipush 120, 2) (List.mem_of_getElem? (i := 13) rfl)) (by decide) (by decide) (fun v9 e9 => ?_)
        refine ff_icmp_ge hx hb (eX0_part (21, .if_icmp .ge 45, 3) (List.mem_of_getElem? (i := 14) rfl)) (tgt := 66) rfl (fun c10 => ?_) (fun c10 => (by exfalso; omega))
        have hpt : ptR T 120 0 0 g0 = ((vv.toInt, (k : Int)), g) := by rw [← htot] <;> rfl
        have hfn : ptF T sg = (tenF (9 - k) vv.toInt, g) := by unfold ptF; rw [← hg0, hpt] <;> rfl
        refine lv_iload_n hx hb (eX0_part (66, .iload_n 2, 1) (List.mem_of_getElem? (i := 37) rfl)) rfl (lv_at hl 2 rfl) ?_
        refine lv_istore_n hx hb (eX0_part (67, .istore_n 3, 1) (List.mem_of_getElem? (i := 38) rfl)) rfl hl (by decide) rfl (fun ls11 hl11 => ?_)
        have lp2 : ∀ (m0 i : Nat) (jv xv : Int32) (ls : Array Slot), i + m0 = 9 → jv.toInt = (i : Int) → (0 ≤ xv.toInt ∧ xv.toInt ≤ nB i) → tenF m0 xv.toInt = tenF (9 - k) vv.toInt → lv_has ls 4 [(3, .int jv), (1, .int xv), (0, .ref tx)] → W p l e (headSpec (gW yX0_part cX0_part 4 (some .int)) { frames := 2, cells := 0, slots := 0, locals := 41 }).room s m ([.ref tx] : List Value).toArray below meth c H lo0 0 0 (MQ below (ku_Q D cA ro sz H0 uM [tx] tx T (ptF T sg)) ([.ref tx] : List Value).toArray s 0 0 (zy_fr sz)) (F0 m 68 ls []) := by
          intro m0
          induction m0 with
          | zero =>
            intro i jv xv ls hi2 hjv hxv htn hl
            refine lv_iload_n hx hb (eX0_part (68, .iload_n 3, 1) (List.mem_of_getElem? (i := 39) rfl)) rfl (lv_at hl 0 rfl) ?_
            refine ff_bipush hx hb (eX0_part (69, .bipush 9, 2) (List.mem_of_getElem? (i := 40) rfl)) (by decide) (by decide) (fun v12 e12 => ?_)
            refine ff_icmp_ge hx hb (eX0_part (71, .if_icmp .ge 14, 3) (List.mem_of_getElem? (i := 41) rfl)) (tgt := 85) rfl (fun c13 => ?_) (fun c13 => (by exfalso; omega))
            refine lv_iload_n hx hb (eX0_part (85, .iload_n 1, 1) (List.mem_of_getElem? (i := 48) rfl)) rfl (lv_at hl 1 rfl) ?_
            have hfin : ptF T sg = (tenF (9 - k) vv.toInt, g) := hfn
            exact W.zret hx hb hr rfl (fun t ht hW => ⟨_, rfl, by rw [hfin] <;> exact by show _ = tenF (9 - k) vv.toInt; rw [← htn] <;> rfl, by rw [ht]; exact hh0.l0, by rw [ht]; exact kpl, by rw [ht, hfin]; exact jl, by rw [ht]; exact frl⟩) hh0.2.2.1 (eX0_part (86, .ireturn, 1) (List.mem_of_getElem? (i := 49) rfl))
          | succ m0 ih2 =>
            intro i jv xv ls hi2 hjv hxv htn hl
            have hB7 := nB_8 i (by omega)
            refine lv_iload_n hx hb (eX0_part (68, .iload_n 3, 1) (List.mem_of_getElem? (i := 39) rfl)) rfl (lv_at hl 0 rfl) ?_
            refine ff_bipush hx hb (eX0_part (69, .bipush 9, 2) (List.mem_of_getElem? (i := 40) rfl)) (by decide) (by decide) (fun v14 e14 => ?_)
            refine ff_icmp_ge hx hb (eX0_part (71, .if_icmp .ge 14, 3) (List.mem_of_getElem? (i := 41) rfl)) (tgt := 85) rfl (fun c15 => (by exfalso; omega)) (fun c15 => ?_)
            refine lv_iload_n hx hb (eX0_part (74, .iload_n 1, 1) (List.mem_of_getElem? (i := 42) rfl)) rfl (lv_at hl 1 rfl) ?_
            refine ff_bipush hx hb (eX0_part (75, .bipush 10, 2) (List.mem_of_getElem? (i := 43) rfl)) (by decide) (by decide) (fun v16 e16 => ?_)
            refine ff_imulR hx hb (eX0_part (77, .imul, 1) (List.mem_of_getElem? (i := 44) rfl)) (e16) (by omega) (by omega) (fun v17 e17 => ?_)
            refine lv_istore_n hx hb (eX0_part (78, .istore_n 1, 1) (List.mem_of_getElem? (i := 45) rfl)) rfl hl (by decide) rfl (fun ls18 hl18 => ?_)
            refine ff_iinc (k := 1) hx hb (eX0_part (79, .iinc 3 1, 3) (List.mem_of_getElem? (i := 46) rfl)) hl18 rfl (by decide) (by decide) (by decide) (by omega) (by omega) (fun v19 e19 ls19 hl19 => ?_)
            refine lv_goto hx hb (eX0_part (82, .goto (-14), 3) (List.mem_of_getElem? (i := 47) rfl)) (tgt := 68) rfl ?_
            exact ih2 (i + 1) v19 v17 ls19 (by omega) (by omega) ⟨by omega, by show _ ≤ nB i * 10 + 9; omega⟩ (by rw [← htn, show v17.toInt = xv.toInt * 10 by omega] <;> rfl) (lv_sub hl19 [0, 1, 2] rfl)
        exact lp2 (9 - k) k kv vv ls11 (by omega) (by omega) hvv rfl (lv_sub hl11 [0, 1, 3] rfl)
      | succ n0 ih =>
        intro i k iv vv kv g ls H lo0 hi hiv hkv hk9 hvv htot hh0 kpl jl frl hl
        have hul := jl.2.2
        unfold uOK at hul
        have hB9 := nB_9 k (by omega)
        refine lv_iload_n hx hb (eX0_part (18, .iload_n 3, 1) (List.mem_of_getElem? (i := 12) rfl)) rfl (lv_at hl 0 rfl) ?_
        refine ff_bipush hx hb (eX0_part (19, .bipush 120, 2) (List.mem_of_getElem? (i := 13) rfl)) (by decide) (by decide) (fun v20 e20 => ?_)
        refine ff_icmp_ge hx hb (eX0_part (21, .if_icmp .ge 45, 3) (List.mem_of_getElem? (i := 14) rfl)) (tgt := 66) rfl (fun c21 => (by exfalso; omega)) (fun c21 => ?_)
        refine lv_aload_n hx hb (eX0_part (24, .aload_n 0, 1) (List.mem_of_getElem? (i := 15) rfl)) rfl (lv_at hl 3 rfl) ?_
        refine tz_rowV (As := []) (st := []) (b := tx) (C := RX0) (Ts := gT) hx hb hml hown h2 (fun _ h => h) (hX0_atDigit l D cA ro sz H0 tx T (g) htx) ⟨rfl, rfl⟩ ⟨by decide, by decide⟩ ⟨by decide, by decide⟩ (tb_4 24 rfl rfl) (tb_1 5 rfl rfl) (tb_4 21 rfl rfl) (tb_4 22 rfl rfl) (tb_4 23 rfl rfl) (show yX0_atDigit.cls ≠ "java/lang/invoke/MethodHandle" ∧ yX0_atDigit.cls ≠ "java/lang/invoke/VarHandle" ∧ (parseMethodDescriptor yX0_atDigit.desc).map (fun d => d.parameters.length) = some 0 by decide +kernel) zs_blind (zs_ob hh0 htx (show RTg[0]? = some (0, 0, 0, fsX0) from rfl) (zCX0 hKn.1)) (fun U hU hW => ⟨rfl, by rw [hU]; exact hh0.l0, zKb s U hW.alike hKn, by rw [hU]; exact jl⟩) hh0.2.2.1 hl.1 (Nat.le_of_ble_eq_true rfl) (eX0_part (25, .invokevirtual 36, 3) (List.mem_of_getElem? (i := 16) rfl)) (fun r22 s22 t22 lo22 g22 f22 l22 => ?_)
        obtain ⟨z22, v22, q22, e22⟩ := f22
        cases q22
        rw [z22, g22]
        have hh22 : zh_ok D cA RTg ro sz H0 H lo22 := ⟨hh0.1, hh0.2.1, l22, hh0.2.2.2⟩
        refine W.eq (g2 := F0 m 28 ls [.int v22]) rfl ?_
        refine ff_if_eq hx hb (eX0_part (28, .ifCond .eq 38, 3) (List.mem_of_getElem? (i := 17) rfl)) (tgt := 66) rfl (fun c23 => ?_) (fun c23 => ?_)
        · skip
          have hpt : ptR T 120 0 0 g0 = ((vv.toInt, (k : Int)), g) := by rw [← htot]; show (if _ then _ else _ : (Int × Int) × uS) = _; rw [if_pos (by omega)]
          have hfn : ptF T sg = (tenF (9 - k) vv.toInt, g) := by unfold ptF; rw [← hg0, hpt] <;> rfl
          refine lv_iload_n hx hb (eX0_part (66, .iload_n 2, 1) (List.mem_of_getElem? (i := 37) rfl)) rfl (lv_at hl 2 rfl) ?_
          refine lv_istore_n hx hb (eX0_part (67, .istore_n 3, 1) (List.mem_of_getElem? (i := 38) rfl)) rfl hl (by decide) rfl (fun ls24 hl24 => ?_)
          have lp2 : ∀ (m0 i : Nat) (jv xv : Int32) (ls : Array Slot), i + m0 = 9 → jv.toInt = (i : Int) → (0 ≤ xv.toInt ∧ xv.toInt ≤ nB i) → tenF m0 xv.toInt = tenF (9 - k) vv.toInt → lv_has ls 4 [(3, .int jv), (1, .int xv), (0, .ref tx)] → W p l e (headSpec (gW yX0_part cX0_part 4 (some .int)) { frames := 2, cells := 0, slots := 0, locals := 41 }).room s m ([.ref tx] : List Value).toArray below meth c H lo22 0 0 (MQ below (ku_Q D cA ro sz H0 uM [tx] tx T (ptF T sg)) ([.ref tx] : List Value).toArray s 0 0 (zy_fr sz)) (F0 m 68 ls []) := by
            intro m0
            induction m0 with
            | zero =>
              intro i jv xv ls hi2 hjv hxv htn hl
              refine lv_iload_n hx hb (eX0_part (68, .iload_n 3, 1) (List.mem_of_getElem? (i := 39) rfl)) rfl (lv_at hl 0 rfl) ?_
              refine ff_bipush hx hb (eX0_part (69, .bipush 9, 2) (List.mem_of_getElem? (i := 40) rfl)) (by decide) (by decide) (fun v25 e25 => ?_)
              refine ff_icmp_ge hx hb (eX0_part (71, .if_icmp .ge 14, 3) (List.mem_of_getElem? (i := 41) rfl)) (tgt := 85) rfl (fun c26 => ?_) (fun c26 => (by exfalso; omega))
              refine lv_iload_n hx hb (eX0_part (85, .iload_n 1, 1) (List.mem_of_getElem? (i := 48) rfl)) rfl (lv_at hl 1 rfl) ?_
              have hfin : ptF T sg = (tenF (9 - k) vv.toInt, g) := hfn
              exact W.zret hx hb hr rfl (fun t ht hW => ⟨_, rfl, by rw [hfin] <;> exact by show _ = tenF (9 - k) vv.toInt; rw [← htn] <;> rfl, by rw [ht]; exact hh22.l0, by rw [ht]; exact kpl, by rw [ht, hfin]; exact jl, by rw [ht]; exact frl⟩) hh22.2.2.1 (eX0_part (86, .ireturn, 1) (List.mem_of_getElem? (i := 49) rfl))
            | succ m0 ih2 =>
              intro i jv xv ls hi2 hjv hxv htn hl
              have hB7 := nB_8 i (by omega)
              refine lv_iload_n hx hb (eX0_part (68, .iload_n 3, 1) (List.mem_of_getElem? (i := 39) rfl)) rfl (lv_at hl 0 rfl) ?_
              refine ff_bipush hx hb (eX0_part (69, .bipush 9, 2) (List.mem_of_getElem? (i := 40) rfl)) (by decide) (by decide) (fun v27 e27 => ?_)
              refine ff_icmp_ge hx hb (eX0_part (71, .if_icmp .ge 14, 3) (List.mem_of_getElem? (i := 41) rfl)) (tgt := 85) rfl (fun c28 => (by exfalso; omega)) (fun c28 => ?_)
              refine lv_iload_n hx hb (eX0_part (74, .iload_n 1, 1) (List.mem_of_getElem? (i := 42) rfl)) rfl (lv_at hl 1 rfl) ?_
              refine ff_bipush hx hb (eX0_part (75, .bipush 10, 2) (List.mem_of_getElem? (i := 43) rfl)) (by decide) (by decide) (fun v29 e29 => ?_)
              refine ff_imulR hx hb (eX0_part (77, .imul, 1) (List.mem_of_getElem? (i := 44) rfl)) (e29) (by omega) (by omega) (fun v30 e30 => ?_)
              refine lv_istore_n hx hb (eX0_part (78, .istore_n 1, 1) (List.mem_of_getElem? (i := 45) rfl)) rfl hl (by decide) rfl (fun ls31 hl31 => ?_)
              refine ff_iinc (k := 1) hx hb (eX0_part (79, .iinc 3 1, 3) (List.mem_of_getElem? (i := 46) rfl)) hl31 rfl (by decide) (by decide) (by decide) (by omega) (by omega) (fun v32 e32 ls32 hl32 => ?_)
              refine lv_goto hx hb (eX0_part (82, .goto (-14), 3) (List.mem_of_getElem? (i := 47) rfl)) (tgt := 68) rfl ?_
              exact ih2 (i + 1) v32 v30 ls32 (by omega) (by omega) ⟨by omega, by show _ ≤ nB i * 10 + 9; omega⟩ (by rw [← htn, show v30.toInt = xv.toInt * 10 by omega] <;> rfl) (lv_sub hl32 [0, 1, 2] rfl)
          exact lp2 (9 - k) k kv vv ls24 (by omega) (by omega) hvv rfl (lv_sub hl24 [0, 1, 3] rfl)
        · skip
          have hat := dgF_at jl.2.2 (show 0 ≤ dgF T g by omega)
          refine lv_iload_n hx hb (eX0_part (31, .iload_n 2, 1) (List.mem_of_getElem? (i := 18) rfl)) rfl (lv_at hl 2 rfl) ?_
          refine ff_bipush hx hb (eX0_part (32, .bipush 9, 2) (List.mem_of_getElem? (i := 19) rfl)) (by decide) (by decide) (fun v33 e33 => ?_)
          refine ff_icmp_ge hx hb (eX0_part (34, .if_icmp .ge 16, 3) (List.mem_of_getElem? (i := 20) rfl)) (tgt := 50) rfl (fun c34 => ?_) (fun c34 => ?_)
          · skip
            refine lv_aload_n hx hb (eX0_part (50, .aload_n 0, 1) (List.mem_of_getElem? (i := 29) rfl)) rfl (lv_at hl 3 rfl) ?_
            refine lv_dup hx hb (eX0_part (51, .dup, 1) (List.mem_of_getElem? (i := 30) rfl)) rfl ?_
            obtain ⟨jt35, ⟨av35, bv35, wv35, f235, f335, f435, hav35, hbv35, hwv35⟩, hu35⟩ := id jl
            refine tz_get (r := 0) (k := 2) (t := (0, (-2147483648), 2147483647)) hx hb hh22 htx rfl rfl (hcl0 19 2 (0, (-2147483648), 2147483647) (by decide) rfl).1 f235 (eX0_part (52, .getfield 19, 3) (List.mem_of_getElem? (i := 31) rfl)) ?_
            refine ff_iconst hx hb (eX0_part (55, .iconst 1, 1) (List.mem_of_getElem? (i := 32) rfl)) (by decide) (by decide) (fun v36 e36 => ?_)
            refine ff_iadd hx hb (eX0_part (56, .iadd, 1) (List.mem_of_getElem? (i := 33) rfl)) (by omega) (by omega) (fun v37 e37 => ?_)
            refine tz_put (r := 0) (k := 2) (t := (0, (-2147483648), 2147483647)) hx hb hD hh22 htx rfl rfl ((hcl0 19 2 (0, (-2147483648), 2147483647) (by decide) rfl).2 (by decide)) (tz_i (zn_i32 _).1 (zn_i32 _).2) (eX0_part (57, .putfield 19, 3) (List.mem_of_getElem? (i := 34) rfl)) (fun H38 lo38 hh38 hf38 hk38 _ hq38 => ?_)
            have mf38_tx_3 := (hk38.1 tx 0 3 0 0 fsX0 htx rfl (by decide) (by decide)).trans f335
            have mf38_tx_4 := (hk38.1 tx 0 4 0 0 fsX0 htx rfl (by decide) (by decide)).trans f435
            have kp38 := kpl.trans (hk38.mono (ms' := uM) (fun x hx => by cases List.mem_singleton.mp hx; decide))
            have jm38 := (jl.1).kept htx hk38 (by decide) (by decide) (by decide)
            have fr38 : ∀ p9 : Nat, p9 ∉ [tx] → H38[p9]? = s.heap[p9]? := fun p9 h9 => (hq38 p9 (fun e9 => h9 (by rw [e9]; exact List.mem_cons_self))).trans (frl p9 h9)
            refine ff_iinc (k := 0) hx hb (eX0_part (60, .iinc 3 1, 3) (List.mem_of_getElem? (i := 35) rfl)) hl rfl (by decide) (by decide) (by decide) (by omega) (by omega) (fun v39 e39 ls39 hl39 => ?_)
            refine lv_goto hx hb (eX0_part (63, .goto (-45), 3) (List.mem_of_getElem? (i := 36) rfl)) (tgt := 18) rfl ?_
            exact ih (i + 1) k v39 vv kv (g.1 + 1, g.2) ls39 _ _ (by omega) (by omega) (by omega) (by omega) ⟨by omega, by omega⟩ (by rw [← htot]; show _ = (if _ then _ else _ : (Int × Int) × uS); rw [if_neg (by omega), if_neg (by omega)]) hh38 kp38 ⟨jm38, ⟨_, _, _, hf38, mf38_tx_3, mf38_tx_4, by show _ = g.1 + 1; omega, by assumption, by assumption⟩, by unfold uOK; dsimp only; omega⟩ fr38 (lv_sub hl39 [0, 1, 2, 3] rfl)
          · skip
            have hB8 := nB_8 k (by omega)
            refine lv_iload_n hx hb (eX0_part (37, .iload_n 1, 1) (List.mem_of_getElem? (i := 21) rfl)) rfl (lv_at hl 1 rfl) ?_
            refine ff_bipush hx hb (eX0_part (38, .bipush 10, 2) (List.mem_of_getElem? (i := 22) rfl)) (by decide) (by decide) (fun v40 e40 => ?_)
            refine ff_imulR hx hb (eX0_part (40, .imul, 1) (List.mem_of_getElem? (i := 23) rfl)) (e40) (by omega) (by omega) (fun v41 e41 => ?_)
            refine lv_aload_n hx hb (eX0_part (41, .aload_n 0, 1) (List.mem_of_getElem? (i := 24) rfl)) rfl (lv_at hl 3 rfl) ?_
            refine tz_rowV (As := []) (st := [.int v41]) (b := tx) (C := RX0) (Ts := gT) hx hb hml hown h2 (fun _ h => h) (hX0_digit l D cA ro sz H0 tx T (g) htx) ⟨rfl, rfl⟩ ⟨by decide, by decide⟩ ⟨by decide, by decide⟩ (tb_4 28 rfl rfl) (tb_1 5 rfl rfl) (tb_4 25 rfl rfl) (tb_4 26 rfl rfl) (tb_4 27 rfl rfl) (show yX0_digit.cls ≠ "java/lang/invoke/MethodHandle" ∧ yX0_digit.cls ≠ "java/lang/invoke/VarHandle" ∧ (parseMethodDescriptor yX0_digit.desc).map (fun d => d.parameters.length) = some 0 by decide +kernel) zs_blind (zs_ob hh22 htx (show RTg[0]? = some (0, 0, 0, fsX0) from rfl) (zCX0 hKn.1)) (fun U hU hW => ⟨rfl, by rw [hU]; exact hh22.l0, zKb s U hW.alike hKn, by rw [hU]; exact jl⟩) hh22.2.2.1 hl.1 (Nat.le_of_ble_eq_true rfl) (eX0_part (42, .invokevirtual 33, 3) (List.mem_of_getElem? (i := 25) rfl)) (fun r42 s42 t42 lo42 g42 f42 l42 => ?_)
            obtain ⟨z42, v42, q42, e42⟩ := f42
            cases q42
            rw [z42, g42]
            have hh42 : zh_ok D cA RTg ro sz H0 H lo42 := ⟨hh22.1, hh22.2.1, l42, hh22.2.2.2⟩
            refine W.eq (g2 := F0 m 45 ls [.int v42, .int v41]) rfl ?_
            refine ff_iadd hx hb (eX0_part (45, .iadd, 1) (List.mem_of_getElem? (i := 26) rfl)) (by omega) (by omega) (fun v43 e43 => ?_)
            refine lv_istore_n hx hb (eX0_part (46, .istore_n 1, 1) (List.mem_of_getElem? (i := 27) rfl)) rfl hl (by decide) rfl (fun ls44 hl44 => ?_)
            refine ff_iinc (k := 2) hx hb (eX0_part (47, .iinc 2 1, 3) (List.mem_of_getElem? (i := 28) rfl)) hl44 rfl (by decide) (by decide) (by decide) (by omega) (by omega) (fun v45 e45 ls45 hl45 => ?_)
            refine lv_aload_n hx hb (eX0_part (50, .aload_n 0, 1) (List.mem_of_getElem? (i := 29) rfl)) rfl (lv_at hl45 3 rfl) ?_
            refine lv_dup hx hb (eX0_part (51, .dup, 1) (List.mem_of_getElem? (i := 30) rfl)) rfl ?_
            obtain ⟨jt46, ⟨av46, bv46, wv46, f246, f346, f446, hav46, hbv46, hwv46⟩, hu46⟩ := id jl
            refine tz_get (r := 0) (k := 2) (t := (0, (-2147483648), 2147483647)) hx hb hh42 htx rfl rfl (hcl0 19 2 (0, (-2147483648), 2147483647) (by decide) rfl).1 f246 (eX0_part (52, .getfield 19, 3) (List.mem_of_getElem? (i := 31) rfl)) ?_
            refine ff_iconst hx hb (eX0_part (55, .iconst 1, 1) (List.mem_of_getElem? (i := 32) rfl)) (by decide) (by decide) (fun v47 e47 => ?_)
            refine ff_iadd hx hb (eX0_part (56, .iadd, 1) (List.mem_of_getElem? (i := 33) rfl)) (by omega) (by omega) (fun v48 e48 => ?_)
            refine tz_put (r := 0) (k := 2) (t := (0, (-2147483648), 2147483647)) hx hb hD hh42 htx rfl rfl ((hcl0 19 2 (0, (-2147483648), 2147483647) (by decide) rfl).2 (by decide)) (tz_i (zn_i32 _).1 (zn_i32 _).2) (eX0_part (57, .putfield 19, 3) (List.mem_of_getElem? (i := 34) rfl)) (fun H49 lo49 hh49 hf49 hk49 _ hq49 => ?_)
            have mf49_tx_3 := (hk49.1 tx 0 3 0 0 fsX0 htx rfl (by decide) (by decide)).trans f346
            have mf49_tx_4 := (hk49.1 tx 0 4 0 0 fsX0 htx rfl (by decide) (by decide)).trans f446
            have kp49 := kpl.trans (hk49.mono (ms' := uM) (fun x hx => by cases List.mem_singleton.mp hx; decide))
            have jm49 := (jl.1).kept htx hk49 (by decide) (by decide) (by decide)
            have fr49 : ∀ p9 : Nat, p9 ∉ [tx] → H49[p9]? = s.heap[p9]? := fun p9 h9 => (hq49 p9 (fun e9 => h9 (by rw [e9]; exact List.mem_cons_self))).trans (frl p9 h9)
            refine ff_iinc (k := 2) hx hb (eX0_part (60, .iinc 3 1, 3) (List.mem_of_getElem? (i := 35) rfl)) hl45 rfl (by decide) (by decide) (by decide) (by omega) (by omega) (fun v50 e50 ls50 hl50 => ?_)
            refine lv_goto hx hb (eX0_part (63, .goto (-45), 3) (List.mem_of_getElem? (i := 36) rfl)) (tgt := 18) rfl ?_
            exact ih (i + 1) (k + 1) v50 v43 v45 (g.1 + 1, g.2) ls50 _ _ (by omega) (by omega) (by omega) (by omega) ⟨by omega, by show _ ≤ nB k * 10 + 9; omega⟩ (by rw [← htot]; show _ = (if _ then _ else _ : (Int × Int) × uS); rw [if_neg (by omega), if_pos (by omega), show v43.toInt = vv.toInt * 10 + dgF T g by omega] <;> rfl) hh49 kp49 ⟨jm49, ⟨_, _, _, hf49, mf49_tx_3, mf49_tx_4, by show _ = g.1 + 1; omega, by assumption, by assumption⟩, by unfold uOK; dsimp only; omega⟩ fr49 (lv_sub hl50 [0, 2, 1, 3] rfl)
    exact loop 120 0 0 v7 v3 v5 g0 ls8 _ _ (by omega) (by omega) (by omega) (by omega) ⟨by omega, by show _ ≤ (0 : Int); omega⟩ (by rw [show v3.toInt = 0 by omega] <;> rfl) hh1 kp0 jg0 fr0 (lv_sub hl8 [0, 2, 1, 3] rfl)
  · skip
    refine lv_aload_n hx hb (eX0_part (7, .aload_n 0, 1) (List.mem_of_getElem? (i := 3) rfl)) rfl (lv_at hl 0 rfl) ?_
    refine ff_iconst hx hb (eX0_part (8, .iconst 1, 1) (List.mem_of_getElem? (i := 4) rfl)) (by decide) (by decide) (fun v51 e51 => ?_)
    refine tz_put (r := 0) (k := 3) (t := (0, 0, 1)) hx hb hD hh1 htx rfl rfl ((hcl0 22 3 (0, 0, 1) (by decide) rfl).2 (by decide)) (tz_i (by omega) (by omega)) (eX0_part (9, .putfield 22, 3) (List.mem_of_getElem? (i := 5) rfl)) (fun H52 lo52 hh52 hf52 hk52 _ hq52 => ?_)
    have mf52_tx_0 := (hk52.1 tx 0 0 0 0 fsX0 htx rfl (by decide) (by decide)).trans f0
    have mf52_tx_1 := (hk52.1 tx 0 1 0 0 fsX0 htx rfl (by decide) (by decide)).trans f1
    have mf52_tx_2 := (hk52.1 tx 0 2 0 0 fsX0 htx rfl (by decide) (by decide)).trans f2
    have mf52_tx_4 := (hk52.1 tx 0 4 0 0 fsX0 htx rfl (by decide) (by decide)).trans f4
    have mc52_tb := (hk52.2 tb 12 0 2 120 _ r0 rfl (by decide)).trans hc
    have kp52 := kp0.trans (hk52.mono (ms' := uM) (fun x hx => by cases List.mem_singleton.mp hx; decide))
    have jm52 := (hJ.1).kept htx hk52 (by decide) (by decide) (by decide)
    have fr52 : ∀ p9 : Nat, p9 ∉ [tx] → H52[p9]? = s.heap[p9]? := fun p9 h9 => (hq52 p9 (fun e9 => h9 (by rw [e9]; exact List.mem_cons_self))).trans (fr0 p9 h9)
    refine ff_iconst hx hb (eX0_part (12, .iconst 0, 1) (List.mem_of_getElem? (i := 6) rfl)) (by decide) (by decide) (fun v53 e53 => ?_)
    refine lv_istore_n hx hb (eX0_part (13, .istore_n 1, 1) (List.mem_of_getElem? (i := 7) rfl)) rfl hl (by decide) rfl (fun ls54 hl54 => ?_)
    refine ff_iconst hx hb (eX0_part (14, .iconst 0, 1) (List.mem_of_getElem? (i := 8) rfl)) (by decide) (by decide) (fun v55 e55 => ?_)
    refine lv_istore_n hx hb (eX0_part (15, .istore_n 2, 1) (List.mem_of_getElem? (i := 9) rfl)) rfl hl54 (by decide) rfl (fun ls56 hl56 => ?_)
    refine ff_iconst hx hb (eX0_part (16, .iconst 0, 1) (List.mem_of_getElem? (i := 10) rfl)) (by decide) (by decide) (fun v57 e57 => ?_)
    refine lv_istore_n hx hb (eX0_part (17, .istore_n 3, 1) (List.mem_of_getElem? (i := 11) rfl)) rfl hl56 (by decide) rfl (fun ls58 hl58 => ?_)
    have jg0 : jU D cA ro H52 tx T g0 := by rw [hg0, if_pos (by omega)]; exact ⟨jm52, ⟨_, _, _, mf52_tx_2, hf52, mf52_tx_4, hav, by show _ = (1 : Int); omega, hwv⟩, flF_ok hu⟩
    have loop : ∀ (n0 i k : Nat) (iv vv kv : Int32) (g : uS) (ls : Array Slot) (H : Heap) (lo0 : List Loc), i + n0 = 120 → iv.toInt = (i : Int) → kv.toInt = (k : Int) → k ≤ 9 → (0 ≤ vv.toInt ∧ vv.toInt ≤ nB k) → ptR T n0 vv.toInt (k : Int) g = ptR T 120 0 0 g0 → zh_ok D cA RTg ro sz H0 H lo0 → zc_kept D RTg ro uM s.heap H → jU D cA ro H tx T g → (∀ p9 : Nat, p9 ∉ [tx] → H[p9]? = s.heap[p9]?) → lv_has ls 4 [(3, .int iv), (1, .int vv), (2, .int kv), (0, .ref tx)] → W p l e (headSpec (gW yX0_part cX0_part 4 (some .int)) { frames := 2, cells := 0, slots := 0, locals := 41 }).room s m ([.ref tx] : List Value).toArray below meth c H lo0 0 0 (MQ below (ku_Q D cA ro sz H0 uM [tx] tx T (ptF T sg)) ([.ref tx] : List Value).toArray s 0 0 (zy_fr sz)) (F0 m 18 ls []) := by
      intro n0
      induction n0 with
      | zero =>
        intro i k iv vv kv g ls H lo0 hi hiv hkv hk9 hvv htot hh0 kpl jl frl hl
        have hul := jl.2.2
        unfold uOK at hul
        have hB9 := nB_9 k (by omega)
        refine lv_iload_n hx hb (eX0_part (18, .iload_n 3, 1) (List.mem_of_getElem? (i := 12) rfl)) rfl (lv_at hl 0 rfl) ?_
        refine ff_bipush hx hb (eX0_part (19, .bipush 120, 2) (List.mem_of_getElem? (i := 13) rfl)) (by decide) (by decide) (fun v59 e59 => ?_)
        refine ff_icmp_ge hx hb (eX0_part (21, .if_icmp .ge 45, 3) (List.mem_of_getElem? (i := 14) rfl)) (tgt := 66) rfl (fun c60 => ?_) (fun c60 => (by exfalso; omega))
        have hpt : ptR T 120 0 0 g0 = ((vv.toInt, (k : Int)), g) := by rw [← htot] <;> rfl
        have hfn : ptF T sg = (tenF (9 - k) vv.toInt, g) := by unfold ptF; rw [← hg0, hpt] <;> rfl
        refine lv_iload_n hx hb (eX0_part (66, .iload_n 2, 1) (List.mem_of_getElem? (i := 37) rfl)) rfl (lv_at hl 2 rfl) ?_
        refine lv_istore_n hx hb (eX0_part (67, .istore_n 3, 1) (List.mem_of_getElem? (i := 38) rfl)) rfl hl (by decide) rfl (fun ls61 hl61 => ?_)
        have lp2 : ∀ (m0 i : Nat) (jv xv : Int32) (ls : Array Slot), i + m0 = 9 → jv.toInt = (i : Int) → (0 ≤ xv.toInt ∧ xv.toInt ≤ nB i) → tenF m0 xv.toInt = tenF (9 - k) vv.toInt → lv_has ls 4 [(3, .int jv), (1, .int xv), (0, .ref tx)] → W p l e (headSpec (gW yX0_part cX0_part 4 (some .int)) { frames := 2, cells := 0, slots := 0, locals := 41 }).room s m ([.ref tx] : List Value).toArray below meth c H lo0 0 0 (MQ below (ku_Q D cA ro sz H0 uM [tx] tx T (ptF T sg)) ([.ref tx] : List Value).toArray s 0 0 (zy_fr sz)) (F0 m 68 ls []) := by
          intro m0
          induction m0 with
          | zero =>
            intro i jv xv ls hi2 hjv hxv htn hl
            refine lv_iload_n hx hb (eX0_part (68, .iload_n 3, 1) (List.mem_of_getElem? (i := 39) rfl)) rfl (lv_at hl 0 rfl) ?_
            refine ff_bipush hx hb (eX0_part (69, .bipush 9, 2) (List.mem_of_getElem? (i := 40) rfl)) (by decide) (by decide) (fun v62 e62 => ?_)
            refine ff_icmp_ge hx hb (eX0_part (71, .if_icmp .ge 14, 3) (List.mem_of_getElem? (i := 41) rfl)) (tgt := 85) rfl (fun c63 => ?_) (fun c63 => (by exfalso; omega))
            refine lv_iload_n hx hb (eX0_part (85, .iload_n 1, 1) (List.mem_of_getElem? (i := 48) rfl)) rfl (lv_at hl 1 rfl) ?_
            have hfin : ptF T sg = (tenF (9 - k) vv.toInt, g) := hfn
            exact W.zret hx hb hr rfl (fun t ht hW => ⟨_, rfl, by rw [hfin] <;> exact by show _ = tenF (9 - k) vv.toInt; rw [← htn] <;> rfl, by rw [ht]; exact hh0.l0, by rw [ht]; exact kpl, by rw [ht, hfin]; exact jl, by rw [ht]; exact frl⟩) hh0.2.2.1 (eX0_part (86, .ireturn, 1) (List.mem_of_getElem? (i := 49) rfl))
          | succ m0 ih2 =>
            intro i jv xv ls hi2 hjv hxv htn hl
            have hB7 := nB_8 i (by omega)
            refine lv_iload_n hx hb (eX0_part (68, .iload_n 3, 1) (List.mem_of_getElem? (i := 39) rfl)) rfl (lv_at hl 0 rfl) ?_
            refine ff_bipush hx hb (eX0_part (69, .bipush 9, 2) (List.mem_of_getElem? (i := 40) rfl)) (by decide) (by decide) (fun v64 e64 => ?_)
            refine ff_icmp_ge hx hb (eX0_part (71, .if_icmp .ge 14, 3) (List.mem_of_getElem? (i := 41) rfl)) (tgt := 85) rfl (fun c65 => (by exfalso; omega)) (fun c65 => ?_)
            refine lv_iload_n hx hb (eX0_part (74, .iload_n 1, 1) (List.mem_of_getElem? (i := 42) rfl)) rfl (lv_at hl 1 rfl) ?_
            refine ff_bipush hx hb (eX0_part (75, .bipush 10, 2) (List.mem_of_getElem? (i := 43) rfl)) (by decide) (by decide) (fun v66 e66 => ?_)
            refine ff_imulR hx hb (eX0_part (77, .imul, 1) (List.mem_of_getElem? (i := 44) rfl)) (e66) (by omega) (by omega) (fun v67 e67 => ?_)
            refine lv_istore_n hx hb (eX0_part (78, .istore_n 1, 1) (List.mem_of_getElem? (i := 45) rfl)) rfl hl (by decide) rfl (fun ls68 hl68 => ?_)
            refine ff_iinc (k := 1) hx hb (eX0_part (79, .iinc 3 1, 3) (List.mem_of_getElem? (i := 46) rfl)) hl68 rfl (by decide) (by decide) (by decide) (by omega) (by omega) (fun v69 e69 ls69 hl69 => ?_)
            refine lv_goto hx hb (eX0_part (82, .goto (-14), 3) (List.mem_of_getElem? (i := 47) rfl)) (tgt := 68) rfl ?_
            exact ih2 (i + 1) v69 v67 ls69 (by omega) (by omega) ⟨by omega, by show _ ≤ nB i * 10 + 9; omega⟩ (by rw [← htn, show v67.toInt = xv.toInt * 10 by omega] <;> rfl) (lv_sub hl69 [0, 1, 2] rfl)
        exact lp2 (9 - k) k kv vv ls61 (by omega) (by omega) hvv rfl (lv_sub hl61 [0, 1, 3] rfl)
      | succ n0 ih =>
        intro i k iv vv kv g ls H lo0 hi hiv hkv hk9 hvv htot hh0 kpl jl frl hl
        have hul := jl.2.2
        unfold uOK at hul
        have hB9 := nB_9 k (by omega)
        refine lv_iload_n hx hb (eX0_part (18, .iload_n 3, 1) (List.mem_of_getElem? (i := 12) rfl)) rfl (lv_at hl 0 rfl) ?_
        refine ff_bipush hx hb (eX0_part (19, .bipush 120, 2) (List.mem_of_getElem? (i := 13) rfl)) (by decide) (by decide) (fun v70 e70 => ?_)
        refine ff_icmp_ge hx hb (eX0_part (21, .if_icmp .ge 45, 3) (List.mem_of_getElem? (i := 14) rfl)) (tgt := 66) rfl (fun c71 => (by exfalso; omega)) (fun c71 => ?_)
        refine lv_aload_n hx hb (eX0_part (24, .aload_n 0, 1) (List.mem_of_getElem? (i := 15) rfl)) rfl (lv_at hl 3 rfl) ?_
        refine tz_rowV (As := []) (st := []) (b := tx) (C := RX0) (Ts := gT) hx hb hml hown h2 (fun _ h => h) (hX0_atDigit l D cA ro sz H0 tx T (g) htx) ⟨rfl, rfl⟩ ⟨by decide, by decide⟩ ⟨by decide, by decide⟩ (tb_4 24 rfl rfl) (tb_1 5 rfl rfl) (tb_4 21 rfl rfl) (tb_4 22 rfl rfl) (tb_4 23 rfl rfl) (show yX0_atDigit.cls ≠ "java/lang/invoke/MethodHandle" ∧ yX0_atDigit.cls ≠ "java/lang/invoke/VarHandle" ∧ (parseMethodDescriptor yX0_atDigit.desc).map (fun d => d.parameters.length) = some 0 by decide +kernel) zs_blind (zs_ob hh0 htx (show RTg[0]? = some (0, 0, 0, fsX0) from rfl) (zCX0 hKn.1)) (fun U hU hW => ⟨rfl, by rw [hU]; exact hh0.l0, zKb s U hW.alike hKn, by rw [hU]; exact jl⟩) hh0.2.2.1 hl.1 (Nat.le_of_ble_eq_true rfl) (eX0_part (25, .invokevirtual 36, 3) (List.mem_of_getElem? (i := 16) rfl)) (fun r72 s72 t72 lo72 g72 f72 l72 => ?_)
        obtain ⟨z72, v72, q72, e72⟩ := f72
        cases q72
        rw [z72, g72]
        have hh72 : zh_ok D cA RTg ro sz H0 H lo72 := ⟨hh0.1, hh0.2.1, l72, hh0.2.2.2⟩
        refine W.eq (g2 := F0 m 28 ls [.int v72]) rfl ?_
        refine ff_if_eq hx hb (eX0_part (28, .ifCond .eq 38, 3) (List.mem_of_getElem? (i := 17) rfl)) (tgt := 66) rfl (fun c73 => ?_) (fun c73 => ?_)
        · skip
          have hpt : ptR T 120 0 0 g0 = ((vv.toInt, (k : Int)), g) := by rw [← htot]; show (if _ then _ else _ : (Int × Int) × uS) = _; rw [if_pos (by omega)]
          have hfn : ptF T sg = (tenF (9 - k) vv.toInt, g) := by unfold ptF; rw [← hg0, hpt] <;> rfl
          refine lv_iload_n hx hb (eX0_part (66, .iload_n 2, 1) (List.mem_of_getElem? (i := 37) rfl)) rfl (lv_at hl 2 rfl) ?_
          refine lv_istore_n hx hb (eX0_part (67, .istore_n 3, 1) (List.mem_of_getElem? (i := 38) rfl)) rfl hl (by decide) rfl (fun ls74 hl74 => ?_)
          have lp2 : ∀ (m0 i : Nat) (jv xv : Int32) (ls : Array Slot), i + m0 = 9 → jv.toInt = (i : Int) → (0 ≤ xv.toInt ∧ xv.toInt ≤ nB i) → tenF m0 xv.toInt = tenF (9 - k) vv.toInt → lv_has ls 4 [(3, .int jv), (1, .int xv), (0, .ref tx)] → W p l e (headSpec (gW yX0_part cX0_part 4 (some .int)) { frames := 2, cells := 0, slots := 0, locals := 41 }).room s m ([.ref tx] : List Value).toArray below meth c H lo72 0 0 (MQ below (ku_Q D cA ro sz H0 uM [tx] tx T (ptF T sg)) ([.ref tx] : List Value).toArray s 0 0 (zy_fr sz)) (F0 m 68 ls []) := by
            intro m0
            induction m0 with
            | zero =>
              intro i jv xv ls hi2 hjv hxv htn hl
              refine lv_iload_n hx hb (eX0_part (68, .iload_n 3, 1) (List.mem_of_getElem? (i := 39) rfl)) rfl (lv_at hl 0 rfl) ?_
              refine ff_bipush hx hb (eX0_part (69, .bipush 9, 2) (List.mem_of_getElem? (i := 40) rfl)) (by decide) (by decide) (fun v75 e75 => ?_)
              refine ff_icmp_ge hx hb (eX0_part (71, .if_icmp .ge 14, 3) (List.mem_of_getElem? (i := 41) rfl)) (tgt := 85) rfl (fun c76 => ?_) (fun c76 => (by exfalso; omega))
              refine lv_iload_n hx hb (eX0_part (85, .iload_n 1, 1) (List.mem_of_getElem? (i := 48) rfl)) rfl (lv_at hl 1 rfl) ?_
              have hfin : ptF T sg = (tenF (9 - k) vv.toInt, g) := hfn
              exact W.zret hx hb hr rfl (fun t ht hW => ⟨_, rfl, by rw [hfin] <;> exact by show _ = tenF (9 - k) vv.toInt; rw [← htn] <;> rfl, by rw [ht]; exact hh72.l0, by rw [ht]; exact kpl, by rw [ht, hfin]; exact jl, by rw [ht]; exact frl⟩) hh72.2.2.1 (eX0_part (86, .ireturn, 1) (List.mem_of_getElem? (i := 49) rfl))
            | succ m0 ih2 =>
              intro i jv xv ls hi2 hjv hxv htn hl
              have hB7 := nB_8 i (by omega)
              refine lv_iload_n hx hb (eX0_part (68, .iload_n 3, 1) (List.mem_of_getElem? (i := 39) rfl)) rfl (lv_at hl 0 rfl) ?_
              refine ff_bipush hx hb (eX0_part (69, .bipush 9, 2) (List.mem_of_getElem? (i := 40) rfl)) (by decide) (by decide) (fun v77 e77 => ?_)
              refine ff_icmp_ge hx hb (eX0_part (71, .if_icmp .ge 14, 3) (List.mem_of_getElem? (i := 41) rfl)) (tgt := 85) rfl (fun c78 => (by exfalso; omega)) (fun c78 => ?_)
              refine lv_iload_n hx hb (eX0_part (74, .iload_n 1, 1) (List.mem_of_getElem? (i := 42) rfl)) rfl (lv_at hl 1 rfl) ?_
              refine ff_bipush hx hb (eX0_part (75, .bipush 10, 2) (List.mem_of_getElem? (i := 43) rfl)) (by decide) (by decide) (fun v79 e79 => ?_)
              refine ff_imulR hx hb (eX0_part (77, .imul, 1) (List.mem_of_getElem? (i := 44) rfl)) (e79) (by omega) (by omega) (fun v80 e80 => ?_)
              refine lv_istore_n hx hb (eX0_part (78, .istore_n 1, 1) (List.mem_of_getElem? (i := 45) rfl)) rfl hl (by decide) rfl (fun ls81 hl81 => ?_)
              refine ff_iinc (k := 1) hx hb (eX0_part (79, .iinc 3 1, 3) (List.mem_of_getElem? (i := 46) rfl)) hl81 rfl (by decide) (by decide) (by decide) (by omega) (by omega) (fun v82 e82 ls82 hl82 => ?_)
              refine lv_goto hx hb (eX0_part (82, .goto (-14), 3) (List.mem_of_getElem? (i := 47) rfl)) (tgt := 68) rfl ?_
              exact ih2 (i + 1) v82 v80 ls82 (by omega) (by omega) ⟨by omega, by show _ ≤ nB i * 10 + 9; omega⟩ (by rw [← htn, show v80.toInt = xv.toInt * 10 by omega] <;> rfl) (lv_sub hl82 [0, 1, 2] rfl)
          exact lp2 (9 - k) k kv vv ls74 (by omega) (by omega) hvv rfl (lv_sub hl74 [0, 1, 3] rfl)
        · skip
          have hat := dgF_at jl.2.2 (show 0 ≤ dgF T g by omega)
          refine lv_iload_n hx hb (eX0_part (31, .iload_n 2, 1) (List.mem_of_getElem? (i := 18) rfl)) rfl (lv_at hl 2 rfl) ?_
          refine ff_bipush hx hb (eX0_part (32, .bipush 9, 2) (List.mem_of_getElem? (i := 19) rfl)) (by decide) (by decide) (fun v83 e83 => ?_)
          refine ff_icmp_ge hx hb (eX0_part (34, .if_icmp .ge 16, 3) (List.mem_of_getElem? (i := 20) rfl)) (tgt := 50) rfl (fun c84 => ?_) (fun c84 => ?_)
          · skip
            refine lv_aload_n hx hb (eX0_part (50, .aload_n 0, 1) (List.mem_of_getElem? (i := 29) rfl)) rfl (lv_at hl 3 rfl) ?_
            refine lv_dup hx hb (eX0_part (51, .dup, 1) (List.mem_of_getElem? (i := 30) rfl)) rfl ?_
            obtain ⟨jt85, ⟨av85, bv85, wv85, f285, f385, f485, hav85, hbv85, hwv85⟩, hu85⟩ := id jl
            refine tz_get (r := 0) (k := 2) (t := (0, (-2147483648), 2147483647)) hx hb hh72 htx rfl rfl (hcl0 19 2 (0, (-2147483648), 2147483647) (by decide) rfl).1 f285 (eX0_part (52, .getfield 19, 3) (List.mem_of_getElem? (i := 31) rfl)) ?_
            refine ff_iconst hx hb (eX0_part (55, .iconst 1, 1) (List.mem_of_getElem? (i := 32) rfl)) (by decide) (by decide) (fun v86 e86 => ?_)
            refine ff_iadd hx hb (eX0_part (56, .iadd, 1) (List.mem_of_getElem? (i := 33) rfl)) (by omega) (by omega) (fun v87 e87 => ?_)
            refine tz_put (r := 0) (k := 2) (t := (0, (-2147483648), 2147483647)) hx hb hD hh72 htx rfl rfl ((hcl0 19 2 (0, (-2147483648), 2147483647) (by decide) rfl).2 (by decide)) (tz_i (zn_i32 _).1 (zn_i32 _).2) (eX0_part (57, .putfield 19, 3) (List.mem_of_getElem? (i := 34) rfl)) (fun H88 lo88 hh88 hf88 hk88 _ hq88 => ?_)
            have mf88_tx_3 := (hk88.1 tx 0 3 0 0 fsX0 htx rfl (by decide) (by decide)).trans f385
            have mf88_tx_4 := (hk88.1 tx 0 4 0 0 fsX0 htx rfl (by decide) (by decide)).trans f485
            have kp88 := kpl.trans (hk88.mono (ms' := uM) (fun x hx => by cases List.mem_singleton.mp hx; decide))
            have jm88 := (jl.1).kept htx hk88 (by decide) (by decide) (by decide)
            have fr88 : ∀ p9 : Nat, p9 ∉ [tx] → H88[p9]? = s.heap[p9]? := fun p9 h9 => (hq88 p9 (fun e9 => h9 (by rw [e9]; exact List.mem_cons_self))).trans (frl p9 h9)
            refine ff_iinc (k := 0) hx hb (eX0_part (60, .iinc 3 1, 3) (List.mem_of_getElem? (i := 35) rfl)) hl rfl (by decide) (by decide) (by decide) (by omega) (by omega) (fun v89 e89 ls89 hl89 => ?_)
            refine lv_goto hx hb (eX0_part (63, .goto (-45), 3) (List.mem_of_getElem? (i := 36) rfl)) (tgt := 18) rfl ?_
            exact ih (i + 1) k v89 vv kv (g.1 + 1, g.2) ls89 _ _ (by omega) (by omega) (by omega) (by omega) ⟨by omega, by omega⟩ (by rw [← htot]; show _ = (if _ then _ else _ : (Int × Int) × uS); rw [if_neg (by omega), if_neg (by omega)]) hh88 kp88 ⟨jm88, ⟨_, _, _, hf88, mf88_tx_3, mf88_tx_4, by show _ = g.1 + 1; omega, by assumption, by assumption⟩, by unfold uOK; dsimp only; omega⟩ fr88 (lv_sub hl89 [0, 1, 2, 3] rfl)
          · skip
            have hB8 := nB_8 k (by omega)
            refine lv_iload_n hx hb (eX0_part (37, .iload_n 1, 1) (List.mem_of_getElem? (i := 21) rfl)) rfl (lv_at hl 1 rfl) ?_
            refine ff_bipush hx hb (eX0_part (38, .bipush 10, 2) (List.mem_of_getElem? (i := 22) rfl)) (by decide) (by decide) (fun v90 e90 => ?_)
            refine ff_imulR hx hb (eX0_part (40, .imul, 1) (List.mem_of_getElem? (i := 23) rfl)) (e90) (by omega) (by omega) (fun v91 e91 => ?_)
            refine lv_aload_n hx hb (eX0_part (41, .aload_n 0, 1) (List.mem_of_getElem? (i := 24) rfl)) rfl (lv_at hl 3 rfl) ?_
            refine tz_rowV (As := []) (st := [.int v91]) (b := tx) (C := RX0) (Ts := gT) hx hb hml hown h2 (fun _ h => h) (hX0_digit l D cA ro sz H0 tx T (g) htx) ⟨rfl, rfl⟩ ⟨by decide, by decide⟩ ⟨by decide, by decide⟩ (tb_4 28 rfl rfl) (tb_1 5 rfl rfl) (tb_4 25 rfl rfl) (tb_4 26 rfl rfl) (tb_4 27 rfl rfl) (show yX0_digit.cls ≠ "java/lang/invoke/MethodHandle" ∧ yX0_digit.cls ≠ "java/lang/invoke/VarHandle" ∧ (parseMethodDescriptor yX0_digit.desc).map (fun d => d.parameters.length) = some 0 by decide +kernel) zs_blind (zs_ob hh72 htx (show RTg[0]? = some (0, 0, 0, fsX0) from rfl) (zCX0 hKn.1)) (fun U hU hW => ⟨rfl, by rw [hU]; exact hh72.l0, zKb s U hW.alike hKn, by rw [hU]; exact jl⟩) hh72.2.2.1 hl.1 (Nat.le_of_ble_eq_true rfl) (eX0_part (42, .invokevirtual 33, 3) (List.mem_of_getElem? (i := 25) rfl)) (fun r92 s92 t92 lo92 g92 f92 l92 => ?_)
            obtain ⟨z92, v92, q92, e92⟩ := f92
            cases q92
            rw [z92, g92]
            have hh92 : zh_ok D cA RTg ro sz H0 H lo92 := ⟨hh72.1, hh72.2.1, l92, hh72.2.2.2⟩
            refine W.eq (g2 := F0 m 45 ls [.int v92, .int v91]) rfl ?_
            refine ff_iadd hx hb (eX0_part (45, .iadd, 1) (List.mem_of_getElem? (i := 26) rfl)) (by omega) (by omega) (fun v93 e93 => ?_)
            refine lv_istore_n hx hb (eX0_part (46, .istore_n 1, 1) (List.mem_of_getElem? (i := 27) rfl)) rfl hl (by decide) rfl (fun ls94 hl94 => ?_)
            refine ff_iinc (k := 2) hx hb (eX0_part (47, .iinc 2 1, 3) (List.mem_of_getElem? (i := 28) rfl)) hl94 rfl (by decide) (by decide) (by decide) (by omega) (by omega) (fun v95 e95 ls95 hl95 => ?_)
            refine lv_aload_n hx hb (eX0_part (50, .aload_n 0, 1) (List.mem_of_getElem? (i := 29) rfl)) rfl (lv_at hl95 3 rfl) ?_
            refine lv_dup hx hb (eX0_part (51, .dup, 1) (List.mem_of_getElem? (i := 30) rfl)) rfl ?_
            obtain ⟨jt96, ⟨av96, bv96, wv96, f296, f396, f496, hav96, hbv96, hwv96⟩, hu96⟩ := id jl
            refine tz_get (r := 0) (k := 2) (t := (0, (-2147483648), 2147483647)) hx hb hh92 htx rfl rfl (hcl0 19 2 (0, (-2147483648), 2147483647) (by decide) rfl).1 f296 (eX0_part (52, .getfield 19, 3) (List.mem_of_getElem? (i := 31) rfl)) ?_
            refine ff_iconst hx hb (eX0_part (55, .iconst 1, 1) (List.mem_of_getElem? (i := 32) rfl)) (by decide) (by decide) (fun v97 e97 => ?_)
            refine ff_iadd hx hb (eX0_part (56, .iadd, 1) (List.mem_of_getElem? (i := 33) rfl)) (by omega) (by omega) (fun v98 e98 => ?_)
            refine tz_put (r := 0) (k := 2) (t := (0, (-2147483648), 2147483647)) hx hb hD hh92 htx rfl rfl ((hcl0 19 2 (0, (-2147483648), 2147483647) (by decide) rfl).2 (by decide)) (tz_i (zn_i32 _).1 (zn_i32 _).2) (eX0_part (57, .putfield 19, 3) (List.mem_of_getElem? (i := 34) rfl)) (fun H99 lo99 hh99 hf99 hk99 _ hq99 => ?_)
            have mf99_tx_3 := (hk99.1 tx 0 3 0 0 fsX0 htx rfl (by decide) (by decide)).trans f396
            have mf99_tx_4 := (hk99.1 tx 0 4 0 0 fsX0 htx rfl (by decide) (by decide)).trans f496
            have kp99 := kpl.trans (hk99.mono (ms' := uM) (fun x hx => by cases List.mem_singleton.mp hx; decide))
            have jm99 := (jl.1).kept htx hk99 (by decide) (by decide) (by decide)
            have fr99 : ∀ p9 : Nat, p9 ∉ [tx] → H99[p9]? = s.heap[p9]? := fun p9 h9 => (hq99 p9 (fun e9 => h9 (by rw [e9]; exact List.mem_cons_self))).trans (frl p9 h9)
            refine ff_iinc (k := 2) hx hb (eX0_part (60, .iinc 3 1, 3) (List.mem_of_getElem? (i := 35) rfl)) hl95 rfl (by decide) (by decide) (by decide) (by omega) (by omega) (fun v100 e100 ls100 hl100 => ?_)
            refine lv_goto hx hb (eX0_part (63, .goto (-45), 3) (List.mem_of_getElem? (i := 36) rfl)) (tgt := 18) rfl ?_
            exact ih (i + 1) (k + 1) v100 v93 v95 (g.1 + 1, g.2) ls100 _ _ (by omega) (by omega) (by omega) (by omega) ⟨by omega, by show _ ≤ nB k * 10 + 9; omega⟩ (by rw [← htot]; show _ = (if _ then _ else _ : (Int × Int) × uS); rw [if_neg (by omega), if_pos (by omega), show v93.toInt = vv.toInt * 10 + dgF T g by omega] <;> rfl) hh99 kp99 ⟨jm99, ⟨_, _, _, hf99, mf99_tx_3, mf99_tx_4, by show _ = g.1 + 1; omega, by assumption, by assumption⟩, by unfold uOK; dsimp only; omega⟩ fr99 (lv_sub hl100 [0, 2, 1, 3] rfl)
    exact loop 120 0 0 v57 v53 v55 g0 ls58 _ _ (by omega) (by omega) (by omega) (by omega) ⟨by omega, by show _ ≤ (0 : Int); omega⟩ (by rw [show v53.toInt = 0 by omega] <;> rfl) hh52 kp52 jg0 fr52 (lv_sub hl58 [0, 2, 1, 3] rfl)
