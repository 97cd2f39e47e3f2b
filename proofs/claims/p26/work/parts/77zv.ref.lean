set_option maxRecDepth 100000 in
set_option maxHeartbeats 4000000 in
theorem hX12_ruleName (l : Launch) (D : va_G) (cA : Nat → ClassId) (ro : Nat → Option Nat) (sz : Nat) (H0 : Heap) (a : Nat)  (T : List Int) (sg : uS) (ha : ro a = some 11)  : Met l yX12_ruleName (gW yX12_ruleName cX12_ruleName 2 none) { frames := 3, cells := 0, slots := 0, locals := 63 } (zs_P D cA ro sz H0 (fun H => jV D cA ro H a T sg) [.ref a]) (kv_V D cA ro sz H0 vM a T (nameG T sg)) 0 0 (zy_fr sz) := by
  refine zy_ofW (cc := cX12_ruleName) (maxL := 2) (ret := none) (by decide +kernel) rfl ?_
  intro p e s m args below meth c s1 B hml hv
  obtain ⟨rfl, hh, hKn, hJ⟩ := hv
  have hx := B.exec
  have hb := B.bytes
  have hr := B.returns
  have hlk := B.notSynchronized
  have hts0 := atoms_spec (ws := gW yX12_ruleName cX12_ruleName 2 none) B.pre
  have h2 : ∀ w ∈ gT, w.before ([.ref a] : List Value).toArray s = true := fun w hw => hts0 w (List.mem_cons_of_mem _ hw)
  have hown : s.vm.findClass RX12 = some m.cls := findClass_of_methodNamed B.named
  have hl := lv_entry [.ref a] (n := 2) (Nat.le_of_ble_eq_true rfl)
  rw [lg_entry_eq]
  generalize (lg_sl [.ref a] ++ List.replicate (2 - (lg_sl [.ref a]).length) Slot.unset).toArray = ls at hl ⊢
  have hD := zD_all h2 hKn.1
  have hcl11 := fun (idx k : Nat) (t : zt_T) (h : (idx, 11, k) ∈ gfX12) (hk : fsX12[k]? = some t) => zf_clause (ro := ro) (ms := vM) h2 hown hKn.1 gfX12_ok (by decide +kernel) idx 11 k 11 0 fsX12 t h rfl hk
  have kp0 : zc_kept D RTg ro vM s.heap s.heap := zc_kept.refl
  obtain ⟨hjt, ⟨av, fv, bv, f29, f30, f31, hav, hfv, hbv⟩, hu⟩ := id hJ
  obtain ⟨tb, n, z, f12, r0, f13, hn, hc, hz⟩ := id hjt
  obtain ⟨n9, g9, n1, n2⟩ := zh_fT (k := 13) (t := (0, 0, 120)) hh ha (show RTg[11]? = some (0, 11, 0, fsX12) from rfl) rfl
  cases f13.symm.trans g9
  dsimp only at n1 n2
  clear g9
  obtain ⟨-, z9, c9, hy9⟩ := zh_arr hh r0 (show RTg[30]? = some (1, 2, 120, [(0, (-128), 127)]) from rfl)
  have hy : ∀ i, i < 120 → zt_ok ro (z i) (0, (-128), 127) := zs_arr (hc.symm.trans c9) hy9
  obtain ⟨u1, u2, u3, u4⟩ := id hu
  refine lv_aload_n hx hb (eX12_ruleName (0, .aload_n 0, 1) (List.mem_of_getElem? (i := 0) rfl)) rfl (lv_at hl 0 rfl) ?_
  refine ff_bipush hx hb (eX12_ruleName (1, .bipush 60, 2) (List.mem_of_getElem? (i := 1) rfl)) (by decide) (by decide) (fun v1 e1 => ?_)
  refine tz_rowV (As := [.int v1]) (st := []) (b := a) (C := RX12) (Ts := gT) hx hb hml hown h2 (fun _ h => h) (hX12_takes l D cA ro sz H0 a v1 60 T (sg) ha (by omega) (by decide)) ⟨rfl, rfl⟩ ⟨by decide, by decide⟩ ⟨by decide, by decide⟩ (tb_8 13 rfl rfl) (tb_1 12 rfl rfl) (tb_8 10 rfl rfl) (tb_8 12 rfl rfl) (tb_0 30 rfl rfl) (show yX12_takes.cls ≠ "java/lang/invoke/MethodHandle" ∧ yX12_takes.cls ≠ "java/lang/invoke/VarHandle" ∧ (parseMethodDescriptor yX12_takes.desc).map (fun d => d.parameters.length) = some 1 by decide +kernel) zs_blind (zs_ob hh ha (show RTg[11]? = some (0, 11, 0, fsX12) from rfl) (zCX12 hKn.1)) (fun U hU hW => ⟨rfl, by rw [hU]; exact hh.l0, zKb s U hW.alike hKn, by rw [hU]; exact hJ⟩) hh.2.2.1 hl.1 (Nat.le_of_ble_eq_true rfl) (eX12_ruleName (3, .invokevirtual 313, 3) (List.mem_of_getElem? (i := 2) rfl)) (fun r2 s2 t2 lo2 g2 f2 l2 => ?_)
  obtain ⟨v2, q2, e2, z2, c2, j2⟩ := f2
  cases q2
  rw [g2] at c2
  have hh2 : zh_ok D cA RTg ro sz H0 t2.heap lo2 := ⟨z2.1, z2.2.1, l2, z2.2.2.2⟩
  have kp2 := kp0.trans (c2.mono (ms' := vM) (by decide))
  have kf2 := tkG_01 T 60 sg
  generalize hx2 : tkG T 60 sg = x2 at j2 e2 kf2
  have uu2 := j2.2.2
  unfold vOK at uu2
  have mf2_a_12 := (c2.1 a 11 12 11 0 fsX12 ha rfl (by decide) (by decide)).trans f12
  have mf2_a_13 := (c2.1 a 11 13 11 0 fsX12 ha rfl (by decide) (by decide)).trans f13
  refine W.eq (g2 := F0 m 6 ls [.int v2]) rfl ?_
  refine ff_if_eq hx hb (eX12_ruleName (6, .ifCond .eq 81, 3) (List.mem_of_getElem? (i := 3) rfl)) (tgt := 87) rfl (fun c3 => ?_) (fun c3 => ?_)
  · skip
    refine ff_iconst hx hb (eX12_ruleName (87, .iconst 0, 1) (List.mem_of_getElem? (i := 42) rfl)) (by decide) (by decide) (fun v4 e4 => ?_)
    refine lv_istore_n hx hb (eX12_ruleName (88, .istore_n 1, 1) (List.mem_of_getElem? (i := 43) rfl)) rfl hl (by decide) rfl (fun ls5 hl5 => ?_)
    have loop89 : ∀ (n0 : Nat) (i : Int) (sv : Int32) (g : uS) (ls : Array Slot) (H : Heap) (lo0 : List Loc), i + n0 = 8 → sv.toInt = i → 0 ≤ i → nlG T 0 n0 sv.toInt g = nlG T 0 8 0 x2.2 → zh_ok D cA RTg ro sz H0 H lo0 → zc_kept D RTg ro vM s.heap H → jV D cA ro H a T g → lv_has ls 2 [(1, .int sv), (0, .ref a)] → W p l e (headSpec (gW yX12_ruleName cX12_ruleName 2 none) { frames := 3, cells := 0, slots := 0, locals := 63 }).room s m ([.ref a] : List Value).toArray below meth c H lo0 0 0 (MQ below (kv_V D cA ro sz H0 vM a T (nameG T sg)) ([.ref a] : List Value).toArray s 0 0 (zy_fr sz)) (F0 m 89 ls []) := by
      intro n0
      induction n0 with
      | zero =>
        intro i sv g ls H lo0 hi hsv hi0 htot hh0 kpl jl hl
        have hul := jl.2.2
        unfold vOK at hul
        refine lv_iload_n hx hb (eX12_ruleName (89, .iload_n 1, 1) (List.mem_of_getElem? (i := 44) rfl)) rfl (lv_at hl 0 rfl) ?_
        refine ff_bipush hx hb (eX12_ruleName (90, .bipush 8, 2) (List.mem_of_getElem? (i := 45) rfl)) (by decide) (by decide) (fun v6 e6 => ?_)
        refine ff_icmp_ge hx hb (eX12_ruleName (92, .if_icmp .ge 29, 3) (List.mem_of_getElem? (i := 46) rfl)) (tgt := 121) rfl (fun c7 => ?_) (fun c7 => (by exfalso; omega))
        have hy : nlG T 0 8 0 x2.2 = (sv.toInt, g) := by rw [← htot]; rfl
        refine lv_iload_n hx hb (eX12_ruleName (121, .iload_n 1, 1) (List.mem_of_getElem? (i := 59) rfl)) rfl (lv_at hl 0 rfl) ?_
        refine ff_iconst hx hb (eX12_ruleName (122, .iconst 3, 1) (List.mem_of_getElem? (i := 60) rfl)) (by decide) (by decide) (fun v8 e8 => ?_)
        refine ff_icmp_ge hx hb (eX12_ruleName (123, .if_icmp .ge 7, 3) (List.mem_of_getElem? (i := 61) rfl)) (tgt := 130) rfl (fun c9 => ?_) (fun c9 => ?_)
        · skip
          have h3 : ¬ sv.toInt < 3 := by omega
          have hfin : nameG T sg = g := by rw [nameG_eq, hx2, if_neg (by omega), hy]; simp only [f3G, if_neg h3]
          exact W.vret hx hb hr (fun t ht hW => ⟨rfl, by rw [ht]; exact hh0.l0, by rw [ht]; exact kpl, by rw [ht, hfin]; exact jl⟩) hh0.2.2.1 (eX12_ruleName (130, .return_, 1) (List.mem_of_getElem? (i := 64) rfl))
        · skip
          have h3 : sv.toInt < 3 := by omega
          refine lv_aload_n hx hb (eX12_ruleName (126, .aload_n 0, 1) (List.mem_of_getElem? (i := 62) rfl)) rfl (lv_at hl 1 rfl) ?_
          refine tz_rowV (As := []) (st := []) (b := a) (C := RX12) (Ts := gT) hx hb hml hown h2 (fun _ h => h) (hX12_fail l D cA ro sz H0 a T (g) ha) ⟨rfl, rfl⟩ ⟨by decide, by decide⟩ ⟨by decide, by decide⟩ (tb_8 31 rfl rfl) (tb_1 12 rfl rfl) (tb_8 28 rfl rfl) (tb_8 30 rfl rfl) (tb_0 33 rfl rfl) (show yX12_fail.cls ≠ "java/lang/invoke/MethodHandle" ∧ yX12_fail.cls ≠ "java/lang/invoke/VarHandle" ∧ (parseMethodDescriptor yX12_fail.desc).map (fun d => d.parameters.length) = some 0 by decide +kernel) zs_blind (zs_ob hh0 ha (show RTg[11]? = some (0, 11, 0, fsX12) from rfl) (zCX12 hKn.1)) (fun U hU hW => ⟨rfl, by rw [hU]; exact hh0.l0, zKb s U hW.alike hKn, by rw [hU]; exact jl⟩) hh0.2.2.1 hl.1 (Nat.le_of_ble_eq_true rfl) (eX12_ruleName (127, .invokevirtual 316, 3) (List.mem_of_getElem? (i := 63) rfl)) (fun r10 s10 t10 lo10 g10 f10 l10 => ?_)
          obtain ⟨q10, z10, c10, j10⟩ := f10
          cases q10
          rw [g10] at c10
          have hh10 : zh_ok D cA RTg ro sz H0 t10.heap lo10 := ⟨z10.1, z10.2.1, l10, z10.2.2.2⟩
          have kp10 := kpl.trans (c10.mono (ms' := vM) (by decide))
          generalize hx10 : flG g = x10 at j10
          have uu10 := j10.2.2
          unfold vOK at uu10
          refine W.eq (g2 := F0 m 130 ls []) rfl ?_
          have hfin : nameG T sg = x10 := by rw [nameG_eq, hx2, if_neg (by omega), hy]; simp only [f3G, if_pos h3, hx10]
          exact W.vret hx hb hr (fun t ht hW => ⟨rfl, by rw [ht]; exact hh10.l0, by rw [ht]; exact kp10, by rw [ht, hfin]; exact j10⟩) hh10.2.2.1 (eX12_ruleName (130, .return_, 1) (List.mem_of_getElem? (i := 64) rfl))
      | succ n0 ih =>
        intro i sv g ls H lo0 hi hsv hi0 htot hh0 kpl jl hl
        have hul := jl.2.2
        unfold vOK at hul
        refine lv_iload_n hx hb (eX12_ruleName (89, .iload_n 1, 1) (List.mem_of_getElem? (i := 44) rfl)) rfl (lv_at hl 0 rfl) ?_
        refine ff_bipush hx hb (eX12_ruleName (90, .bipush 8, 2) (List.mem_of_getElem? (i := 45) rfl)) (by decide) (by decide) (fun v11 e11 => ?_)
        refine ff_icmp_ge hx hb (eX12_ruleName (92, .if_icmp .ge 29, 3) (List.mem_of_getElem? (i := 46) rfl)) (tgt := 121) rfl (fun c12 => (by exfalso; omega)) (fun c12 => ?_)
        refine lv_aload_n hx hb (eX12_ruleName (95, .aload_n 0, 1) (List.mem_of_getElem? (i := 47) rfl)) rfl (lv_at hl 1 rfl) ?_
        refine tz_rowV (As := []) (st := []) (b := a) (C := RX12) (Ts := gT) hx hb hml hown h2 (fun _ h => h) (hX12_sign l D cA ro sz H0 a T (g) ha) ⟨rfl, rfl⟩ ⟨by decide, by decide⟩ ⟨by decide, by decide⟩ (tb_8 21 rfl rfl) (tb_1 12 rfl rfl) (tb_8 18 rfl rfl) (tb_8 20 rfl rfl) (tb_0 32 rfl rfl) (show yX12_sign.cls ≠ "java/lang/invoke/MethodHandle" ∧ yX12_sign.cls ≠ "java/lang/invoke/VarHandle" ∧ (parseMethodDescriptor yX12_sign.desc).map (fun d => d.parameters.length) = some 0 by decide +kernel) zs_blind (zs_ob hh0 ha (show RTg[11]? = some (0, 11, 0, fsX12) from rfl) (zCX12 hKn.1)) (fun U hU hW => ⟨rfl, by rw [hU]; exact hh0.l0, zKb s U hW.alike hKn, by rw [hU]; exact jl⟩) hh0.2.2.1 hl.1 (Nat.le_of_ble_eq_true rfl) (eX12_ruleName (96, .invokevirtual 309, 3) (List.mem_of_getElem? (i := 48) rfl)) (fun r13 s13 t13 lo13 g13 f13 l13 => ?_)
        obtain ⟨z13, v13, q13, e13⟩ := f13
        cases q13
        rw [z13, g13]
        have hh13 : zh_ok D cA RTg ro sz H0 H lo13 := ⟨hh0.1, hh0.2.1, l13, hh0.2.2.2⟩
        refine W.eq (g2 := F0 m 99 ls [.int v13]) rfl ?_
        refine zu_S (vs := [.int v13]) (rest := []) hx hb hml hown hts0 zu_BT (hX12_isLetter l v13) ⟨rfl, rfl⟩ ⟨by decide, by decide⟩ ⟨by decide, by decide⟩ (tb_8 24 rfl rfl) (tb_1 12 rfl rfl) (tb_8 22 rfl rfl) (tb_8 23 rfl rfl) (show yX12_isLetter.cls ≠ "java/lang/invoke/MethodHandle" ∧ yX12_isLetter.cls ≠ "java/lang/invoke/VarHandle" ∧ (parseMethodDescriptor yX12_isLetter.desc).map (fun d => d.parameters.length) = some 1 by decide +kernel) rfl (fun _ _ _ => trivial) hl.1 (Nat.le_of_ble_eq_true rfl) (eX12_ruleName (99, .invokestatic 322, 3) (List.mem_of_getElem? (i := 49) rfl)) (fun w14 f14 => ?_)
        obtain ⟨v14, rfl, e14⟩ := f14
        refine ff_if_eq hx hb (eX12_ruleName (102, .ifCond .eq 19, 3) (List.mem_of_getElem? (i := 50) rfl)) (tgt := 121) rfl (fun c15 => ?_) (fun c15 => ?_)
        · skip
          have hN : ¬ isN 0 (byI T g.1) := fun q => by rcases q with q | ⟨q1, q2⟩; (rcases e14 with h | h; exfalso; omega; rw [← e13] at q; exact h.2 q); (exfalso; omega)
          have hy : nlG T 0 8 0 x2.2 = (sv.toInt, g) := by rw [← htot]; show (if _ then _ else _ : Int × uS) = _; rw [if_neg hN]
          refine lv_iload_n hx hb (eX12_ruleName (121, .iload_n 1, 1) (List.mem_of_getElem? (i := 59) rfl)) rfl (lv_at hl 0 rfl) ?_
          refine ff_iconst hx hb (eX12_ruleName (122, .iconst 3, 1) (List.mem_of_getElem? (i := 60) rfl)) (by decide) (by decide) (fun v16 e16 => ?_)
          refine ff_icmp_ge hx hb (eX12_ruleName (123, .if_icmp .ge 7, 3) (List.mem_of_getElem? (i := 61) rfl)) (tgt := 130) rfl (fun c17 => ?_) (fun c17 => ?_)
          · skip
            have h3 : ¬ sv.toInt < 3 := by omega
            have hfin : nameG T sg = g := by rw [nameG_eq, hx2, if_neg (by omega), hy]; simp only [f3G, if_neg h3]
            exact W.vret hx hb hr (fun t ht hW => ⟨rfl, by rw [ht]; exact hh13.l0, by rw [ht]; exact kpl, by rw [ht, hfin]; exact jl⟩) hh13.2.2.1 (eX12_ruleName (130, .return_, 1) (List.mem_of_getElem? (i := 64) rfl))
          · skip
            have h3 : sv.toInt < 3 := by omega
            refine lv_aload_n hx hb (eX12_ruleName (126, .aload_n 0, 1) (List.mem_of_getElem? (i := 62) rfl)) rfl (lv_at hl 1 rfl) ?_
            refine tz_rowV (As := []) (st := []) (b := a) (C := RX12) (Ts := gT) hx hb hml hown h2 (fun _ h => h) (hX12_fail l D cA ro sz H0 a T (g) ha) ⟨rfl, rfl⟩ ⟨by decide, by decide⟩ ⟨by decide, by decide⟩ (tb_8 31 rfl rfl) (tb_1 12 rfl rfl) (tb_8 28 rfl rfl) (tb_8 30 rfl rfl) (tb_0 33 rfl rfl) (show yX12_fail.cls ≠ "java/lang/invoke/MethodHandle" ∧ yX12_fail.cls ≠ "java/lang/invoke/VarHandle" ∧ (parseMethodDescriptor yX12_fail.desc).map (fun d => d.parameters.length) = some 0 by decide +kernel) zs_blind (zs_ob hh13 ha (show RTg[11]? = some (0, 11, 0, fsX12) from rfl) (zCX12 hKn.1)) (fun U hU hW => ⟨rfl, by rw [hU]; exact hh13.l0, zKb s U hW.alike hKn, by rw [hU]; exact jl⟩) hh13.2.2.1 hl.1 (Nat.le_of_ble_eq_true rfl) (eX12_ruleName (127, .invokevirtual 316, 3) (List.mem_of_getElem? (i := 63) rfl)) (fun r18 s18 t18 lo18 g18 f18 l18 => ?_)
            obtain ⟨q18, z18, c18, j18⟩ := f18
            cases q18
            rw [g18] at c18
            have hh18 : zh_ok D cA RTg ro sz H0 t18.heap lo18 := ⟨z18.1, z18.2.1, l18, z18.2.2.2⟩
            have kp18 := kpl.trans (c18.mono (ms' := vM) (by decide))
            generalize hx18 : flG g = x18 at j18
            have uu18 := j18.2.2
            unfold vOK at uu18
            refine W.eq (g2 := F0 m 130 ls []) rfl ?_
            have hfin : nameG T sg = x18 := by rw [nameG_eq, hx2, if_neg (by omega), hy]; simp only [f3G, if_pos h3, hx18]
            exact W.vret hx hb hr (fun t ht hW => ⟨rfl, by rw [ht]; exact hh18.l0, by rw [ht]; exact kp18, by rw [ht, hfin]; exact j18⟩) hh18.2.2.1 (eX12_ruleName (130, .return_, 1) (List.mem_of_getElem? (i := 64) rfl))
        · skip
          have hN : isN 0 (byI T g.1) := Or.inl (by rcases e14 with h | h; rw [← e13]; exact h.2; exfalso; omega)
          refine lv_aload_n hx hb (eX12_ruleName (105, .aload_n 0, 1) (List.mem_of_getElem? (i := 51) rfl)) rfl (lv_at hl 1 rfl) ?_
          refine lv_dup hx hb (eX12_ruleName (106, .dup, 1) (List.mem_of_getElem? (i := 52) rfl)) rfl ?_
          obtain ⟨jt19, ⟨av19, fv19, bv19, f2919, f3019, f3119, hav19, hfv19, hbv19⟩, hu19⟩ := id jl
          have hw19 := hu19
          unfold vOK at hw19
          obtain ⟨tb19, n19, z19, f1219, r019, f1319, hn19, hc19, hz19⟩ := id jt19
          refine tz_get (r := 11) (k := 29) (t := (0, 0, 120)) hx hb hh13 ha rfl rfl (hcl11 293 29 (0, 0, 120) (by decide) rfl).1 f2919 (eX12_ruleName (107, .getfield 293, 3) (List.mem_of_getElem? (i := 53) rfl)) ?_
          refine ff_iconst hx hb (eX12_ruleName (110, .iconst 1, 1) (List.mem_of_getElem? (i := 54) rfl)) (by decide) (by decide) (fun v20 e20 => ?_)
          refine ff_iadd hx hb (eX12_ruleName (111, .iadd, 1) (List.mem_of_getElem? (i := 55) rfl)) (by omega) (by omega) (fun v21 e21 => ?_)
          have hlt22 : 0 ≤ v21.toInt ∧ v21.toInt ≤ 120 := by first | omega | (have h9 := byI_lt (T := T) (a := g.1) (by omega) (by first | omega | exact isD_nn hdg | exact isN_nn hN); omega)
          refine tz_put (r := 11) (k := 29) (t := (0, 0, 120)) hx hb hD hh13 ha rfl rfl ((hcl11 293 29 (0, 0, 120) (by decide) rfl).2 (by decide)) (tz_i (by omega) (by omega)) (eX12_ruleName (112, .putfield 293, 3) (List.mem_of_getElem? (i := 56) rfl)) (fun H23 lo23 hh23 hf23 hk23 _ hq23 => ?_)
          have mf23_a_30 := (hk23.1 a 11 30 11 0 fsX12 ha rfl (by decide) (by decide)).trans f3019
          have mf23_a_31 := (hk23.1 a 11 31 11 0 fsX12 ha rfl (by decide) (by decide)).trans f3119
          have mf23_a_13 := (hk23.1 a 11 13 11 0 fsX12 ha rfl (by decide) (by decide)).trans f1319
          have kp23 := kpl.trans (hk23.mono (ms' := vM) (fun x hx => by cases List.mem_singleton.mp hx; decide))
          have jm23 := (jl.1).kept ha hk23 (by decide) (by decide) (by decide)
          refine ff_iinc (k := 0) hx hb (eX12_ruleName (115, .iinc 1 1, 3) (List.mem_of_getElem? (i := 57) rfl)) hl rfl (by decide) (by decide) (by decide) (by omega) (by omega) (fun v24 e24 ls24 hl24 => ?_)
          refine lv_goto hx hb (eX12_ruleName (118, .goto (-29), 3) (List.mem_of_getElem? (i := 58) rfl)) (tgt := 89) rfl ?_
          exact ih (i + 1) v24 (g.1 + 1, g.2) ls24 _ _ (by omega) (by omega) (by omega) (by rw [← htot]; show _ = (if _ then _ else _ : Int × uS); rw [if_pos hN, show v24.toInt = sv.toInt + 1 by omega]) hh23 kp23 ⟨jm23, ⟨_, _, _, hf23, mf23_a_30, mf23_a_31, by show _ = g.1 + 1; omega, by first | assumption | omega, by first | assumption | omega⟩, adG_ok jl.2.2 (isN_nn hN)⟩ (lv_sub hl24 [0, 1] rfl)
    exact loop89 8 0 v4 x2.2 ls5 _ _ (by omega) (by omega) (by omega) (by rw [show v4.toInt = 0 by omega]) hh2 kp2 j2 (lv_sub hl5 [0, 1] rfl)
  · skip
    refine ff_iconst hx hb (eX12_ruleName (9, .iconst 0, 1) (List.mem_of_getElem? (i := 4) rfl)) (by decide) (by decide) (fun v25 e25 => ?_)
    refine lv_istore_n hx hb (eX12_ruleName (10, .istore_n 1, 1) (List.mem_of_getElem? (i := 5) rfl)) rfl hl (by decide) rfl (fun ls26 hl26 => ?_)
    have loop11 : ∀ (n0 : Nat) (i : Int) (sv : Int32) (g : uS) (ls : Array Slot) (H : Heap) (lo0 : List Loc), i + n0 = 8 → sv.toInt = i → 0 ≤ i → nlG T 1 n0 sv.toInt g = nlG T 1 8 0 x2.2 → zh_ok D cA RTg ro sz H0 H lo0 → zc_kept D RTg ro vM s.heap H → jV D cA ro H a T g → lv_has ls 2 [(1, .int sv), (0, .ref a)] → W p l e (headSpec (gW yX12_ruleName cX12_ruleName 2 none) { frames := 3, cells := 0, slots := 0, locals := 63 }).room s m ([.ref a] : List Value).toArray below meth c H lo0 0 0 (MQ below (kv_V D cA ro sz H0 vM a T (nameG T sg)) ([.ref a] : List Value).toArray s 0 0 (zy_fr sz)) (F0 m 11 ls []) := by
      intro n0
      induction n0 with
      | zero =>
        intro i sv g ls H lo0 hi hsv hi0 htot hh0 kpl jl hl
        have hul := jl.2.2
        unfold vOK at hul
        refine lv_iload_n hx hb (eX12_ruleName (11, .iload_n 1, 1) (List.mem_of_getElem? (i := 6) rfl)) rfl (lv_at hl 0 rfl) ?_
        refine ff_bipush hx hb (eX12_ruleName (12, .bipush 8, 2) (List.mem_of_getElem? (i := 7) rfl)) (by decide) (by decide) (fun v27 e27 => ?_)
        refine ff_icmp_ge hx hb (eX12_ruleName (14, .if_icmp .ge 57, 3) (List.mem_of_getElem? (i := 8) rfl)) (tgt := 71) rfl (fun c28 => ?_) (fun c28 => (by exfalso; omega))
        have hy : nlG T 1 8 0 x2.2 = (sv.toInt, g) := by rw [← htot]; rfl
        refine lv_iload_n hx hb (eX12_ruleName (71, .iload_n 1, 1) (List.mem_of_getElem? (i := 33) rfl)) rfl (lv_at hl 0 rfl) ?_
        refine ff_iconst hx hb (eX12_ruleName (72, .iconst 3, 1) (List.mem_of_getElem? (i := 34) rfl)) (by decide) (by decide) (fun v29 e29 => ?_)
        refine ff_icmp_ge hx hb (eX12_ruleName (73, .if_icmp .ge 7, 3) (List.mem_of_getElem? (i := 35) rfl)) (tgt := 80) rfl (fun c30 => ?_) (fun c30 => ?_)
        · skip
          have h3 : ¬ sv.toInt < 3 := by omega
          refine lv_aload_n hx hb (eX12_ruleName (80, .aload_n 0, 1) (List.mem_of_getElem? (i := 38) rfl)) rfl (lv_at hl 1 rfl) ?_
          refine ff_bipush hx hb (eX12_ruleName (81, .bipush 62, 2) (List.mem_of_getElem? (i := 39) rfl)) (by decide) (by decide) (fun v31 e31 => ?_)
          refine tz_rowV (As := [.int v31]) (st := []) (b := a) (C := RX12) (Ts := gT) hx hb hml hown h2 (fun _ h => h) (hX12_expect l D cA ro sz H0 a v31 62 T (g) ha (by omega) (by decide)) ⟨rfl, rfl⟩ ⟨by decide, by decide⟩ ⟨by decide, by decide⟩ (tb_8 35 rfl rfl) (tb_1 12 rfl rfl) (tb_8 32 rfl rfl) (tb_8 34 rfl rfl) (tb_0 34 rfl rfl) (show yX12_expect.cls ≠ "java/lang/invoke/MethodHandle" ∧ yX12_expect.cls ≠ "java/lang/invoke/VarHandle" ∧ (parseMethodDescriptor yX12_expect.desc).map (fun d => d.parameters.length) = some 1 by decide +kernel) zs_blind (zs_ob hh0 ha (show RTg[11]? = some (0, 11, 0, fsX12) from rfl) (zCX12 hKn.1)) (fun U hU hW => ⟨rfl, by rw [hU]; exact hh0.l0, zKb s U hW.alike hKn, by rw [hU]; exact jl⟩) hh0.2.2.1 hl.1 (Nat.le_of_ble_eq_true rfl) (eX12_ruleName (83, .invokevirtual 325, 3) (List.mem_of_getElem? (i := 40) rfl)) (fun r32 s32 t32 lo32 g32 f32 l32 => ?_)
          obtain ⟨q32, z32, c32, j32⟩ := f32
          cases q32
          rw [g32] at c32
          have hh32 : zh_ok D cA RTg ro sz H0 t32.heap lo32 := ⟨z32.1, z32.2.1, l32, z32.2.2.2⟩
          have kp32 := kpl.trans (c32.mono (ms' := vM) (by decide))
          generalize hx32 : exG T 62 g = x32 at j32
          have uu32 := j32.2.2
          unfold vOK at uu32
          refine W.eq (g2 := F0 m 86 ls []) rfl ?_
          have hfin : nameG T sg = x32 := by rw [nameG_eq, hx2, if_pos (by omega), hy]; simp only [f3G, if_neg h3, hx32]
          exact W.vret hx hb hr (fun t ht hW => ⟨rfl, by rw [ht]; exact hh32.l0, by rw [ht]; exact kp32, by rw [ht, hfin]; exact j32⟩) hh32.2.2.1 (eX12_ruleName (86, .return_, 1) (List.mem_of_getElem? (i := 41) rfl))
        · skip
          have h3 : sv.toInt < 3 := by omega
          refine lv_aload_n hx hb (eX12_ruleName (76, .aload_n 0, 1) (List.mem_of_getElem? (i := 36) rfl)) rfl (lv_at hl 1 rfl) ?_
          refine tz_rowV (As := []) (st := []) (b := a) (C := RX12) (Ts := gT) hx hb hml hown h2 (fun _ h => h) (hX12_fail l D cA ro sz H0 a T (g) ha) ⟨rfl, rfl⟩ ⟨by decide, by decide⟩ ⟨by decide, by decide⟩ (tb_8 31 rfl rfl) (tb_1 12 rfl rfl) (tb_8 28 rfl rfl) (tb_8 30 rfl rfl) (tb_0 33 rfl rfl) (show yX12_fail.cls ≠ "java/lang/invoke/MethodHandle" ∧ yX12_fail.cls ≠ "java/lang/invoke/VarHandle" ∧ (parseMethodDescriptor yX12_fail.desc).map (fun d => d.parameters.length) = some 0 by decide +kernel) zs_blind (zs_ob hh0 ha (show RTg[11]? = some (0, 11, 0, fsX12) from rfl) (zCX12 hKn.1)) (fun U hU hW => ⟨rfl, by rw [hU]; exact hh0.l0, zKb s U hW.alike hKn, by rw [hU]; exact jl⟩) hh0.2.2.1 hl.1 (Nat.le_of_ble_eq_true rfl) (eX12_ruleName (77, .invokevirtual 316, 3) (List.mem_of_getElem? (i := 37) rfl)) (fun r33 s33 t33 lo33 g33 f33 l33 => ?_)
          obtain ⟨q33, z33, c33, j33⟩ := f33
          cases q33
          rw [g33] at c33
          have hh33 : zh_ok D cA RTg ro sz H0 t33.heap lo33 := ⟨z33.1, z33.2.1, l33, z33.2.2.2⟩
          have kp33 := kpl.trans (c33.mono (ms' := vM) (by decide))
          generalize hx33 : flG g = x33 at j33
          have uu33 := j33.2.2
          unfold vOK at uu33
          refine W.eq (g2 := F0 m 80 ls []) rfl ?_
          refine lv_aload_n hx hb (eX12_ruleName (80, .aload_n 0, 1) (List.mem_of_getElem? (i := 38) rfl)) rfl (lv_at hl 1 rfl) ?_
          refine ff_bipush hx hb (eX12_ruleName (81, .bipush 62, 2) (List.mem_of_getElem? (i := 39) rfl)) (by decide) (by decide) (fun v34 e34 => ?_)
          refine tz_rowV (As := [.int v34]) (st := []) (b := a) (C := RX12) (Ts := gT) hx hb hml hown h2 (fun _ h => h) (hX12_expect l D cA ro sz H0 a v34 62 T (x33) ha (by omega) (by decide)) ⟨rfl, rfl⟩ ⟨by decide, by decide⟩ ⟨by decide, by decide⟩ (tb_8 35 rfl rfl) (tb_1 12 rfl rfl) (tb_8 32 rfl rfl) (tb_8 34 rfl rfl) (tb_0 34 rfl rfl) (show yX12_expect.cls ≠ "java/lang/invoke/MethodHandle" ∧ yX12_expect.cls ≠ "java/lang/invoke/VarHandle" ∧ (parseMethodDescriptor yX12_expect.desc).map (fun d => d.parameters.length) = some 1 by decide +kernel) zs_blind (zs_ob hh33 ha (show RTg[11]? = some (0, 11, 0, fsX12) from rfl) (zCX12 hKn.1)) (fun U hU hW => ⟨rfl, by rw [hU]; exact hh33.l0, zKb s U hW.alike hKn, by rw [hU]; exact j33⟩) hh33.2.2.1 hl.1 (Nat.le_of_ble_eq_true rfl) (eX12_ruleName (83, .invokevirtual 325, 3) (List.mem_of_getElem? (i := 40) rfl)) (fun r35 s35 t35 lo35 g35 f35 l35 => ?_)
          obtain ⟨q35, z35, c35, j35⟩ := f35
          cases q35
          rw [g35] at c35
          have hh35 : zh_ok D cA RTg ro sz H0 t35.heap lo35 := ⟨z35.1, z35.2.1, l35, z35.2.2.2⟩
          have kp35 := kp33.trans (c35.mono (ms' := vM) (by decide))
          generalize hx35 : exG T 62 x33 = x35 at j35
          have uu35 := j35.2.2
          unfold vOK at uu35
          refine W.eq (g2 := F0 m 86 ls []) rfl ?_
          have hfin : nameG T sg = x35 := by rw [nameG_eq, hx2, if_pos (by omega), hy]; simp only [f3G, if_pos h3, hx33, hx35]
          exact W.vret hx hb hr (fun t ht hW => ⟨rfl, by rw [ht]; exact hh35.l0, by rw [ht]; exact kp35, by rw [ht, hfin]; exact j35⟩) hh35.2.2.1 (eX12_ruleName (86, .return_, 1) (List.mem_of_getElem? (i := 41) rfl))
      | succ n0 ih =>
        intro i sv g ls H lo0 hi hsv hi0 htot hh0 kpl jl hl
        have hul := jl.2.2
        unfold vOK at hul
        refine lv_iload_n hx hb (eX12_ruleName (11, .iload_n 1, 1) (List.mem_of_getElem? (i := 6) rfl)) rfl (lv_at hl 0 rfl) ?_
        refine ff_bipush hx hb (eX12_ruleName (12, .bipush 8, 2) (List.mem_of_getElem? (i := 7) rfl)) (by decide) (by decide) (fun v36 e36 => ?_)
        refine ff_icmp_ge hx hb (eX12_ruleName (14, .if_icmp .ge 57, 3) (List.mem_of_getElem? (i := 8) rfl)) (tgt := 71) rfl (fun c37 => (by exfalso; omega)) (fun c37 => ?_)
        refine lv_aload_n hx hb (eX12_ruleName (17, .aload_n 0, 1) (List.mem_of_getElem? (i := 9) rfl)) rfl (lv_at hl 1 rfl) ?_
        refine tz_rowV (As := []) (st := []) (b := a) (C := RX12) (Ts := gT) hx hb hml hown h2 (fun _ h => h) (hX12_sign l D cA ro sz H0 a T (g) ha) ⟨rfl, rfl⟩ ⟨by decide, by decide⟩ ⟨by decide, by decide⟩ (tb_8 21 rfl rfl) (tb_1 12 rfl rfl) (tb_8 18 rfl rfl) (tb_8 20 rfl rfl) (tb_0 32 rfl rfl) (show yX12_sign.cls ≠ "java/lang/invoke/MethodHandle" ∧ yX12_sign.cls ≠ "java/lang/invoke/VarHandle" ∧ (parseMethodDescriptor yX12_sign.desc).map (fun d => d.parameters.length) = some 0 by decide +kernel) zs_blind (zs_ob hh0 ha (show RTg[11]? = some (0, 11, 0, fsX12) from rfl) (zCX12 hKn.1)) (fun U hU hW => ⟨rfl, by rw [hU]; exact hh0.l0, zKb s U hW.alike hKn, by rw [hU]; exact jl⟩) hh0.2.2.1 hl.1 (Nat.le_of_ble_eq_true rfl) (eX12_ruleName (18, .invokevirtual 309, 3) (List.mem_of_getElem? (i := 10) rfl)) (fun r38 s38 t38 lo38 g38 f38 l38 => ?_)
        obtain ⟨z38, v38, q38, e38⟩ := f38
        cases q38
        rw [z38, g38]
        have hh38 : zh_ok D cA RTg ro sz H0 H lo38 := ⟨hh0.1, hh0.2.1, l38, hh0.2.2.2⟩
        refine W.eq (g2 := F0 m 21 ls [.int v38]) rfl ?_
        refine zu_S (vs := [.int v38]) (rest := []) hx hb hml hown hts0 zu_BT (hX12_isLetter l v38) ⟨rfl, rfl⟩ ⟨by decide, by decide⟩ ⟨by decide, by decide⟩ (tb_8 24 rfl rfl) (tb_1 12 rfl rfl) (tb_8 22 rfl rfl) (tb_8 23 rfl rfl) (show yX12_isLetter.cls ≠ "java/lang/invoke/MethodHandle" ∧ yX12_isLetter.cls ≠ "java/lang/invoke/VarHandle" ∧ (parseMethodDescriptor yX12_isLetter.desc).map (fun d => d.parameters.length) = some 1 by decide +kernel) rfl (fun _ _ _ => trivial) hl.1 (Nat.le_of_ble_eq_true rfl) (eX12_ruleName (21, .invokestatic 322, 3) (List.mem_of_getElem? (i := 11) rfl)) (fun w39 f39 => ?_)
        obtain ⟨v39, rfl, e39⟩ := f39
        refine ff_if_ne hx hb (eX12_ruleName (24, .ifCond .ne 31, 3) (List.mem_of_getElem? (i := 12) rfl)) (tgt := 55) rfl (fun c40 => ?_) (fun c40 => ?_)
        · skip
          have hN : isN 1 (byI T g.1) := Or.inl (by rcases e39 with h | h; rw [← e38]; exact h.2; exfalso; omega)
          refine lv_aload_n hx hb (eX12_ruleName (55, .aload_n 0, 1) (List.mem_of_getElem? (i := 25) rfl)) rfl (lv_at hl 1 rfl) ?_
          refine lv_dup hx hb (eX12_ruleName (56, .dup, 1) (List.mem_of_getElem? (i := 26) rfl)) rfl ?_
          obtain ⟨jt41, ⟨av41, fv41, bv41, f2941, f3041, f3141, hav41, hfv41, hbv41⟩, hu41⟩ := id jl
          have hw41 := hu41
          unfold vOK at hw41
          obtain ⟨tb41, n41, z41, f1241, r041, f1341, hn41, hc41, hz41⟩ := id jt41
          refine tz_get (r := 11) (k := 29) (t := (0, 0, 120)) hx hb hh38 ha rfl rfl (hcl11 293 29 (0, 0, 120) (by decide) rfl).1 f2941 (eX12_ruleName (57, .getfield 293, 3) (List.mem_of_getElem? (i := 27) rfl)) ?_
          refine ff_iconst hx hb (eX12_ruleName (60, .iconst 1, 1) (List.mem_of_getElem? (i := 28) rfl)) (by decide) (by decide) (fun v42 e42 => ?_)
          refine ff_iadd hx hb (eX12_ruleName (61, .iadd, 1) (List.mem_of_getElem? (i := 29) rfl)) (by omega) (by omega) (fun v43 e43 => ?_)
          have hlt44 : 0 ≤ v43.toInt ∧ v43.toInt ≤ 120 := by first | omega | (have h9 := byI_lt (T := T) (a := g.1) (by omega) (by first | omega | exact isD_nn hdg | exact isN_nn hN); omega)
          refine tz_put (r := 11) (k := 29) (t := (0, 0, 120)) hx hb hD hh38 ha rfl rfl ((hcl11 293 29 (0, 0, 120) (by decide) rfl).2 (by decide)) (tz_i (by omega) (by omega)) (eX12_ruleName (62, .putfield 293, 3) (List.mem_of_getElem? (i := 30) rfl)) (fun H45 lo45 hh45 hf45 hk45 _ hq45 => ?_)
          have mf45_a_30 := (hk45.1 a 11 30 11 0 fsX12 ha rfl (by decide) (by decide)).trans f3041
          have mf45_a_31 := (hk45.1 a 11 31 11 0 fsX12 ha rfl (by decide) (by decide)).trans f3141
          have mf45_a_13 := (hk45.1 a 11 13 11 0 fsX12 ha rfl (by decide) (by decide)).trans f1341
          have kp45 := kpl.trans (hk45.mono (ms' := vM) (fun x hx => by cases List.mem_singleton.mp hx; decide))
          have jm45 := (jl.1).kept ha hk45 (by decide) (by decide) (by decide)
          refine ff_iinc (k := 0) hx hb (eX12_ruleName (65, .iinc 1 1, 3) (List.mem_of_getElem? (i := 31) rfl)) hl rfl (by decide) (by decide) (by decide) (by omega) (by omega) (fun v46 e46 ls46 hl46 => ?_)
          refine lv_goto hx hb (eX12_ruleName (68, .goto (-57), 3) (List.mem_of_getElem? (i := 32) rfl)) (tgt := 11) rfl ?_
          exact ih (i + 1) v46 (g.1 + 1, g.2) ls46 _ _ (by omega) (by omega) (by omega) (by rw [← htot]; show _ = (if _ then _ else _ : Int × uS); rw [if_pos hN, show v46.toInt = sv.toInt + 1 by omega]) hh45 kp45 ⟨jm45, ⟨_, _, _, hf45, mf45_a_30, mf45_a_31, by show _ = g.1 + 1; omega, by first | assumption | omega, by first | assumption | omega⟩, adG_ok jl.2.2 (isN_nn hN)⟩ (lv_sub hl46 [0, 1] rfl)
        · skip
          refine lv_aload_n hx hb (eX12_ruleName (27, .aload_n 0, 1) (List.mem_of_getElem? (i := 13) rfl)) rfl (lv_at hl 1 rfl) ?_
          refine tz_rowV (As := []) (st := []) (b := a) (C := RX12) (Ts := gT) hx hb hml hown h2 (fun _ h => h) (hX12_sign l D cA ro sz H0 a T (g) ha) ⟨rfl, rfl⟩ ⟨by decide, by decide⟩ ⟨by decide, by decide⟩ (tb_8 21 rfl rfl) (tb_1 12 rfl rfl) (tb_8 18 rfl rfl) (tb_8 20 rfl rfl) (tb_0 32 rfl rfl) (show yX12_sign.cls ≠ "java/lang/invoke/MethodHandle" ∧ yX12_sign.cls ≠ "java/lang/invoke/VarHandle" ∧ (parseMethodDescriptor yX12_sign.desc).map (fun d => d.parameters.length) = some 0 by decide +kernel) zs_blind (zs_ob hh38 ha (show RTg[11]? = some (0, 11, 0, fsX12) from rfl) (zCX12 hKn.1)) (fun U hU hW => ⟨rfl, by rw [hU]; exact hh38.l0, zKb s U hW.alike hKn, by rw [hU]; exact jl⟩) hh38.2.2.1 hl.1 (Nat.le_of_ble_eq_true rfl) (eX12_ruleName (28, .invokevirtual 309, 3) (List.mem_of_getElem? (i := 14) rfl)) (fun r47 s47 t47 lo47 g47 f47 l47 => ?_)
          obtain ⟨z47, v47, q47, e47⟩ := f47
          cases q47
          rw [z47, g47]
          have hh47 : zh_ok D cA RTg ro sz H0 H lo47 := ⟨hh38.1, hh38.2.1, l47, hh38.2.2.2⟩
          refine W.eq (g2 := F0 m 31 ls [.int v47]) rfl ?_
          refine zu_S (vs := [.int v47]) (rest := []) hx hb hml hown hts0 zu_BT (hX12_isDigit l v47) ⟨rfl, rfl⟩ ⟨by decide, by decide⟩ ⟨by decide, by decide⟩ (tb_8 27 rfl rfl) (tb_1 12 rfl rfl) (tb_8 25 rfl rfl) (tb_8 26 rfl rfl) (show yX12_isDigit.cls ≠ "java/lang/invoke/MethodHandle" ∧ yX12_isDigit.cls ≠ "java/lang/invoke/VarHandle" ∧ (parseMethodDescriptor yX12_isDigit.desc).map (fun d => d.parameters.length) = some 1 by decide +kernel) rfl (fun _ _ _ => trivial) hl.1 (Nat.le_of_ble_eq_true rfl) (eX12_ruleName (31, .invokestatic 319, 3) (List.mem_of_getElem? (i := 15) rfl)) (fun w48 f48 => ?_)
          obtain ⟨v48, rfl, e48⟩ := f48
          refine ff_if_ne hx hb (eX12_ruleName (34, .ifCond .ne 21, 3) (List.mem_of_getElem? (i := 16) rfl)) (tgt := 55) rfl (fun c49 => ?_) (fun c49 => ?_)
          · skip
            have hN : isN 1 (byI T g.1) := Or.inr ⟨rfl, Or.inl (by rcases e48 with h | h; rw [← e47]; exact h.2; exfalso; omega)⟩
            refine lv_aload_n hx hb (eX12_ruleName (55, .aload_n 0, 1) (List.mem_of_getElem? (i := 25) rfl)) rfl (lv_at hl 1 rfl) ?_
            refine lv_dup hx hb (eX12_ruleName (56, .dup, 1) (List.mem_of_getElem? (i := 26) rfl)) rfl ?_
            obtain ⟨jt50, ⟨av50, fv50, bv50, f2950, f3050, f3150, hav50, hfv50, hbv50⟩, hu50⟩ := id jl
            have hw50 := hu50
            unfold vOK at hw50
            obtain ⟨tb50, n50, z50, f1250, r050, f1350, hn50, hc50, hz50⟩ := id jt50
            refine tz_get (r := 11) (k := 29) (t := (0, 0, 120)) hx hb hh47 ha rfl rfl (hcl11 293 29 (0, 0, 120) (by decide) rfl).1 f2950 (eX12_ruleName (57, .getfield 293, 3) (List.mem_of_getElem? (i := 27) rfl)) ?_
            refine ff_iconst hx hb (eX12_ruleName (60, .iconst 1, 1) (List.mem_of_getElem? (i := 28) rfl)) (by decide) (by decide) (fun v51 e51 => ?_)
            refine ff_iadd hx hb (eX12_ruleName (61, .iadd, 1) (List.mem_of_getElem? (i := 29) rfl)) (by omega) (by omega) (fun v52 e52 => ?_)
            have hlt53 : 0 ≤ v52.toInt ∧ v52.toInt ≤ 120 := by first | omega | (have h9 := byI_lt (T := T) (a := g.1) (by omega) (by first | omega | exact isD_nn hdg | exact isN_nn hN); omega)
            refine tz_put (r := 11) (k := 29) (t := (0, 0, 120)) hx hb hD hh47 ha rfl rfl ((hcl11 293 29 (0, 0, 120) (by decide) rfl).2 (by decide)) (tz_i (by omega) (by omega)) (eX12_ruleName (62, .putfield 293, 3) (List.mem_of_getElem? (i := 30) rfl)) (fun H54 lo54 hh54 hf54 hk54 _ hq54 => ?_)
            have mf54_a_30 := (hk54.1 a 11 30 11 0 fsX12 ha rfl (by decide) (by decide)).trans f3050
            have mf54_a_31 := (hk54.1 a 11 31 11 0 fsX12 ha rfl (by decide) (by decide)).trans f3150
            have mf54_a_13 := (hk54.1 a 11 13 11 0 fsX12 ha rfl (by decide) (by decide)).trans f1350
            have kp54 := kpl.trans (hk54.mono (ms' := vM) (fun x hx => by cases List.mem_singleton.mp hx; decide))
            have jm54 := (jl.1).kept ha hk54 (by decide) (by decide) (by decide)
            refine ff_iinc (k := 0) hx hb (eX12_ruleName (65, .iinc 1 1, 3) (List.mem_of_getElem? (i := 31) rfl)) hl rfl (by decide) (by decide) (by decide) (by omega) (by omega) (fun v55 e55 ls55 hl55 => ?_)
            refine lv_goto hx hb (eX12_ruleName (68, .goto (-57), 3) (List.mem_of_getElem? (i := 32) rfl)) (tgt := 11) rfl ?_
            exact ih (i + 1) v55 (g.1 + 1, g.2) ls55 _ _ (by omega) (by omega) (by omega) (by rw [← htot]; show _ = (if _ then _ else _ : Int × uS); rw [if_pos hN, show v55.toInt = sv.toInt + 1 by omega]) hh54 kp54 ⟨jm54, ⟨_, _, _, hf54, mf54_a_30, mf54_a_31, by show _ = g.1 + 1; omega, by first | assumption | omega, by first | assumption | omega⟩, adG_ok jl.2.2 (isN_nn hN)⟩ (lv_sub hl55 [0, 1] rfl)
          · skip
            refine lv_aload_n hx hb (eX12_ruleName (37, .aload_n 0, 1) (List.mem_of_getElem? (i := 17) rfl)) rfl (lv_at hl 1 rfl) ?_
            refine tz_rowV (As := []) (st := []) (b := a) (C := RX12) (Ts := gT) hx hb hml hown h2 (fun _ h => h) (hX12_sign l D cA ro sz H0 a T (g) ha) ⟨rfl, rfl⟩ ⟨by decide, by decide⟩ ⟨by decide, by decide⟩ (tb_8 21 rfl rfl) (tb_1 12 rfl rfl) (tb_8 18 rfl rfl) (tb_8 20 rfl rfl) (tb_0 32 rfl rfl) (show yX12_sign.cls ≠ "java/lang/invoke/MethodHandle" ∧ yX12_sign.cls ≠ "java/lang/invoke/VarHandle" ∧ (parseMethodDescriptor yX12_sign.desc).map (fun d => d.parameters.length) = some 0 by decide +kernel) zs_blind (zs_ob hh47 ha (show RTg[11]? = some (0, 11, 0, fsX12) from rfl) (zCX12 hKn.1)) (fun U hU hW => ⟨rfl, by rw [hU]; exact hh47.l0, zKb s U hW.alike hKn, by rw [hU]; exact jl⟩) hh47.2.2.1 hl.1 (Nat.le_of_ble_eq_true rfl) (eX12_ruleName (38, .invokevirtual 309, 3) (List.mem_of_getElem? (i := 18) rfl)) (fun r56 s56 t56 lo56 g56 f56 l56 => ?_)
            obtain ⟨z56, v56, q56, e56⟩ := f56
            cases q56
            rw [z56, g56]
            have hh56 : zh_ok D cA RTg ro sz H0 H lo56 := ⟨hh47.1, hh47.2.1, l56, hh47.2.2.2⟩
            refine W.eq (g2 := F0 m 41 ls [.int v56]) rfl ?_
            refine ff_bipush hx hb (eX12_ruleName (41, .bipush 43, 2) (List.mem_of_getElem? (i := 19) rfl)) (by decide) (by decide) (fun v57 e57 => ?_)
            refine ff_icmp_eq hx hb (eX12_ruleName (43, .if_icmp .eq 12, 3) (List.mem_of_getElem? (i := 20) rfl)) (tgt := 55) rfl (fun c58 => ?_) (fun c58 => ?_)
            · skip
              have hN : isN 1 (byI T g.1) := Or.inr ⟨rfl, Or.inr (Or.inl (by omega))⟩
              refine lv_aload_n hx hb (eX12_ruleName (55, .aload_n 0, 1) (List.mem_of_getElem? (i := 25) rfl)) rfl (lv_at hl 1 rfl) ?_
              refine lv_dup hx hb (eX12_ruleName (56, .dup, 1) (List.mem_of_getElem? (i := 26) rfl)) rfl ?_
              obtain ⟨jt59, ⟨av59, fv59, bv59, f2959, f3059, f3159, hav59, hfv59, hbv59⟩, hu59⟩ := id jl
              have hw59 := hu59
              unfold vOK at hw59
              obtain ⟨tb59, n59, z59, f1259, r059, f1359, hn59, hc59, hz59⟩ := id jt59
              refine tz_get (r := 11) (k := 29) (t := (0, 0, 120)) hx hb hh56 ha rfl rfl (hcl11 293 29 (0, 0, 120) (by decide) rfl).1 f2959 (eX12_ruleName (57, .getfield 293, 3) (List.mem_of_getElem? (i := 27) rfl)) ?_
              refine ff_iconst hx hb (eX12_ruleName (60, .iconst 1, 1) (List.mem_of_getElem? (i := 28) rfl)) (by decide) (by decide) (fun v60 e60 => ?_)
              refine ff_iadd hx hb (eX12_ruleName (61, .iadd, 1) (List.mem_of_getElem? (i := 29) rfl)) (by omega) (by omega) (fun v61 e61 => ?_)
              have hlt62 : 0 ≤ v61.toInt ∧ v61.toInt ≤ 120 := by first | omega | (have h9 := byI_lt (T := T) (a := g.1) (by omega) (by first | omega | exact isD_nn hdg | exact isN_nn hN); omega)
              refine tz_put (r := 11) (k := 29) (t := (0, 0, 120)) hx hb hD hh56 ha rfl rfl ((hcl11 293 29 (0, 0, 120) (by decide) rfl).2 (by decide)) (tz_i (by omega) (by omega)) (eX12_ruleName (62, .putfield 293, 3) (List.mem_of_getElem? (i := 30) rfl)) (fun H63 lo63 hh63 hf63 hk63 _ hq63 => ?_)
              have mf63_a_30 := (hk63.1 a 11 30 11 0 fsX12 ha rfl (by decide) (by decide)).trans f3059
              have mf63_a_31 := (hk63.1 a 11 31 11 0 fsX12 ha rfl (by decide) (by decide)).trans f3159
              have mf63_a_13 := (hk63.1 a 11 13 11 0 fsX12 ha rfl (by decide) (by decide)).trans f1359
              have kp63 := kpl.trans (hk63.mono (ms' := vM) (fun x hx => by cases List.mem_singleton.mp hx; decide))
              have jm63 := (jl.1).kept ha hk63 (by decide) (by decide) (by decide)
              refine ff_iinc (k := 0) hx hb (eX12_ruleName (65, .iinc 1 1, 3) (List.mem_of_getElem? (i := 31) rfl)) hl rfl (by decide) (by decide) (by decide) (by omega) (by omega) (fun v64 e64 ls64 hl64 => ?_)
              refine lv_goto hx hb (eX12_ruleName (68, .goto (-57), 3) (List.mem_of_getElem? (i := 32) rfl)) (tgt := 11) rfl ?_
              exact ih (i + 1) v64 (g.1 + 1, g.2) ls64 _ _ (by omega) (by omega) (by omega) (by rw [← htot]; show _ = (if _ then _ else _ : Int × uS); rw [if_pos hN, show v64.toInt = sv.toInt + 1 by omega]) hh63 kp63 ⟨jm63, ⟨_, _, _, hf63, mf63_a_30, mf63_a_31, by show _ = g.1 + 1; omega, by first | assumption | omega, by first | assumption | omega⟩, adG_ok jl.2.2 (isN_nn hN)⟩ (lv_sub hl64 [0, 1] rfl)
            · skip
              refine lv_aload_n hx hb (eX12_ruleName (46, .aload_n 0, 1) (List.mem_of_getElem? (i := 21) rfl)) rfl (lv_at hl 1 rfl) ?_
              refine tz_rowV (As := []) (st := []) (b := a) (C := RX12) (Ts := gT) hx hb hml hown h2 (fun _ h => h) (hX12_sign l D cA ro sz H0 a T (g) ha) ⟨rfl, rfl⟩ ⟨by decide, by decide⟩ ⟨by decide, by decide⟩ (tb_8 21 rfl rfl) (tb_1 12 rfl rfl) (tb_8 18 rfl rfl) (tb_8 20 rfl rfl) (tb_0 32 rfl rfl) (show yX12_sign.cls ≠ "java/lang/invoke/MethodHandle" ∧ yX12_sign.cls ≠ "java/lang/invoke/VarHandle" ∧ (parseMethodDescriptor yX12_sign.desc).map (fun d => d.parameters.length) = some 0 by decide +kernel) zs_blind (zs_ob hh56 ha (show RTg[11]? = some (0, 11, 0, fsX12) from rfl) (zCX12 hKn.1)) (fun U hU hW => ⟨rfl, by rw [hU]; exact hh56.l0, zKb s U hW.alike hKn, by rw [hU]; exact jl⟩) hh56.2.2.1 hl.1 (Nat.le_of_ble_eq_true rfl) (eX12_ruleName (47, .invokevirtual 309, 3) (List.mem_of_getElem? (i := 22) rfl)) (fun r65 s65 t65 lo65 g65 f65 l65 => ?_)
              obtain ⟨z65, v65, q65, e65⟩ := f65
              cases q65
              rw [z65, g65]
              have hh65 : zh_ok D cA RTg ro sz H0 H lo65 := ⟨hh56.1, hh56.2.1, l65, hh56.2.2.2⟩
              refine W.eq (g2 := F0 m 50 ls [.int v65]) rfl ?_
              refine ff_bipush hx hb (eX12_ruleName (50, .bipush 45, 2) (List.mem_of_getElem? (i := 23) rfl)) (by decide) (by decide) (fun v66 e66 => ?_)
              refine ff_icmp_ne hx hb (eX12_ruleName (52, .if_icmp .ne 19, 3) (List.mem_of_getElem? (i := 24) rfl)) (tgt := 71) rfl (fun c67 => ?_) (fun c67 => ?_)
              · skip
                have hN : ¬ isN 1 (byI T g.1) := fun q => by rcases q with q | ⟨q1, q2⟩; (rcases e39 with h | h; exfalso; omega; rw [← e38] at q; exact h.2 q); rcases q2 with q2 | q2 | q2; (rcases e48 with h | h; exfalso; omega; rw [← e47] at q2; exact h.2 q2); (exfalso; omega); (exfalso; omega)
                have hy : nlG T 1 8 0 x2.2 = (sv.toInt, g) := by rw [← htot]; show (if _ then _ else _ : Int × uS) = _; rw [if_neg hN]
                refine lv_iload_n hx hb (eX12_ruleName (71, .iload_n 1, 1) (List.mem_of_getElem? (i := 33) rfl)) rfl (lv_at hl 0 rfl) ?_
                refine ff_iconst hx hb (eX12_ruleName (72, .iconst 3, 1) (List.mem_of_getElem? (i := 34) rfl)) (by decide) (by decide) (fun v68 e68 => ?_)
                refine ff_icmp_ge hx hb (eX12_ruleName (73, .if_icmp .ge 7, 3) (List.mem_of_getElem? (i := 35) rfl)) (tgt := 80) rfl (fun c69 => ?_) (fun c69 => ?_)
                · skip
                  have h3 : ¬ sv.toInt < 3 := by omega
                  refine lv_aload_n hx hb (eX12_ruleName (80, .aload_n 0, 1) (List.mem_of_getElem? (i := 38) rfl)) rfl (lv_at hl 1 rfl) ?_
                  refine ff_bipush hx hb (eX12_ruleName (81, .bipush 62, 2) (List.mem_of_getElem? (i := 39) rfl)) (by decide) (by decide) (fun v70 e70 => ?_)
                  refine tz_rowV (As := [.int v70]) (st := []) (b := a) (C := RX12) (Ts := gT) hx hb hml hown h2 (fun _ h => h) (hX12_expect l D cA ro sz H0 a v70 62 T (g) ha (by omega) (by decide)) ⟨rfl, rfl⟩ ⟨by decide, by decide⟩ ⟨by decide, by decide⟩ (tb_8 35 rfl rfl) (tb_1 12 rfl rfl) (tb_8 32 rfl rfl) (tb_8 34 rfl rfl) (tb_0 34 rfl rfl) (show yX12_expect.cls ≠ "java/lang/invoke/MethodHandle" ∧ yX12_expect.cls ≠ "java/lang/invoke/VarHandle" ∧ (parseMethodDescriptor yX12_expect.desc).map (fun d => d.parameters.length) = some 1 by decide +kernel) zs_blind (zs_ob hh65 ha (show RTg[11]? = some (0, 11, 0, fsX12) from rfl) (zCX12 hKn.1)) (fun U hU hW => ⟨rfl, by rw [hU]; exact hh65.l0, zKb s U hW.alike hKn, by rw [hU]; exact jl⟩) hh65.2.2.1 hl.1 (Nat.le_of_ble_eq_true rfl) (eX12_ruleName (83, .invokevirtual 325, 3) (List.mem_of_getElem? (i := 40) rfl)) (fun r71 s71 t71 lo71 g71 f71 l71 => ?_)
                  obtain ⟨q71, z71, c71, j71⟩ := f71
                  cases q71
                  rw [g71] at c71
                  have hh71 : zh_ok D cA RTg ro sz H0 t71.heap lo71 := ⟨z71.1, z71.2.1, l71, z71.2.2.2⟩
                  have kp71 := kpl.trans (c71.mono (ms' := vM) (by decide))
                  generalize hx71 : exG T 62 g = x71 at j71
                  have uu71 := j71.2.2
                  unfold vOK at uu71
                  refine W.eq (g2 := F0 m 86 ls []) rfl ?_
                  have hfin : nameG T sg = x71 := by rw [nameG_eq, hx2, if_pos (by omega), hy]; simp only [f3G, if_neg h3, hx71]
                  exact W.vret hx hb hr (fun t ht hW => ⟨rfl, by rw [ht]; exact hh71.l0, by rw [ht]; exact kp71, by rw [ht, hfin]; exact j71⟩) hh71.2.2.1 (eX12_ruleName (86, .return_, 1) (List.mem_of_getElem? (i := 41) rfl))
                · skip
                  have h3 : sv.toInt < 3 := by omega
                  refine lv_aload_n hx hb (eX12_ruleName (76, .aload_n 0, 1) (List.mem_of_getElem? (i := 36) rfl)) rfl (lv_at hl 1 rfl) ?_
                  refine tz_rowV (As := []) (st := []) (b := a) (C := RX12) (Ts := gT) hx hb hml hown h2 (fun _ h => h) (hX12_fail l D cA ro sz H0 a T (g) ha) ⟨rfl, rfl⟩ ⟨by decide, by decide⟩ ⟨by decide, by decide⟩ (tb_8 31 rfl rfl) (tb_1 12 rfl rfl) (tb_8 28 rfl rfl) (tb_8 30 rfl rfl) (tb_0 33 rfl rfl) (show yX12_fail.cls ≠ "java/lang/invoke/MethodHandle" ∧ yX12_fail.cls ≠ "java/lang/invoke/VarHandle" ∧ (parseMethodDescriptor yX12_fail.desc).map (fun d => d.parameters.length) = some 0 by decide +kernel) zs_blind (zs_ob hh65 ha (show RTg[11]? = some (0, 11, 0, fsX12) from rfl) (zCX12 hKn.1)) (fun U hU hW => ⟨rfl, by rw [hU]; exact hh65.l0, zKb s U hW.alike hKn, by rw [hU]; exact jl⟩) hh65.2.2.1 hl.1 (Nat.le_of_ble_eq_true rfl) (eX12_ruleName (77, .invokevirtual 316, 3) (List.mem_of_getElem? (i := 37) rfl)) (fun r72 s72 t72 lo72 g72 f72 l72 => ?_)
                  obtain ⟨q72, z72, c72, j72⟩ := f72
                  cases q72
                  rw [g72] at c72
                  have hh72 : zh_ok D cA RTg ro sz H0 t72.heap lo72 := ⟨z72.1, z72.2.1, l72, z72.2.2.2⟩
                  have kp72 := kpl.trans (c72.mono (ms' := vM) (by decide))
                  generalize hx72 : flG g = x72 at j72
                  have uu72 := j72.2.2
                  unfold vOK at uu72
                  refine W.eq (g2 := F0 m 80 ls []) rfl ?_
                  refine lv_aload_n hx hb (eX12_ruleName (80, .aload_n 0, 1) (List.mem_of_getElem? (i := 38) rfl)) rfl (lv_at hl 1 rfl) ?_
                  refine ff_bipush hx hb (eX12_ruleName (81, .bipush 62, 2) (List.mem_of_getElem? (i := 39) rfl)) (by decide) (by decide) (fun v73 e73 => ?_)
                  refine tz_rowV (As := [.int v73]) (st := []) (b := a) (C := RX12) (Ts := gT) hx hb hml hown h2 (fun _ h => h) (hX12_expect l D cA ro sz H0 a v73 62 T (x72) ha (by omega) (by decide)) ⟨rfl, rfl⟩ ⟨by decide, by decide⟩ ⟨by decide, by decide⟩ (tb_8 35 rfl rfl) (tb_1 12 rfl rfl) (tb_8 32 rfl rfl) (tb_8 34 rfl rfl) (tb_0 34 rfl rfl) (show yX12_expect.cls ≠ "java/lang/invoke/MethodHandle" ∧ yX12_expect.cls ≠ "java/lang/invoke/VarHandle" ∧ (parseMethodDescriptor yX12_expect.desc).map (fun d => d.parameters.length) = some 1 by decide +kernel) zs_blind (zs_ob hh72 ha (show RTg[11]? = some (0, 11, 0, fsX12) from rfl) (zCX12 hKn.1)) (fun U hU hW => ⟨rfl, by rw [hU]; exact hh72.l0, zKb s U hW.alike hKn, by rw [hU]; exact j72⟩) hh72.2.2.1 hl.1 (Nat.le_of_ble_eq_true rfl) (eX12_ruleName (83, .invokevirtual 325, 3) (List.mem_of_getElem? (i := 40) rfl)) (fun r74 s74 t74 lo74 g74 f74 l74 => ?_)
                  obtain ⟨q74, z74, c74, j74⟩ := f74
                  cases q74
                  rw [g74] at c74
                  have hh74 : zh_ok D cA RTg ro sz H0 t74.heap lo74 := ⟨z74.1, z74.2.1, l74, z74.2.2.2⟩
                  have kp74 := kp72.trans (c74.mono (ms' := vM) (by decide))
                  generalize hx74 : exG T 62 x72 = x74 at j74
                  have uu74 := j74.2.2
                  unfold vOK at uu74
                  refine W.eq (g2 := F0 m 86 ls []) rfl ?_
                  have hfin : nameG T sg = x74 := by rw [nameG_eq, hx2, if_pos (by omega), hy]; simp only [f3G, if_pos h3, hx72, hx74]
                  exact W.vret hx hb hr (fun t ht hW => ⟨rfl, by rw [ht]; exact hh74.l0, by rw [ht]; exact kp74, by rw [ht, hfin]; exact j74⟩) hh74.2.2.1 (eX12_ruleName (86, .return_, 1) (List.mem_of_getElem? (i := 41) rfl))
              · skip
                have hN : isN 1 (byI T g.1) := Or.inr ⟨rfl, Or.inr (Or.inr (by omega))⟩
                refine lv_aload_n hx hb (eX12_ruleName (55, .aload_n 0, 1) (List.mem_of_getElem? (i := 25) rfl)) rfl (lv_at hl 1 rfl) ?_
                refine lv_dup hx hb (eX12_ruleName (56, .dup, 1) (List.mem_of_getElem? (i := 26) rfl)) rfl ?_
                obtain ⟨jt75, ⟨av75, fv75, bv75, f2975, f3075, f3175, hav75, hfv75, hbv75⟩, hu75⟩ := id jl
                have hw75 := hu75
                unfold vOK at hw75
                obtain ⟨tb75, n75, z75, f1275, r075, f1375, hn75, hc75, hz75⟩ := id jt75
                refine tz_get (r := 11) (k := 29) (t := (0, 0, 120)) hx hb hh65 ha rfl rfl (hcl11 293 29 (0, 0, 120) (by decide) rfl).1 f2975 (eX12_ruleName (57, .getfield 293, 3) (List.mem_of_getElem? (i := 27) rfl)) ?_
                refine ff_iconst hx hb (eX12_ruleName (60, .iconst 1, 1) (List.mem_of_getElem? (i := 28) rfl)) (by decide) (by decide) (fun v76 e76 => ?_)
                refine ff_iadd hx hb (eX12_ruleName (61, .iadd, 1) (List.mem_of_getElem? (i := 29) rfl)) (by omega) (by omega) (fun v77 e77 => ?_)
                have hlt78 : 0 ≤ v77.toInt ∧ v77.toInt ≤ 120 := by first | omega | (have h9 := byI_lt (T := T) (a := g.1) (by omega) (by first | omega | exact isD_nn hdg | exact isN_nn hN); omega)
                refine tz_put (r := 11) (k := 29) (t := (0, 0, 120)) hx hb hD hh65 ha rfl rfl ((hcl11 293 29 (0, 0, 120) (by decide) rfl).2 (by decide)) (tz_i (by omega) (by omega)) (eX12_ruleName (62, .putfield 293, 3) (List.mem_of_getElem? (i := 30) rfl)) (fun H79 lo79 hh79 hf79 hk79 _ hq79 => ?_)
                have mf79_a_30 := (hk79.1 a 11 30 11 0 fsX12 ha rfl (by decide) (by decide)).trans f3075
                have mf79_a_31 := (hk79.1 a 11 31 11 0 fsX12 ha rfl (by decide) (by decide)).trans f3175
                have mf79_a_13 := (hk79.1 a 11 13 11 0 fsX12 ha rfl (by decide) (by decide)).trans f1375
                have kp79 := kpl.trans (hk79.mono (ms' := vM) (fun x hx => by cases List.mem_singleton.mp hx; decide))
                have jm79 := (jl.1).kept ha hk79 (by decide) (by decide) (by decide)
                refine ff_iinc (k := 0) hx hb (eX12_ruleName (65, .iinc 1 1, 3) (List.mem_of_getElem? (i := 31) rfl)) hl rfl (by decide) (by decide) (by decide) (by omega) (by omega) (fun v80 e80 ls80 hl80 => ?_)
                refine lv_goto hx hb (eX12_ruleName (68, .goto (-57), 3) (List.mem_of_getElem? (i := 32) rfl)) (tgt := 11) rfl ?_
                exact ih (i + 1) v80 (g.1 + 1, g.2) ls80 _ _ (by omega) (by omega) (by omega) (by rw [← htot]; show _ = (if _ then _ else _ : Int × uS); rw [if_pos hN, show v80.toInt = sv.toInt + 1 by omega]) hh79 kp79 ⟨jm79, ⟨_, _, _, hf79, mf79_a_30, mf79_a_31, by show _ = g.1 + 1; omega, by first | assumption | omega, by first | assumption | omega⟩, adG_ok jl.2.2 (isN_nn hN)⟩ (lv_sub hl80 [0, 1] rfl)
    exact loop11 8 0 v25 x2.2 ls26 _ _ (by omega) (by omega) (by omega) (by rw [show v25.toInt = 0 by omega]) hh2 kp2 j2 (lv_sub hl26 [0, 1] rfl)
set_option maxRecDepth 100000 in
set_option maxHeartbeats 4000000 in
theorem hX12_ruleTime (l : Launch) (D : va_G) (cA : Nat → ClassId) (ro : Nat → Option Nat) (sz : Nat) (H0 : Heap) (a : Nat) (sn : Int32) (mo : Int32) (k1 k2 : Int) (T : List Int) (sg : uS) (ha : ro a = some 11) (hk1 : sn.toInt = k1) (hk2 : mo.toInt = k2) (hk3 : k1 = 0 ∨ k1 = 1) : Met l yX12_ruleTime (gW yX12_ruleTime cX12_ruleTime 7 (some .int)) { frames := 2, cells := 0, slots := 0, locals := 43 } (zs_P D cA ro sz H0 (fun H => jV D cA ro H a T sg) [.ref a, .int sn, .int mo]) (fun _ st oc t => ∃ r hv : Int32, oc = .returned (some (.int r)) ∧ r.toInt = (tmG T k1 k2 sg).1.1 ∧ zh_f D t.heap a 11 33 = .int hv ∧ hv.toInt = (tmG T k1 k2 sg).1.2 ∧ zh_ok D cA RTg ro sz H0 t.heap [] ∧ zc_kept D RTg ro tM st.heap t.heap ∧ jV D cA ro t.heap a T (tmG T k1 k2 sg).2) 0 0 (zy_fr sz) := by
  refine zy_ofW (cc := cX12_ruleTime) (maxL := 7) (ret := (some .int)) (by decide +kernel) rfl ?_
  intro p e s m args below meth c s1 B hml hv
  obtain ⟨rfl, hh, hKn, hJ⟩ := hv
  have hx := B.exec
  have hb := B.bytes
  have hr := B.returns
  have hlk := B.notSynchronized
  have hts0 := atoms_spec (ws := gW yX12_ruleTime cX12_ruleTime 7 (some .int)) B.pre
  have h2 : ∀ w ∈ gT, w.before ([.ref a, .int sn, .int mo] : List Value).toArray s = true := fun w hw => hts0 w (List.mem_cons_of_mem _ hw)
  have hown : s.vm.findClass RX12 = some m.cls := findClass_of_methodNamed B.named
  have hl := lv_entry [.ref a, .int sn, .int mo] (n := 7) (Nat.le_of_ble_eq_true rfl)
  rw [lg_entry_eq]
  generalize (lg_sl [.ref a, .int sn, .int mo] ++ List.replicate (7 - (lg_sl [.ref a, .int sn, .int mo]).length) Slot.unset).toArray = ls at hl ⊢
  have b_sn := zn_i32 sn
  have b_mo := zn_i32 mo
  have hD := zD_all h2 hKn.1
  have hcl11 := fun (idx k : Nat) (t : zt_T) (h : (idx, 11, k) ∈ gfX12) (hk : fsX12[k]? = some t) => zf_clause (ro := ro) (ms := tM) h2 hown hKn.1 gfX12_ok (by decide +kernel) idx 11 k 11 0 fsX12 t h rfl hk
  have kp0 : zc_kept D RTg ro tM s.heap s.heap := zc_kept.refl
  obtain ⟨hjt, ⟨av, fv, bv, f29, f30, f31, hav, hfv, hbv⟩, hu⟩ := id hJ
  obtain ⟨tb, n, z, f12, r0, f13, hn, hc, hz⟩ := id hjt
  obtain ⟨n9, g9, n1, n2⟩ := zh_fT (k := 13) (t := (0, 0, 120)) hh ha (show RTg[11]? = some (0, 11, 0, fsX12) from rfl) rfl
  cases f13.symm.trans g9
  dsimp only at n1 n2
  clear g9
  obtain ⟨-, z9, c9, hy9⟩ := zh_arr hh r0 (show RTg[30]? = some (1, 2, 120, [(0, (-128), 127)]) from rfl)
  have hy : ∀ i, i < 120 → zt_ok ro (z i) (0, (-128), 127) := zs_arr (hc.symm.trans c9) hy9
  obtain ⟨u1, u2, u3, u4⟩ := id hu
  have jn169 : ∀ (hv mv mn hw : Int32) (g : uS) (ls : Array Slot) (H : Heap) (lo0 : List Loc), 0 ≤ hv.toInt ∧ hv.toInt ≤ 99 → 0 ≤ mv.toInt ∧ mv.toInt ≤ 99 → (mn.toInt = 0 ∨ mn.toInt = 1) → tmG T k1 k2 sg = t169 mn.toInt hw.toInt hv.toInt mv.toInt g → zh_f D H a 11 33 = .int hw → zh_ok D cA RTg ro sz H0 H lo0 → zc_kept D RTg ro tM s.heap H → jV D cA ro H a T g → lv_has ls 7 [(4, .int hv), (5, .int mv), (3, .int mn), (0, .ref a), (1, .int sn), (2, .int mo)] → W p l e (headSpec (gW yX12_ruleTime cX12_ruleTime 7 (some .int)) { frames := 2, cells := 0, slots := 0, locals := 43 }).room s m ([.ref a, .int sn, .int mo] : List Value).toArray below meth c H lo0 0 0 (MQ below (fun _ st oc t => ∃ r hv : Int32, oc = .returned (some (.int r)) ∧ r.toInt = (tmG T k1 k2 sg).1.1 ∧ zh_f D t.heap a 11 33 = .int hv ∧ hv.toInt = (tmG T k1 k2 sg).1.2 ∧ zh_ok D cA RTg ro sz H0 t.heap [] ∧ zc_kept D RTg ro tM st.heap t.heap ∧ jV D cA ro t.heap a T (tmG T k1 k2 sg).2) ([.ref a, .int sn, .int mo] : List Value).toArray s 0 0 (zy_fr sz)) (F0 m 169 ls []) := by
    intro hv mv mn hw g ls H lo0 b1 b2 b3 htot fh hh0 kpl jl hl
    have hul := jl.2.2
    unfold vOK at hul
    refine ff_bipush hx hb (eX12_ruleTime (169, .bipush 60, 2) (List.mem_of_getElem? (i := 84) rfl)) (by decide) (by decide) (fun v1 e1 => ?_)
    refine lv_iload hx hb (eX12_ruleTime (171, .iload 4, 2) (List.mem_of_getElem? (i := 85) rfl)) (lv_at hl 0 rfl) ?_
    refine ff_imulL hx hb (eX12_ruleTime (173, .imul, 1) (List.mem_of_getElem? (i := 86) rfl)) (e1) (by omega) (by omega) (fun v2 e2 => ?_)
    refine lv_iload hx hb (eX12_ruleTime (174, .iload 5, 2) (List.mem_of_getElem? (i := 87) rfl)) (lv_at hl 1 rfl) ?_
    refine ff_iadd hx hb (eX12_ruleTime (176, .iadd, 1) (List.mem_of_getElem? (i := 88) rfl)) (by omega) (by omega) (fun v3 e3 => ?_)
    refine lv_istore hx hb (eX12_ruleTime (177, .istore 6, 2) (List.mem_of_getElem? (i := 89) rfl)) hl (by decide) rfl (fun ls4 hl4 => ?_)
    refine lv_iload_n hx hb (eX12_ruleTime (179, .iload_n 3, 1) (List.mem_of_getElem? (i := 90) rfl)) rfl (lv_at hl4 3 rfl) ?_
    refine ff_if_eq hx hb (eX12_ruleTime (180, .ifCond .eq 9, 3) (List.mem_of_getElem? (i := 91) rfl)) (tgt := 189) rfl (fun c5 => ?_) (fun c5 => ?_)
    · skip
      refine lv_iload hx hb (eX12_ruleTime (189, .iload 6, 2) (List.mem_of_getElem? (i := 95) rfl)) (lv_at hl4 0 rfl) ?_
      have hfin : tmG T k1 k2 sg = ((v3.toInt, hw.toInt), g) := by rw [htot]; unfold t169; rw [if_neg (by omega), show v3.toInt = 60 * hv.toInt + mv.toInt by omega]
      exact W.zret hx hb hr rfl (fun t ht hW => ⟨_, hw, rfl, by rw [hfin] <;> rfl, by rw [ht]; exact fh, by rw [hfin] <;> rfl, by rw [ht]; exact hh0.l0, by rw [ht]; exact kpl, by rw [ht, hfin]; exact jl⟩) hh0.2.2.1 (eX12_ruleTime (191, .ireturn, 1) (List.mem_of_getElem? (i := 96) rfl))
    · skip
      refine lv_iload hx hb (eX12_ruleTime (183, .iload 6, 2) (List.mem_of_getElem? (i := 92) rfl)) (lv_at hl4 0 rfl) ?_
      refine ff_ineg hx hb (eX12_ruleTime (185, .ineg, 1) (List.mem_of_getElem? (i := 93) rfl)) (by omega) (by omega) (fun v6 e6 => ?_)
      refine lv_goto hx hb (eX12_ruleTime (186, .goto 5, 3) (List.mem_of_getElem? (i := 94) rfl)) (tgt := 191) rfl ?_
      have hfin : tmG T k1 k2 sg = ((v6.toInt, hw.toInt), g) := by rw [htot]; unfold t169; rw [if_pos (by omega), show v6.toInt = -(60 * hv.toInt + mv.toInt) by omega]
      exact W.zret hx hb hr rfl (fun t ht hW => ⟨_, hw, rfl, by rw [hfin] <;> rfl, by rw [ht]; exact fh, by rw [hfin] <;> rfl, by rw [ht]; exact hh0.l0, by rw [ht]; exact kpl, by rw [ht, hfin]; exact jl⟩) hh0.2.2.1 (eX12_ruleTime (191, .ireturn, 1) (List.mem_of_getElem? (i := 96) rfl))
  have jn124 : ∀ (hv mn hw : Int32) (g : uS) (ls : Array Slot) (H : Heap) (lo0 : List Loc), 0 ≤ hv.toInt ∧ hv.toInt ≤ 99 → (mn.toInt = 0 ∨ mn.toInt = 1) → tmG T k1 k2 sg = t124 T mn.toInt hw.toInt hv.toInt g → zh_f D H a 11 33 = .int hw → zh_ok D cA RTg ro sz H0 H lo0 → zc_kept D RTg ro tM s.heap H → jV D cA ro H a T g → lv_has ls 7 [(4, .int hv), (3, .int mn), (0, .ref a), (1, .int sn), (2, .int mo)] → W p l e (headSpec (gW yX12_ruleTime cX12_ruleTime 7 (some .int)) { frames := 2, cells := 0, slots := 0, locals := 43 }).room s m ([.ref a, .int sn, .int mo] : List Value).toArray below meth c H lo0 0 0 (MQ below (fun _ st oc t => ∃ r hv : Int32, oc = .returned (some (.int r)) ∧ r.toInt = (tmG T k1 k2 sg).1.1 ∧ zh_f D t.heap a 11 33 = .int hv ∧ hv.toInt = (tmG T k1 k2 sg).1.2 ∧ zh_ok D cA RTg ro sz H0 t.heap [] ∧ zc_kept D RTg ro tM st.heap t.heap ∧ jV D cA ro t.heap a T (tmG T k1 k2 sg).2) ([.ref a, .int sn, .int mo] : List Value).toArray s 0 0 (zy_fr sz)) (F0 m 124 ls []) := by
    intro hv mn hw g ls H lo0 b1 b3 htot fh hh0 kpl jl hl
    have hul := jl.2.2
    unfold vOK at hul
    refine ff_iconst hx hb (eX12_ruleTime (124, .iconst 0, 1) (List.mem_of_getElem? (i := 62) rfl)) (by decide) (by decide) (fun v7 e7 => ?_)
    refine lv_istore hx hb (eX12_ruleTime (125, .istore 5, 2) (List.mem_of_getElem? (i := 63) rfl)) hl (by decide) rfl (fun ls8 hl8 => ?_)
    refine lv_aload_n hx hb (eX12_ruleTime (127, .aload_n 0, 1) (List.mem_of_getElem? (i := 64) rfl)) rfl (lv_at hl8 3 rfl) ?_
    refine ff_bipush hx hb (eX12_ruleTime (128, .bipush 58, 2) (List.mem_of_getElem? (i := 65) rfl)) (by decide) (by decide) (fun v9 e9 => ?_)
    refine tz_rowV (As := [.int v9]) (st := []) (b := a) (C := RX12) (Ts := gT) hx hb hml hown h2 (fun _ h => h) (hX12_takes l D cA ro sz H0 a v9 58 T (g) ha (by omega) (by decide)) ⟨rfl, rfl⟩ ⟨by decide, by decide⟩ ⟨by decide, by decide⟩ (tb_8 13 rfl rfl) (tb_1 12 rfl rfl) (tb_8 10 rfl rfl) (tb_8 12 rfl rfl) (tb_0 30 rfl rfl) (show yX12_takes.cls ≠ "java/lang/invoke/MethodHandle" ∧ yX12_takes.cls ≠ "java/lang/invoke/VarHandle" ∧ (parseMethodDescriptor yX12_takes.desc).map (fun d => d.parameters.length) = some 1 by decide +kernel) zs_blind (zs_ob hh0 ha (show RTg[11]? = some (0, 11, 0, fsX12) from rfl) (zCX12 hKn.1)) (fun U hU hW => ⟨rfl, by rw [hU]; exact hh0.l0, zKb s U hW.alike hKn, by rw [hU]; exact jl⟩) hh0.2.2.1 hl8.1 (Nat.le_of_ble_eq_true rfl) (eX12_ruleTime (130, .invokevirtual 313, 3) (List.mem_of_getElem? (i := 66) rfl)) (fun r10 s10 t10 lo10 g10 f10 l10 => ?_)
    obtain ⟨v10, q10, e10, z10, c10, j10⟩ := f10
    cases q10
    rw [g10] at c10
    have hh10 : zh_ok D cA RTg ro sz H0 t10.heap lo10 := ⟨z10.1, z10.2.1, l10, z10.2.2.2⟩
    have kp10 := kpl.trans (c10.mono (ms' := tM) (by decide))
    have kf10 := tkG_01 T 58 g
    generalize hx10 : tkG T 58 g = x10 at j10 e10 kf10
    have uu10 := j10.2.2
    unfold vOK at uu10
    have mf10_a_33 := (c10.1 a 11 33 11 0 fsX12 ha rfl (by decide) (by decide)).trans fh
    refine W.eq (g2 := F0 m 133 ls8 [.int v10]) rfl ?_
    refine ff_if_eq hx hb (eX12_ruleTime (133, .ifCond .eq 36, 3) (List.mem_of_getElem? (i := 67) rfl)) (tgt := 169) rfl (fun c11 => ?_) (fun c11 => ?_)
    · skip
      exact jn169 hv v7 mn hw x10.2 ls8 _ _ (by omega) (by omega) (by omega) (by rw [htot]; unfold t124; rw [hx10, if_neg (by omega), show v7.toInt = 0 by omega]) mf10_a_33 hh10 kp10 j10 (lv_sub hl8 [1, 0, 2, 3, 4, 5] rfl)
    · skip
      refine lv_aload_n hx hb (eX12_ruleTime (136, .aload_n 0, 1) (List.mem_of_getElem? (i := 68) rfl)) rfl (lv_at hl8 3 rfl) ?_
      obtain ⟨jt12, ⟨av12, fv12, bv12, f2912, f3012, f3112, hav12, hfv12, hbv12⟩, hu12⟩ := id j10
      have hw12 := hu12
      unfold vOK at hw12
      obtain ⟨tb12, n12, z12, f1212, r012, f1312, hn12, hc12, hz12⟩ := id jt12
      refine tz_get (r := 11) (k := 29) (t := (0, 0, 120)) hx hb hh10 ha rfl rfl (hcl11 293 29 (0, 0, 120) (by decide) rfl).1 f2912 (eX12_ruleTime (137, .getfield 293, 3) (List.mem_of_getElem? (i := 69) rfl)) ?_
      refine lv_istore hx hb (eX12_ruleTime (140, .istore 6, 2) (List.mem_of_getElem? (i := 70) rfl)) hl8 (by decide) rfl (fun ls13 hl13 => ?_)
      refine lv_aload_n hx hb (eX12_ruleTime (142, .aload_n 0, 1) (List.mem_of_getElem? (i := 71) rfl)) rfl (lv_at hl13 4 rfl) ?_
      refine ff_iconst hx hb (eX12_ruleTime (143, .iconst 2, 1) (List.mem_of_getElem? (i := 72) rfl)) (by decide) (by decide) (fun v14 e14 => ?_)
      refine tz_rowV (As := [.int v14]) (st := []) (b := a) (C := RX12) (Ts := gT) hx hb hml hown h2 (fun _ h => h) (hX12_digits l D cA ro sz H0 a v14 2 T (x10.2) ha (by omega) (by decide)) ⟨rfl, rfl⟩ ⟨by decide, by decide⟩ ⟨by decide, by decide⟩ (tb_8 43 rfl rfl) (tb_1 12 rfl rfl) (tb_8 40 rfl rfl) (tb_8 42 rfl rfl) (tb_0 36 rfl rfl) (show yX12_digits.cls ≠ "java/lang/invoke/MethodHandle" ∧ yX12_digits.cls ≠ "java/lang/invoke/VarHandle" ∧ (parseMethodDescriptor yX12_digits.desc).map (fun d => d.parameters.length) = some 1 by decide +kernel) zs_blind (zs_ob hh10 ha (show RTg[11]? = some (0, 11, 0, fsX12) from rfl) (zCX12 hKn.1)) (fun U hU hW => ⟨rfl, by rw [hU]; exact hh10.l0, zKb s U hW.alike hKn, by rw [hU]; exact j10⟩) hh10.2.2.1 hl13.1 (Nat.le_of_ble_eq_true rfl) (eX12_ruleTime (144, .invokevirtual 331, 3) (List.mem_of_getElem? (i := 73) rfl)) (fun r15 s15 t15 lo15 g15 f15 l15 => ?_)
      obtain ⟨v15, q15, e15, z15, c15, j15⟩ := f15
      cases q15
      rw [g15] at c15
      have hh15 : zh_ok D cA RTg ro sz H0 t15.heap lo15 := ⟨z15.1, z15.2.1, l15, z15.2.2.2⟩
      have kp15 := kp10.trans (c15.mono (ms' := tM) (by decide))
      have kf15 := dgG_u2 (T := T) (r := x10.2)
      generalize hx15 : dgG T 2 0 x10.2 = x15 at j15 e15 kf15
      have uu15 := j15.2.2
      unfold vOK at uu15
      have mf15_a_33 := (c15.1 a 11 33 11 0 fsX12 ha rfl (by decide) (by decide)).trans mf10_a_33
      have mf15_a_13 := (c15.1 a 11 13 11 0 fsX12 ha rfl (by decide) (by decide)).trans f1312
      refine W.eq (g2 := F0 m 147 ls13 [.int v15]) rfl ?_
      refine lv_istore hx hb (eX12_ruleTime (147, .istore 5, 2) (List.mem_of_getElem? (i := 74) rfl)) hl13 (by decide) rfl (fun ls16 hl16 => ?_)
      refine lv_aload_n hx hb (eX12_ruleTime (149, .aload_n 0, 1) (List.mem_of_getElem? (i := 75) rfl)) rfl (lv_at hl16 4 rfl) ?_
      refine tz_rowV (As := []) (st := []) (b := a) (C := RX12) (Ts := gT) hx hb hml hown h2 (fun _ h => h) (hX12_isGood l D cA ro sz H0 a T (x15.2) ha) ⟨rfl, rfl⟩ ⟨by decide, by decide⟩ ⟨by decide, by decide⟩ (tb_8 17 rfl rfl) (tb_1 12 rfl rfl) (tb_8 14 rfl rfl) (tb_8 16 rfl rfl) (tb_0 31 rfl rfl) (show yX12_isGood.cls ≠ "java/lang/invoke/MethodHandle" ∧ yX12_isGood.cls ≠ "java/lang/invoke/VarHandle" ∧ (parseMethodDescriptor yX12_isGood.desc).map (fun d => d.parameters.length) = some 0 by decide +kernel) zs_blind (zs_ob hh15 ha (show RTg[11]? = some (0, 11, 0, fsX12) from rfl) (zCX12 hKn.1)) (fun U hU hW => ⟨rfl, by rw [hU]; exact hh15.l0, zKb s U hW.alike hKn, by rw [hU]; exact j15⟩) hh15.2.2.1 hl16.1 (Nat.le_of_ble_eq_true rfl) (eX12_ruleTime (150, .invokevirtual 305, 3) (List.mem_of_getElem? (i := 76) rfl)) (fun r17 s17 t17 lo17 g17 f17 l17 => ?_)
      obtain ⟨z17, v17, q17, e17⟩ := f17
      cases q17
      rw [z17, g17]
      have hh17 : zh_ok D cA RTg ro sz H0 t15.heap lo17 := ⟨hh15.1, hh15.2.1, l17, hh15.2.2.2⟩
      refine W.eq (g2 := F0 m 153 ls16 [.int v17]) rfl ?_
      refine ff_if_eq hx hb (eX12_ruleTime (153, .ifCond .eq 16, 3) (List.mem_of_getElem? (i := 77) rfl)) (tgt := 169) rfl (fun c18 => ?_) (fun c18 => ?_)
      · skip
        exact jn169 hv v15 mn hw x15.2 ls16 _ _ (by omega) (by omega) (by omega) (by rw [htot]; unfold t124 mnG; rw [hx10, if_pos (by omega)]; dsimp only; rw [hx15, if_neg (by omega), show v15.toInt = x15.1 by omega]) mf15_a_33 hh17 kp15 j15 (lv_sub hl16 [2, 0, 3, 4, 5, 6] rfl)
      · skip
        refine lv_iload hx hb (eX12_ruleTime (156, .iload 5, 2) (List.mem_of_getElem? (i := 78) rfl)) (lv_at hl16 0 rfl) ?_
        refine ff_bipush hx hb (eX12_ruleTime (158, .bipush 59, 2) (List.mem_of_getElem? (i := 79) rfl)) (by decide) (by decide) (fun v19 e19 => ?_)
        refine ff_icmp_le hx hb (eX12_ruleTime (160, .if_icmp .le 9, 3) (List.mem_of_getElem? (i := 80) rfl)) (tgt := 169) rfl (fun c20 => ?_) (fun c20 => ?_)
        · skip
          exact jn169 hv v15 mn hw x15.2 ls16 _ _ (by omega) (by omega) (by omega) (by rw [htot]; unfold t124 mnG; rw [hx10, if_pos (by omega)]; dsimp only; rw [hx15, if_neg (by omega), show v15.toInt = x15.1 by omega]) mf15_a_33 hh17 kp15 j15 (lv_sub hl16 [2, 0, 3, 4, 5, 6] rfl)
        · skip
          refine lv_aload_n hx hb (eX12_ruleTime (163, .aload_n 0, 1) (List.mem_of_getElem? (i := 81) rfl)) rfl (lv_at hl16 4 rfl) ?_
          refine lv_iload hx hb (eX12_ruleTime (164, .iload 6, 2) (List.mem_of_getElem? (i := 82) rfl)) (lv_at hl16 1 rfl) ?_
          refine tz_rowV (As := [.int av12]) (st := []) (b := a) (C := RX12) (Ts := gT) hx hb hml hown h2 (fun _ h => h) (hX12_bad l D cA ro sz H0 a av12 (x10.2.1) T (x15.2) ha (by omega)) ⟨rfl, rfl⟩ ⟨by decide, by decide⟩ ⟨by decide, by decide⟩ (tb_8 47 rfl rfl) (tb_1 12 rfl rfl) (tb_8 44 rfl rfl) (tb_8 46 rfl rfl) (tb_0 37 rfl rfl) (show yX12_bad.cls ≠ "java/lang/invoke/MethodHandle" ∧ yX12_bad.cls ≠ "java/lang/invoke/VarHandle" ∧ (parseMethodDescriptor yX12_bad.desc).map (fun d => d.parameters.length) = some 1 by decide +kernel) zs_blind (zs_ob hh17 ha (show RTg[11]? = some (0, 11, 0, fsX12) from rfl) (zCX12 hKn.1)) (fun U hU hW => ⟨rfl, by rw [hU]; exact hh17.l0, zKb s U hW.alike hKn, by rw [hU]; exact j15⟩) hh17.2.2.1 hl16.1 (Nat.le_of_ble_eq_true rfl) (eX12_ruleTime (166, .invokevirtual 335, 3) (List.mem_of_getElem? (i := 83) rfl)) (fun r21 s21 t21 lo21 g21 f21 l21 => ?_)
          obtain ⟨q21, z21, c21, j21⟩ := f21
          cases q21
          rw [g21] at c21
          have hh21 : zh_ok D cA RTg ro sz H0 t21.heap lo21 := ⟨z21.1, z21.2.1, l21, z21.2.2.2⟩
          have kp21 := kp15.trans (c21.mono (ms' := tM) (by decide))
          generalize hx21 : bdG (x10.2.1) x15.2 = x21 at j21
          have uu21 := j21.2.2
          unfold vOK at uu21
          have mf21_a_33 := (c21.1 a 11 33 11 0 fsX12 ha rfl (by decide) (by decide)).trans mf15_a_33
          have mf21_a_13 := (c21.1 a 11 13 11 0 fsX12 ha rfl (by decide) (by decide)).trans mf15_a_13
          refine W.eq (g2 := F0 m 169 ls16 []) rfl ?_
          exact jn169 hv v15 mn hw x21 ls16 _ _ (by omega) (by omega) (by omega) (by rw [htot]; unfold t124 mnG; rw [hx10, if_pos (by omega)]; dsimp only; rw [hx15, if_pos ⟨by omega, by omega⟩, hx21, show v15.toInt = x15.1 by omega]) mf21_a_33 hh21 kp21 j21 (lv_sub hl16 [2, 0, 3, 4, 5, 6] rfl)
  have jn103 : ∀ (hv mn hw : Int32) (g : uS) (ls : Array Slot) (H : Heap) (lo0 : List Loc), 0 ≤ hv.toInt ∧ hv.toInt ≤ 99 → (mn.toInt = 0 ∨ mn.toInt = 1) → tmG T k1 k2 sg = t103 T mn.toInt hw.toInt k2 hv.toInt g → zh_f D H a 11 33 = .int hw → zh_ok D cA RTg ro sz H0 H lo0 → zc_kept D RTg ro tM s.heap H → jV D cA ro H a T g → lv_has ls 7 [(4, .int hv), (3, .int mn), (0, .ref a), (1, .int sn), (2, .int mo)] → W p l e (headSpec (gW yX12_ruleTime cX12_ruleTime 7 (some .int)) { frames := 2, cells := 0, slots := 0, locals := 43 }).room s m ([.ref a, .int sn, .int mo] : List Value).toArray below meth c H lo0 0 0 (MQ below (fun _ st oc t => ∃ r hv : Int32, oc = .returned (some (.int r)) ∧ r.toInt = (tmG T k1 k2 sg).1.1 ∧ zh_f D t.heap a 11 33 = .int hv ∧ hv.toInt = (tmG T k1 k2 sg).1.2 ∧ zh_ok D cA RTg ro sz H0 t.heap [] ∧ zc_kept D RTg ro tM st.heap t.heap ∧ jV D cA ro t.heap a T (tmG T k1 k2 sg).2) ([.ref a, .int sn, .int mo] : List Value).toArray s 0 0 (zy_fr sz)) (F0 m 103 ls []) := by
    intro hv mn hw g ls H lo0 b1 b3 htot fh hh0 kpl jl hl
    have hul := jl.2.2
    unfold vOK at hul
    refine lv_aload_n hx hb (eX12_ruleTime (103, .aload_n 0, 1) (List.mem_of_getElem? (i := 52) rfl)) rfl (lv_at hl 2 rfl) ?_
    refine tz_rowV (As := []) (st := []) (b := a) (C := RX12) (Ts := gT) hx hb hml hown h2 (fun _ h => h) (hX12_isGood l D cA ro sz H0 a T (g) ha) ⟨rfl, rfl⟩ ⟨by decide, by decide⟩ ⟨by decide, by decide⟩ (tb_8 17 rfl rfl) (tb_1 12 rfl rfl) (tb_8 14 rfl rfl) (tb_8 16 rfl rfl) (tb_0 31 rfl rfl) (show yX12_isGood.cls ≠ "java/lang/invoke/MethodHandle" ∧ yX12_isGood.cls ≠ "java/lang/invoke/VarHandle" ∧ (parseMethodDescriptor yX12_isGood.desc).map (fun d => d.parameters.length) = some 0 by decide +kernel) zs_blind (zs_ob hh0 ha (show RTg[11]? = some (0, 11, 0, fsX12) from rfl) (zCX12 hKn.1)) (fun U hU hW => ⟨rfl, by rw [hU]; exact hh0.l0, zKb s U hW.alike hKn, by rw [hU]; exact jl⟩) hh0.2.2.1 hl.1 (Nat.le_of_ble_eq_true rfl) (eX12_ruleTime (104, .invokevirtual 305, 3) (List.mem_of_getElem? (i := 53) rfl)) (fun r22 s22 t22 lo22 g22 f22 l22 => ?_)
    obtain ⟨z22, v22, q22, e22⟩ := f22
    cases q22
    rw [z22, g22]
    have hh22 : zh_ok D cA RTg ro sz H0 H lo22 := ⟨hh0.1, hh0.2.1, l22, hh0.2.2.2⟩
    refine W.eq (g2 := F0 m 107 ls [.int v22]) rfl ?_
    refine ff_if_eq hx hb (eX12_ruleTime (107, .ifCond .eq 17, 3) (List.mem_of_getElem? (i := 54) rfl)) (tgt := 124) rfl (fun c23 => ?_) (fun c23 => ?_)
    · skip
      exact jn124 hv mn hw g ls _ _ (by omega) (by omega) (by rw [htot]; unfold t103; rw [if_neg (by omega)]) fh hh22 kpl jl (lv_sub hl [0, 1, 2, 3, 4] rfl)
    · skip
      refine lv_iload hx hb (eX12_ruleTime (110, .iload 4, 2) (List.mem_of_getElem? (i := 55) rfl)) (lv_at hl 0 rfl) ?_
      refine lv_iload_n hx hb (eX12_ruleTime (112, .iload_n 2, 1) (List.mem_of_getElem? (i := 56) rfl)) rfl (lv_at hl 4 rfl) ?_
      refine ff_icmp_le hx hb (eX12_ruleTime (113, .if_icmp .le 11, 3) (List.mem_of_getElem? (i := 57) rfl)) (tgt := 124) rfl (fun c24 => ?_) (fun c24 => ?_)
      · skip
        exact jn124 hv mn hw g ls _ _ (by omega) (by omega) (by rw [htot]; unfold t103; rw [if_neg (by omega)]) fh hh22 kpl jl (lv_sub hl [0, 1, 2, 3, 4] rfl)
      · skip
        refine lv_aload_n hx hb (eX12_ruleTime (116, .aload_n 0, 1) (List.mem_of_getElem? (i := 58) rfl)) rfl (lv_at hl 2 rfl) ?_
        refine lv_aload_n hx hb (eX12_ruleTime (117, .aload_n 0, 1) (List.mem_of_getElem? (i := 59) rfl)) rfl (lv_at hl 2 rfl) ?_
        refine tz_get (r := 11) (k := 33) (t := (0, (-2147483648), 2147483647)) hx hb hh22 ha rfl rfl (hcl11 328 33 (0, (-2147483648), 2147483647) (by decide) rfl).1 fh (eX12_ruleTime (118, .getfield 328, 3) (List.mem_of_getElem? (i := 60) rfl)) ?_
        refine tz_rowV (As := [.int hw]) (st := []) (b := a) (C := RX12) (Ts := gT) hx hb hml hown h2 (fun _ h => h) (hX12_bad l D cA ro sz H0 a hw (hw.toInt) T (g) ha (by omega)) ⟨rfl, rfl⟩ ⟨by decide, by decide⟩ ⟨by decide, by decide⟩ (tb_8 47 rfl rfl) (tb_1 12 rfl rfl) (tb_8 44 rfl rfl) (tb_8 46 rfl rfl) (tb_0 37 rfl rfl) (show yX12_bad.cls ≠ "java/lang/invoke/MethodHandle" ∧ yX12_bad.cls ≠ "java/lang/invoke/VarHandle" ∧ (parseMethodDescriptor yX12_bad.desc).map (fun d => d.parameters.length) = some 1 by decide +kernel) zs_blind (zs_ob hh22 ha (show RTg[11]? = some (0, 11, 0, fsX12) from rfl) (zCX12 hKn.1)) (fun U hU hW => ⟨rfl, by rw [hU]; exact hh22.l0, zKb s U hW.alike hKn, by rw [hU]; exact jl⟩) hh22.2.2.1 hl.1 (Nat.le_of_ble_eq_true rfl) (eX12_ruleTime (121, .invokevirtual 335, 3) (List.mem_of_getElem? (i := 61) rfl)) (fun r25 s25 t25 lo25 g25 f25 l25 => ?_)
        obtain ⟨q25, z25, c25, j25⟩ := f25
        cases q25
        rw [g25] at c25
        have hh25 : zh_ok D cA RTg ro sz H0 t25.heap lo25 := ⟨z25.1, z25.2.1, l25, z25.2.2.2⟩
        have kp25 := kpl.trans (c25.mono (ms' := tM) (by decide))
        generalize hx25 : bdG (hw.toInt) g = x25 at j25
        have uu25 := j25.2.2
        unfold vOK at uu25
        have mf25_a_33 := (c25.1 a 11 33 11 0 fsX12 ha rfl (by decide) (by decide)).trans fh
        refine W.eq (g2 := F0 m 124 ls []) rfl ?_
        exact jn124 hv mn hw x25 ls _ _ (by omega) (by omega) (by rw [htot]; unfold t103; rw [if_pos ⟨by omega, by omega⟩, hx25]) mf25_a_33 hh25 kp25 j25 (lv_sub hl [0, 1, 2, 3, 4] rfl)
  have jn58 : ∀ (mn : Int32) (g : uS) (ls : Array Slot) (H : Heap) (lo0 : List Loc), (mn.toInt = 0 ∨ mn.toInt = 1) → tmG T k1 k2 sg = t58 T mn.toInt k2 g → zh_ok D cA RTg ro sz H0 H lo0 → zc_kept D RTg ro tM s.heap H → jV D cA ro H a T g → lv_has ls 7 [(3, .int mn), (0, .ref a), (1, .int sn), (2, .int mo)] → W p l e (headSpec (gW yX12_ruleTime cX12_ruleTime 7 (some .int)) { frames := 2, cells := 0, slots := 0, locals := 43 }).room s m ([.ref a, .int sn, .int mo] : List Value).toArray below meth c H lo0 0 0 (MQ below (fun _ st oc t => ∃ r hv : Int32, oc = .returned (some (.int r)) ∧ r.toInt = (tmG T k1 k2 sg).1.1 ∧ zh_f D t.heap a 11 33 = .int hv ∧ hv.toInt = (tmG T k1 k2 sg).1.2 ∧ zh_ok D cA RTg ro sz H0 t.heap [] ∧ zc_kept D RTg ro tM st.heap t.heap ∧ jV D cA ro t.heap a T (tmG T k1 k2 sg).2) ([.ref a, .int sn, .int mo] : List Value).toArray s 0 0 (zy_fr sz)) (F0 m 58 ls []) := by
    intro mn g ls H lo0 b3 htot hh0 kpl jl hl
    have hul := jl.2.2
    unfold vOK at hul
    refine lv_aload_n hx hb (eX12_ruleTime (58, .aload_n 0, 1) (List.mem_of_getElem? (i := 29) rfl)) rfl (lv_at hl 1 rfl) ?_
    refine lv_aload_n hx hb (eX12_ruleTime (59, .aload_n 0, 1) (List.mem_of_getElem? (i := 30) rfl)) rfl (lv_at hl 1 rfl) ?_
    obtain ⟨jt26, ⟨av26, fv26, bv26, f2926, f3026, f3126, hav26, hfv26, hbv26⟩, hu26⟩ := id jl
    have hw26 := hu26
    unfold vOK at hw26
    obtain ⟨tb26, n26, z26, f1226, r026, f1326, hn26, hc26, hz26⟩ := id jt26
    refine tz_get (r := 11) (k := 29) (t := (0, 0, 120)) hx hb hh0 ha rfl rfl (hcl11 293 29 (0, 0, 120) (by decide) rfl).1 f2926 (eX12_ruleTime (60, .getfield 293, 3) (List.mem_of_getElem? (i := 31) rfl)) ?_
    refine tz_put (r := 11) (k := 33) (t := (0, (-2147483648), 2147483647)) hx hb hD hh0 ha rfl rfl ((hcl11 328 33 (0, (-2147483648), 2147483647) (by decide) rfl).2 (by decide)) (tz_i (zn_i32 _).1 (zn_i32 _).2) (eX12_ruleTime (63, .putfield 328, 3) (List.mem_of_getElem? (i := 32) rfl)) (fun H27 lo27 hh27 hf27 hk27 _ hq27 => ?_)
    have mf27_a_29 := (hk27.1 a 11 29 11 0 fsX12 ha rfl (by decide) (by decide)).trans f2926
    have mf27_a_30 := (hk27.1 a 11 30 11 0 fsX12 ha rfl (by decide) (by decide)).trans f3026
    have mf27_a_31 := (hk27.1 a 11 31 11 0 fsX12 ha rfl (by decide) (by decide)).trans f3126
    have mf27_a_13 := (hk27.1 a 11 13 11 0 fsX12 ha rfl (by decide) (by decide)).trans f1326
    have kp27 := kpl.trans (hk27.mono (ms' := tM) (fun x hx => by cases List.mem_singleton.mp hx; decide))
    have jm27 := (jl).kept ha hk27 (by decide)
    refine lv_aload_n hx hb (eX12_ruleTime (66, .aload_n 0, 1) (List.mem_of_getElem? (i := 33) rfl)) rfl (lv_at hl 1 rfl) ?_
    refine ff_iconst hx hb (eX12_ruleTime (67, .iconst 1, 1) (List.mem_of_getElem? (i := 34) rfl)) (by decide) (by decide) (fun v28 e28 => ?_)
    refine tz_rowV (As := [.int v28]) (st := []) (b := a) (C := RX12) (Ts := gT) hx hb hml hown h2 (fun _ h => h) (hX12_digits l D cA ro sz H0 a v28 1 T (g) ha (by omega) (by decide)) ⟨rfl, rfl⟩ ⟨by decide, by decide⟩ ⟨by decide, by decide⟩ (tb_8 43 rfl rfl) (tb_1 12 rfl rfl) (tb_8 40 rfl rfl) (tb_8 42 rfl rfl) (tb_0 36 rfl rfl) (show yX12_digits.cls ≠ "java/lang/invoke/MethodHandle" ∧ yX12_digits.cls ≠ "java/lang/invoke/VarHandle" ∧ (parseMethodDescriptor yX12_digits.desc).map (fun d => d.parameters.length) = some 1 by decide +kernel) zs_blind (zs_ob hh27 ha (show RTg[11]? = some (0, 11, 0, fsX12) from rfl) (zCX12 hKn.1)) (fun U hU hW => ⟨rfl, by rw [hU]; exact hh27.l0, zKb s U hW.alike hKn, by rw [hU]; exact jm27⟩) hh27.2.2.1 hl.1 (Nat.le_of_ble_eq_true rfl) (eX12_ruleTime (68, .invokevirtual 331, 3) (List.mem_of_getElem? (i := 35) rfl)) (fun r29 s29 t29 lo29 g29 f29 l29 => ?_)
    obtain ⟨v29, q29, e29, z29, c29, j29⟩ := f29
    cases q29
    rw [g29] at c29
    have hh29 : zh_ok D cA RTg ro sz H0 t29.heap lo29 := ⟨z29.1, z29.2.1, l29, z29.2.2.2⟩
    have kp29 := kp27.trans (c29.mono (ms' := tM) (by decide))
    have kf29 := dgG_u1 (T := T) (r := g)
    generalize hx29 : dgG T 1 0 g = x29 at j29 e29 kf29
    have uu29 := j29.2.2
    unfold vOK at uu29
    have mf29_a_13 := (c29.1 a 11 13 11 0 fsX12 ha rfl (by decide) (by decide)).trans mf27_a_13
    have mf29_a_33 := (c29.1 a 11 33 11 0 fsX12 ha rfl (by decide) (by decide)).trans hf27
    refine W.eq (g2 := F0 m 71 ls [.int v29]) rfl ?_
    refine lv_istore hx hb (eX12_ruleTime (71, .istore 4, 2) (List.mem_of_getElem? (i := 36) rfl)) hl (by decide) rfl (fun ls30 hl30 => ?_)
    refine lv_aload_n hx hb (eX12_ruleTime (73, .aload_n 0, 1) (List.mem_of_getElem? (i := 37) rfl)) rfl (lv_at hl30 2 rfl) ?_
    refine tz_rowV (As := []) (st := []) (b := a) (C := RX12) (Ts := gT) hx hb hml hown h2 (fun _ h => h) (hX12_isGood l D cA ro sz H0 a T (x29.2) ha) ⟨rfl, rfl⟩ ⟨by decide, by decide⟩ ⟨by decide, by decide⟩ (tb_8 17 rfl rfl) (tb_1 12 rfl rfl) (tb_8 14 rfl rfl) (tb_8 16 rfl rfl) (tb_0 31 rfl rfl) (show yX12_isGood.cls ≠ "java/lang/invoke/MethodHandle" ∧ yX12_isGood.cls ≠ "java/lang/invoke/VarHandle" ∧ (parseMethodDescriptor yX12_isGood.desc).map (fun d => d.parameters.length) = some 0 by decide +kernel) zs_blind (zs_ob hh29 ha (show RTg[11]? = some (0, 11, 0, fsX12) from rfl) (zCX12 hKn.1)) (fun U hU hW => ⟨rfl, by rw [hU]; exact hh29.l0, zKb s U hW.alike hKn, by rw [hU]; exact j29⟩) hh29.2.2.1 hl30.1 (Nat.le_of_ble_eq_true rfl) (eX12_ruleTime (74, .invokevirtual 305, 3) (List.mem_of_getElem? (i := 38) rfl)) (fun r31 s31 t31 lo31 g31 f31 l31 => ?_)
    obtain ⟨z31, v31, q31, e31⟩ := f31
    cases q31
    rw [z31, g31]
    have hh31 : zh_ok D cA RTg ro sz H0 t29.heap lo31 := ⟨hh29.1, hh29.2.1, l31, hh29.2.2.2⟩
    refine W.eq (g2 := F0 m 77 ls30 [.int v31]) rfl ?_
    refine ff_if_eq hx hb (eX12_ruleTime (77, .ifCond .eq 26, 3) (List.mem_of_getElem? (i := 39) rfl)) (tgt := 103) rfl (fun c32 => ?_) (fun c32 => ?_)
    · skip
      exact jn103 v29 mn av26 x29.2 ls30 _ _ (by omega) (by omega) (by rw [htot]; unfold t58; rw [hx29, if_neg (by omega), show v29.toInt = x29.1 by omega, show av26.toInt = g.1 by omega]) mf29_a_33 hh31 kp29 j29 (lv_sub hl30 [0, 1, 2, 3, 4] rfl)
    · skip
      refine lv_aload_n hx hb (eX12_ruleTime (80, .aload_n 0, 1) (List.mem_of_getElem? (i := 40) rfl)) rfl (lv_at hl30 2 rfl) ?_
      refine tz_rowV (As := []) (st := []) (b := a) (C := RX12) (Ts := gT) hx hb hml hown h2 (fun _ h => h) (hX12_sign l D cA ro sz H0 a T (x29.2) ha) ⟨rfl, rfl⟩ ⟨by decide, by decide⟩ ⟨by decide, by decide⟩ (tb_8 21 rfl rfl) (tb_1 12 rfl rfl) (tb_8 18 rfl rfl) (tb_8 20 rfl rfl) (tb_0 32 rfl rfl) (show yX12_sign.cls ≠ "java/lang/invoke/MethodHandle" ∧ yX12_sign.cls ≠ "java/lang/invoke/VarHandle" ∧ (parseMethodDescriptor yX12_sign.desc).map (fun d => d.parameters.length) = some 0 by decide +kernel) zs_blind (zs_ob hh31 ha (show RTg[11]? = some (0, 11, 0, fsX12) from rfl) (zCX12 hKn.1)) (fun U hU hW => ⟨rfl, by rw [hU]; exact hh31.l0, zKb s U hW.alike hKn, by rw [hU]; exact j29⟩) hh31.2.2.1 hl30.1 (Nat.le_of_ble_eq_true rfl) (eX12_ruleTime (81, .invokevirtual 309, 3) (List.mem_of_getElem? (i := 41) rfl)) (fun r33 s33 t33 lo33 g33 f33 l33 => ?_)
      obtain ⟨z33, v33, q33, e33⟩ := f33
      cases q33
      rw [z33, g33]
      have hh33 : zh_ok D cA RTg ro sz H0 t29.heap lo33 := ⟨hh31.1, hh31.2.1, l33, hh31.2.2.2⟩
      refine W.eq (g2 := F0 m 84 ls30 [.int v33]) rfl ?_
      refine zu_S (vs := [.int v33]) (rest := []) hx hb hml hown hts0 zu_BT (hX12_isDigit l v33) ⟨rfl, rfl⟩ ⟨by decide, by decide⟩ ⟨by decide, by decide⟩ (tb_8 27 rfl rfl) (tb_1 12 rfl rfl) (tb_8 25 rfl rfl) (tb_8 26 rfl rfl) (show yX12_isDigit.cls ≠ "java/lang/invoke/MethodHandle" ∧ yX12_isDigit.cls ≠ "java/lang/invoke/VarHandle" ∧ (parseMethodDescriptor yX12_isDigit.desc).map (fun d => d.parameters.length) = some 1 by decide +kernel) rfl (fun _ _ _ => trivial) hl30.1 (Nat.le_of_ble_eq_true rfl) (eX12_ruleTime (84, .invokestatic 319, 3) (List.mem_of_getElem? (i := 42) rfl)) (fun w34 f34 => ?_)
      obtain ⟨v34, rfl, e34⟩ := f34
      refine ff_if_eq hx hb (eX12_ruleTime (87, .ifCond .eq 16, 3) (List.mem_of_getElem? (i := 43) rfl)) (tgt := 103) rfl (fun c35 => ?_) (fun c35 => ?_)
      · have hdn : ¬ isD (byI T x29.2.1) := by rcases e34 with h | h; exfalso; omega; rw [← e33]; exact h.2
        exact jn103 v29 mn av26 x29.2 ls30 _ _ (by omega) (by omega) (by rw [htot]; unfold t58; rw [hx29, if_neg (fun q => hdn q.2), show v29.toInt = x29.1 by omega, show av26.toInt = g.1 by omega]) mf29_a_33 hh33 kp29 j29 (lv_sub hl30 [0, 1, 2, 3, 4] rfl)
      · have hdg : isD (byI T x29.2.1) := by rcases e34 with h | h; rw [← e33]; exact h.2; exfalso; omega
        refine ff_bipush hx hb (eX12_ruleTime (90, .bipush 10, 2) (List.mem_of_getElem? (i := 44) rfl)) (by decide) (by decide) (fun v36 e36 => ?_)
        refine lv_iload hx hb (eX12_ruleTime (92, .iload 4, 2) (List.mem_of_getElem? (i := 45) rfl)) (lv_at hl30 0 rfl) ?_
        refine ff_imulL hx hb (eX12_ruleTime (94, .imul, 1) (List.mem_of_getElem? (i := 46) rfl)) (e36) (by omega) (by omega) (fun v37 e37 => ?_)
        refine lv_aload_n hx hb (eX12_ruleTime (95, .aload_n 0, 1) (List.mem_of_getElem? (i := 47) rfl)) rfl (lv_at hl30 2 rfl) ?_
        refine ff_iconst hx hb (eX12_ruleTime (96, .iconst 1, 1) (List.mem_of_getElem? (i := 48) rfl)) (by decide) (by decide) (fun v38 e38 => ?_)
        refine tz_rowV (As := [.int v38]) (st := [.int v37]) (b := a) (C := RX12) (Ts := gT) hx hb hml hown h2 (fun _ h => h) (hX12_digits l D cA ro sz H0 a v38 1 T (x29.2) ha (by omega) (by decide)) ⟨rfl, rfl⟩ ⟨by decide, by decide⟩ ⟨by decide, by decide⟩ (tb_8 43 rfl rfl) (tb_1 12 rfl rfl) (tb_8 40 rfl rfl) (tb_8 42 rfl rfl) (tb_0 36 rfl rfl) (show yX12_digits.cls ≠ "java/lang/invoke/MethodHandle" ∧ yX12_digits.cls ≠ "java/lang/invoke/VarHandle" ∧ (parseMethodDescriptor yX12_digits.desc).map (fun d => d.parameters.length) = some 1 by decide +kernel) zs_blind (zs_ob hh33 ha (show RTg[11]? = some (0, 11, 0, fsX12) from rfl) (zCX12 hKn.1)) (fun U hU hW => ⟨rfl, by rw [hU]; exact hh33.l0, zKb s U hW.alike hKn, by rw [hU]; exact j29⟩) hh33.2.2.1 hl30.1 (Nat.le_of_ble_eq_true rfl) (eX12_ruleTime (97, .invokevirtual 331, 3) (List.mem_of_getElem? (i := 49) rfl)) (fun r39 s39 t39 lo39 g39 f39 l39 => ?_)
        obtain ⟨v39, q39, e39, z39, c39, j39⟩ := f39
        cases q39
        rw [g39] at c39
        have hh39 : zh_ok D cA RTg ro sz H0 t39.heap lo39 := ⟨z39.1, z39.2.1, l39, z39.2.2.2⟩
        have kp39 := kp29.trans (c39.mono (ms' := tM) (by decide))
        have kf39 := dgG_u1 (T := T) (r := x29.2)
        generalize hx39 : dgG T 1 0 x29.2 = x39 at j39 e39 kf39
        have uu39 := j39.2.2
        unfold vOK at uu39
        have mf39_a_13 := (c39.1 a 11 13 11 0 fsX12 ha rfl (by decide) (by decide)).trans mf29_a_13
        have mf39_a_33 := (c39.1 a 11 33 11 0 fsX12 ha rfl (by decide) (by decide)).trans mf29_a_33
        refine W.eq (g2 := F0 m 100 ls30 [.int v39, .int v37]) rfl ?_
        refine ff_iadd hx hb (eX12_ruleTime (100, .iadd, 1) (List.mem_of_getElem? (i := 50) rfl)) (by omega) (by omega) (fun v40 e40 => ?_)
        refine lv_istore hx hb (eX12_ruleTime (101, .istore 4, 2) (List.mem_of_getElem? (i := 51) rfl)) hl30 (by decide) rfl (fun ls41 hl41 => ?_)
        exact jn103 v40 mn av26 x39.2 ls41 _ _ (by omega) (by omega) (by rw [htot]; unfold t58; rw [hx29, if_pos ⟨by omega, hdg⟩, hx39, show v40.toInt = 10 * x29.1 + x39.1 by omega, show av26.toInt = g.1 by omega]) mf39_a_33 hh39 kp39 j39 (lv_sub hl41 [0, 1, 2, 3, 4] rfl)
  refine lv_iload_n hx hb (eX12_ruleTime (0, .iload_n 1, 1) (List.mem_of_getElem? (i := 0) rfl)) rfl (lv_at hl 1 rfl) ?_
  refine ff_if_eq hx hb (eX12_ruleTime (1, .ifCond .eq 16, 3) (List.mem_of_getElem? (i := 1) rfl)) (tgt := 17) rfl (fun c42 => ?_) (fun c42 => ?_)
  · skip
    refine ff_iconst hx hb (eX12_ruleTime (17, .iconst 0, 1) (List.mem_of_getElem? (i := 8) rfl)) (by decide) (by decide) (fun v43 e43 => ?_)
    refine lv_istore_n hx hb (eX12_ruleTime (18, .istore_n 3, 1) (List.mem_of_getElem? (i := 9) rfl)) rfl hl (by decide) rfl (fun ls44 hl44 => ?_)
    refine lv_iload_n hx hb (eX12_ruleTime (19, .iload_n 1, 1) (List.mem_of_getElem? (i := 10) rfl)) rfl (lv_at hl44 2 rfl) ?_
    refine ff_if_eq hx hb (eX12_ruleTime (20, .ifCond .eq 38, 3) (List.mem_of_getElem? (i := 11) rfl)) (tgt := 58) rfl (fun c45 => ?_) (fun c45 => ?_)
    · skip
      exact jn58 v43 sg ls44 _ _ (by omega) (by rw [tmG_58]; unfold sgG; rw [if_neg (by omega), if_neg (by omega), show v43.toInt = 0 by omega]) hh kp0 hJ (lv_sub hl44 [0, 1, 2, 3] rfl)
    · skip
      refine lv_aload_n hx hb (eX12_ruleTime (23, .aload_n 0, 1) (List.mem_of_getElem? (i := 12) rfl)) rfl (lv_at hl44 1 rfl) ?_
      refine tz_rowV (As := []) (st := []) (b := a) (C := RX12) (Ts := gT) hx hb hml hown h2 (fun _ h => h) (hX12_isGood l D cA ro sz H0 a T (sg) ha) ⟨rfl, rfl⟩ ⟨by decide, by decide⟩ ⟨by decide, by decide⟩ (tb_8 17 rfl rfl) (tb_1 12 rfl rfl) (tb_8 14 rfl rfl) (tb_8 16 rfl rfl) (tb_0 31 rfl rfl) (show yX12_isGood.cls ≠ "java/lang/invoke/MethodHandle" ∧ yX12_isGood.cls ≠ "java/lang/invoke/VarHandle" ∧ (parseMethodDescriptor yX12_isGood.desc).map (fun d => d.parameters.length) = some 0 by decide +kernel) zs_blind (zs_ob hh ha (show RTg[11]? = some (0, 11, 0, fsX12) from rfl) (zCX12 hKn.1)) (fun U hU hW => ⟨rfl, by rw [hU]; exact hh.l0, zKb s U hW.alike hKn, by rw [hU]; exact hJ⟩) hh.2.2.1 hl44.1 (Nat.le_of_ble_eq_true rfl) (eX12_ruleTime (24, .invokevirtual 305, 3) (List.mem_of_getElem? (i := 13) rfl)) (fun r46 s46 t46 lo46 g46 f46 l46 => ?_)
      obtain ⟨z46, v46, q46, e46⟩ := f46
      cases q46
      rw [z46, g46]
      have hh46 : zh_ok D cA RTg ro sz H0 s.heap lo46 := ⟨hh.1, hh.2.1, l46, hh.2.2.2⟩
      refine W.eq (g2 := F0 m 27 ls44 [.int v46]) rfl ?_
      refine ff_if_eq hx hb (eX12_ruleTime (27, .ifCond .eq 31, 3) (List.mem_of_getElem? (i := 14) rfl)) (tgt := 58) rfl (fun c47 => ?_) (fun c47 => ?_)
      · skip
        exact jn58 v43 sg ls44 _ _ (by omega) (by rw [tmG_58]; unfold sgG; rw [if_neg (by omega), if_neg (by omega), show v43.toInt = 0 by omega]) hh46 kp0 hJ (lv_sub hl44 [0, 1, 2, 3] rfl)
      · skip
        refine lv_aload_n hx hb (eX12_ruleTime (30, .aload_n 0, 1) (List.mem_of_getElem? (i := 15) rfl)) rfl (lv_at hl44 1 rfl) ?_
        refine tz_rowV (As := []) (st := []) (b := a) (C := RX12) (Ts := gT) hx hb hml hown h2 (fun _ h => h) (hX12_sign l D cA ro sz H0 a T (sg) ha) ⟨rfl, rfl⟩ ⟨by decide, by decide⟩ ⟨by decide, by decide⟩ (tb_8 21 rfl rfl) (tb_1 12 rfl rfl) (tb_8 18 rfl rfl) (tb_8 20 rfl rfl) (tb_0 32 rfl rfl) (show yX12_sign.cls ≠ "java/lang/invoke/MethodHandle" ∧ yX12_sign.cls ≠ "java/lang/invoke/VarHandle" ∧ (parseMethodDescriptor yX12_sign.desc).map (fun d => d.parameters.length) = some 0 by decide +kernel) zs_blind (zs_ob hh46 ha (show RTg[11]? = some (0, 11, 0, fsX12) from rfl) (zCX12 hKn.1)) (fun U hU hW => ⟨rfl, by rw [hU]; exact hh46.l0, zKb s U hW.alike hKn, by rw [hU]; exact hJ⟩) hh46.2.2.1 hl44.1 (Nat.le_of_ble_eq_true rfl) (eX12_ruleTime (31, .invokevirtual 309, 3) (List.mem_of_getElem? (i := 16) rfl)) (fun r48 s48 t48 lo48 g48 f48 l48 => ?_)
        obtain ⟨z48, v48, q48, e48⟩ := f48
        cases q48
        rw [z48, g48]
        have hh48 : zh_ok D cA RTg ro sz H0 s.heap lo48 := ⟨hh46.1, hh46.2.1, l48, hh46.2.2.2⟩
        refine W.eq (g2 := F0 m 34 ls44 [.int v48]) rfl ?_
        refine ff_bipush hx hb (eX12_ruleTime (34, .bipush 43, 2) (List.mem_of_getElem? (i := 17) rfl)) (by decide) (by decide) (fun v49 e49 => ?_)
        refine ff_icmp_eq hx hb (eX12_ruleTime (36, .if_icmp .eq 12, 3) (List.mem_of_getElem? (i := 18) rfl)) (tgt := 48) rfl (fun c50 => ?_) (fun c50 => ?_)
        · skip
          refine lv_aload_n hx hb (eX12_ruleTime (48, .aload_n 0, 1) (List.mem_of_getElem? (i := 23) rfl)) rfl (lv_at hl44 1 rfl) ?_
          refine lv_dup hx hb (eX12_ruleTime (49, .dup, 1) (List.mem_of_getElem? (i := 24) rfl)) rfl ?_
          refine tz_get (r := 11) (k := 29) (t := (0, 0, 120)) hx hb hh48 ha rfl rfl (hcl11 293 29 (0, 0, 120) (by decide) rfl).1 f29 (eX12_ruleTime (50, .getfield 293, 3) (List.mem_of_getElem? (i := 25) rfl)) ?_
          refine ff_iconst hx hb (eX12_ruleTime (53, .iconst 1, 1) (List.mem_of_getElem? (i := 26) rfl)) (by decide) (by decide) (fun v51 e51 => ?_)
          refine ff_iadd hx hb (eX12_ruleTime (54, .iadd, 1) (List.mem_of_getElem? (i := 27) rfl)) (by omega) (by omega) (fun v52 e52 => ?_)
          have hlt53 : 0 ≤ v52.toInt ∧ v52.toInt ≤ 120 := by first | omega | (have h9 := byI_lt (T := T) (a := sg.1) (by omega) (by first | omega | exact isD_nn hdg | exact isN_nn hN); omega)
          refine tz_put (r := 11) (k := 29) (t := (0, 0, 120)) hx hb hD hh48 ha rfl rfl ((hcl11 293 29 (0, 0, 120) (by decide) rfl).2 (by decide)) (tz_i (by omega) (by omega)) (eX12_ruleTime (55, .putfield 293, 3) (List.mem_of_getElem? (i := 28) rfl)) (fun H54 lo54 hh54 hf54 hk54 _ hq54 => ?_)
          have mf54_a_12 := (hk54.1 a 11 12 11 0 fsX12 ha rfl (by decide) (by decide)).trans f12
          have mf54_a_13 := (hk54.1 a 11 13 11 0 fsX12 ha rfl (by decide) (by decide)).trans f13
          have mf54_a_30 := (hk54.1 a 11 30 11 0 fsX12 ha rfl (by decide) (by decide)).trans f30
          have mf54_a_31 := (hk54.1 a 11 31 11 0 fsX12 ha rfl (by decide) (by decide)).trans f31
          have mc54_tb := (hk54.2 tb 30 0 2 120 _ r0 rfl (by decide)).trans hc
          have kp54 := kp0.trans (hk54.mono (ms' := tM) (fun x hx => by cases List.mem_singleton.mp hx; decide))
          have jm54 := (hJ.1).kept ha hk54 (by decide) (by decide) (by decide)
          exact jn58 v43 (sg.1 + 1, sg.2) ls44 _ _ (by omega) (by rw [tmG_58]; unfold sgG; rw [if_neg (by omega), if_pos (by omega), show v43.toInt = 0 by omega]) hh54 kp54 ⟨jm54, ⟨_, _, _, hf54, mf54_a_30, mf54_a_31, by show _ = sg.1 + 1; omega, by first | assumption | omega, by first | assumption | omega⟩, adG_ok hu (by omega)⟩ (lv_sub hl44 [0, 1, 2, 3] rfl)
        · skip
          refine lv_aload_n hx hb (eX12_ruleTime (39, .aload_n 0, 1) (List.mem_of_getElem? (i := 19) rfl)) rfl (lv_at hl44 1 rfl) ?_
          refine tz_rowV (As := []) (st := []) (b := a) (C := RX12) (Ts := gT) hx hb hml hown h2 (fun _ h => h) (hX12_sign l D cA ro sz H0 a T (sg) ha) ⟨rfl, rfl⟩ ⟨by decide, by decide⟩ ⟨by decide, by decide⟩ (tb_8 21 rfl rfl) (tb_1 12 rfl rfl) (tb_8 18 rfl rfl) (tb_8 20 rfl rfl) (tb_0 32 rfl rfl) (show yX12_sign.cls ≠ "java/lang/invoke/MethodHandle" ∧ yX12_sign.cls ≠ "java/lang/invoke/VarHandle" ∧ (parseMethodDescriptor yX12_sign.desc).map (fun d => d.parameters.length) = some 0 by decide +kernel) zs_blind (zs_ob hh48 ha (show RTg[11]? = some (0, 11, 0, fsX12) from rfl) (zCX12 hKn.1)) (fun U hU hW => ⟨rfl, by rw [hU]; exact hh48.l0, zKb s U hW.alike hKn, by rw [hU]; exact hJ⟩) hh48.2.2.1 hl44.1 (Nat.le_of_ble_eq_true rfl) (eX12_ruleTime (40, .invokevirtual 309, 3) (List.mem_of_getElem? (i := 20) rfl)) (fun r55 s55 t55 lo55 g55 f55 l55 => ?_)
          obtain ⟨z55, v55, q55, e55⟩ := f55
          cases q55
          rw [z55, g55]
          have hh55 : zh_ok D cA RTg ro sz H0 s.heap lo55 := ⟨hh48.1, hh48.2.1, l55, hh48.2.2.2⟩
          refine W.eq (g2 := F0 m 43 ls44 [.int v55]) rfl ?_
          refine ff_bipush hx hb (eX12_ruleTime (43, .bipush 45, 2) (List.mem_of_getElem? (i := 21) rfl)) (by decide) (by decide) (fun v56 e56 => ?_)
          refine ff_icmp_ne hx hb (eX12_ruleTime (45, .if_icmp .ne 13, 3) (List.mem_of_getElem? (i := 22) rfl)) (tgt := 58) rfl (fun c57 => ?_) (fun c57 => ?_)
          · skip
            exact jn58 v43 sg ls44 _ _ (by omega) (by rw [tmG_58]; unfold sgG; rw [if_neg (by omega), if_neg (by omega), show v43.toInt = 0 by omega]) hh55 kp0 hJ (lv_sub hl44 [0, 1, 2, 3] rfl)
          · skip
            refine lv_aload_n hx hb (eX12_ruleTime (48, .aload_n 0, 1) (List.mem_of_getElem? (i := 23) rfl)) rfl (lv_at hl44 1 rfl) ?_
            refine lv_dup hx hb (eX12_ruleTime (49, .dup, 1) (List.mem_of_getElem? (i := 24) rfl)) rfl ?_
            refine tz_get (r := 11) (k := 29) (t := (0, 0, 120)) hx hb hh55 ha rfl rfl (hcl11 293 29 (0, 0, 120) (by decide) rfl).1 f29 (eX12_ruleTime (50, .getfield 293, 3) (List.mem_of_getElem? (i := 25) rfl)) ?_
            refine ff_iconst hx hb (eX12_ruleTime (53, .iconst 1, 1) (List.mem_of_getElem? (i := 26) rfl)) (by decide) (by decide) (fun v58 e58 => ?_)
            refine ff_iadd hx hb (eX12_ruleTime (54, .iadd, 1) (List.mem_of_getElem? (i := 27) rfl)) (by omega) (by omega) (fun v59 e59 => ?_)
            have hlt60 : 0 ≤ v59.toInt ∧ v59.toInt ≤ 120 := by first | omega | (have h9 := byI_lt (T := T) (a := sg.1) (by omega) (by first | omega | exact isD_nn hdg | exact isN_nn hN); omega)
            refine tz_put (r := 11) (k := 29) (t := (0, 0, 120)) hx hb hD hh55 ha rfl rfl ((hcl11 293 29 (0, 0, 120) (by decide) rfl).2 (by decide)) (tz_i (by omega) (by omega)) (eX12_ruleTime (55, .putfield 293, 3) (List.mem_of_getElem? (i := 28) rfl)) (fun H61 lo61 hh61 hf61 hk61 _ hq61 => ?_)
            have mf61_a_12 := (hk61.1 a 11 12 11 0 fsX12 ha rfl (by decide) (by decide)).trans f12
            have mf61_a_13 := (hk61.1 a 11 13 11 0 fsX12 ha rfl (by decide) (by decide)).trans f13
            have mf61_a_30 := (hk61.1 a 11 30 11 0 fsX12 ha rfl (by decide) (by decide)).trans f30
            have mf61_a_31 := (hk61.1 a 11 31 11 0 fsX12 ha rfl (by decide) (by decide)).trans f31
            have mc61_tb := (hk61.2 tb 30 0 2 120 _ r0 rfl (by decide)).trans hc
            have kp61 := kp0.trans (hk61.mono (ms' := tM) (fun x hx => by cases List.mem_singleton.mp hx; decide))
            have jm61 := (hJ.1).kept ha hk61 (by decide) (by decide) (by decide)
            exact jn58 v43 (sg.1 + 1, sg.2) ls44 _ _ (by omega) (by rw [tmG_58]; unfold sgG; rw [if_neg (by omega), if_pos (by omega), show v43.toInt = 0 by omega]) hh61 kp61 ⟨jm61, ⟨_, _, _, hf61, mf61_a_30, mf61_a_31, by show _ = sg.1 + 1; omega, by first | assumption | omega, by first | assumption | omega⟩, adG_ok hu (by omega)⟩ (lv_sub hl44 [0, 1, 2, 3] rfl)
  · skip
    refine lv_aload_n hx hb (eX12_ruleTime (4, .aload_n 0, 1) (List.mem_of_getElem? (i := 2) rfl)) rfl (lv_at hl 0 rfl) ?_
    refine tz_rowV (As := []) (st := []) (b := a) (C := RX12) (Ts := gT) hx hb hml hown h2 (fun _ h => h) (hX12_sign l D cA ro sz H0 a T (sg) ha) ⟨rfl, rfl⟩ ⟨by decide, by decide⟩ ⟨by decide, by decide⟩ (tb_8 21 rfl rfl) (tb_1 12 rfl rfl) (tb_8 18 rfl rfl) (tb_8 20 rfl rfl) (tb_0 32 rfl rfl) (show yX12_sign.cls ≠ "java/lang/invoke/MethodHandle" ∧ yX12_sign.cls ≠ "java/lang/invoke/VarHandle" ∧ (parseMethodDescriptor yX12_sign.desc).map (fun d => d.parameters.length) = some 0 by decide +kernel) zs_blind (zs_ob hh ha (show RTg[11]? = some (0, 11, 0, fsX12) from rfl) (zCX12 hKn.1)) (fun U hU hW => ⟨rfl, by rw [hU]; exact hh.l0, zKb s U hW.alike hKn, by rw [hU]; exact hJ⟩) hh.2.2.1 hl.1 (Nat.le_of_ble_eq_true rfl) (eX12_ruleTime (5, .invokevirtual 309, 3) (List.mem_of_getElem? (i := 3) rfl)) (fun r62 s62 t62 lo62 g62 f62 l62 => ?_)
    obtain ⟨z62, v62, q62, e62⟩ := f62
    cases q62
    rw [z62, g62]
    have hh62 : zh_ok D cA RTg ro sz H0 s.heap lo62 := ⟨hh.1, hh.2.1, l62, hh.2.2.2⟩
    refine W.eq (g2 := F0 m 8 ls [.int v62]) rfl ?_
    refine ff_bipush hx hb (eX12_ruleTime (8, .bipush 45, 2) (List.mem_of_getElem? (i := 4) rfl)) (by decide) (by decide) (fun v63 e63 => ?_)
    refine ff_icmp_ne hx hb (eX12_ruleTime (10, .if_icmp .ne 7, 3) (List.mem_of_getElem? (i := 5) rfl)) (tgt := 17) rfl (fun c64 => ?_) (fun c64 => ?_)
    · skip
      refine ff_iconst hx hb (eX12_ruleTime (17, .iconst 0, 1) (List.mem_of_getElem? (i := 8) rfl)) (by decide) (by decide) (fun v65 e65 => ?_)
      refine lv_istore_n hx hb (eX12_ruleTime (18, .istore_n 3, 1) (List.mem_of_getElem? (i := 9) rfl)) rfl hl (by decide) rfl (fun ls66 hl66 => ?_)
      refine lv_iload_n hx hb (eX12_ruleTime (19, .iload_n 1, 1) (List.mem_of_getElem? (i := 10) rfl)) rfl (lv_at hl66 2 rfl) ?_
      refine ff_if_eq hx hb (eX12_ruleTime (20, .ifCond .eq 38, 3) (List.mem_of_getElem? (i := 11) rfl)) (tgt := 58) rfl (fun c67 => ?_) (fun c67 => ?_)
      · skip
        exact jn58 v65 sg ls66 _ _ (by omega) (by rw [tmG_58]; unfold sgG; rw [if_neg (by omega), if_neg (by omega), show v65.toInt = 0 by omega]) hh62 kp0 hJ (lv_sub hl66 [0, 1, 2, 3] rfl)
      · skip
        refine lv_aload_n hx hb (eX12_ruleTime (23, .aload_n 0, 1) (List.mem_of_getElem? (i := 12) rfl)) rfl (lv_at hl66 1 rfl) ?_
        refine tz_rowV (As := []) (st := []) (b := a) (C := RX12) (Ts := gT) hx hb hml hown h2 (fun _ h => h) (hX12_isGood l D cA ro sz H0 a T (sg) ha) ⟨rfl, rfl⟩ ⟨by decide, by decide⟩ ⟨by decide, by decide⟩ (tb_8 17 rfl rfl) (tb_1 12 rfl rfl) (tb_8 14 rfl rfl) (tb_8 16 rfl rfl) (tb_0 31 rfl rfl) (show yX12_isGood.cls ≠ "java/lang/invoke/MethodHandle" ∧ yX12_isGood.cls ≠ "java/lang/invoke/VarHandle" ∧ (parseMethodDescriptor yX12_isGood.desc).map (fun d => d.parameters.length) = some 0 by decide +kernel) zs_blind (zs_ob hh62 ha (show RTg[11]? = some (0, 11, 0, fsX12) from rfl) (zCX12 hKn.1)) (fun U hU hW => ⟨rfl, by rw [hU]; exact hh62.l0, zKb s U hW.alike hKn, by rw [hU]; exact hJ⟩) hh62.2.2.1 hl66.1 (Nat.le_of_ble_eq_true rfl) (eX12_ruleTime (24, .invokevirtual 305, 3) (List.mem_of_getElem? (i := 13) rfl)) (fun r68 s68 t68 lo68 g68 f68 l68 => ?_)
        obtain ⟨z68, v68, q68, e68⟩ := f68
        cases q68
        rw [z68, g68]
        have hh68 : zh_ok D cA RTg ro sz H0 s.heap lo68 := ⟨hh62.1, hh62.2.1, l68, hh62.2.2.2⟩
        refine W.eq (g2 := F0 m 27 ls66 [.int v68]) rfl ?_
        refine ff_if_eq hx hb (eX12_ruleTime (27, .ifCond .eq 31, 3) (List.mem_of_getElem? (i := 14) rfl)) (tgt := 58) rfl (fun c69 => ?_) (fun c69 => ?_)
        · skip
          exact jn58 v65 sg ls66 _ _ (by omega) (by rw [tmG_58]; unfold sgG; rw [if_neg (by omega), if_neg (by omega), show v65.toInt = 0 by omega]) hh68 kp0 hJ (lv_sub hl66 [0, 1, 2, 3] rfl)
        · skip
          refine lv_aload_n hx hb (eX12_ruleTime (30, .aload_n 0, 1) (List.mem_of_getElem? (i := 15) rfl)) rfl (lv_at hl66 1 rfl) ?_
          refine tz_rowV (As := []) (st := []) (b := a) (C := RX12) (Ts := gT) hx hb hml hown h2 (fun _ h => h) (hX12_sign l D cA ro sz H0 a T (sg) ha) ⟨rfl, rfl⟩ ⟨by decide, by decide⟩ ⟨by decide, by decide⟩ (tb_8 21 rfl rfl) (tb_1 12 rfl rfl) (tb_8 18 rfl rfl) (tb_8 20 rfl rfl) (tb_0 32 rfl rfl) (show yX12_sign.cls ≠ "java/lang/invoke/MethodHandle" ∧ yX12_sign.cls ≠ "java/lang/invoke/VarHandle" ∧ (parseMethodDescriptor yX12_sign.desc).map (fun d => d.parameters.length) = some 0 by decide +kernel) zs_blind (zs_ob hh68 ha (show RTg[11]? = some (0, 11, 0, fsX12) from rfl) (zCX12 hKn.1)) (fun U hU hW => ⟨rfl, by rw [hU]; exact hh68.l0, zKb s U hW.alike hKn, by rw [hU]; exact hJ⟩) hh68.2.2.1 hl66.1 (Nat.le_of_ble_eq_true rfl) (eX12_ruleTime (31, .invokevirtual 309, 3) (List.mem_of_getElem? (i := 16) rfl)) (fun r70 s70 t70 lo70 g70 f70 l70 => ?_)
          obtain ⟨z70, v70, q70, e70⟩ := f70
          cases q70
          rw [z70, g70]
          have hh70 : zh_ok D cA RTg ro sz H0 s.heap lo70 := ⟨hh68.1, hh68.2.1, l70, hh68.2.2.2⟩
          refine W.eq (g2 := F0 m 34 ls66 [.int v70]) rfl ?_
          refine ff_bipush hx hb (eX12_ruleTime (34, .bipush 43, 2) (List.mem_of_getElem? (i := 17) rfl)) (by decide) (by decide) (fun v71 e71 => ?_)
          refine ff_icmp_eq hx hb (eX12_ruleTime (36, .if_icmp .eq 12, 3) (List.mem_of_getElem? (i := 18) rfl)) (tgt := 48) rfl (fun c72 => ?_) (fun c72 => ?_)
          · skip
            refine lv_aload_n hx hb (eX12_ruleTime (48, .aload_n 0, 1) (List.mem_of_getElem? (i := 23) rfl)) rfl (lv_at hl66 1 rfl) ?_
            refine lv_dup hx hb (eX12_ruleTime (49, .dup, 1) (List.mem_of_getElem? (i := 24) rfl)) rfl ?_
            refine tz_get (r := 11) (k := 29) (t := (0, 0, 120)) hx hb hh70 ha rfl rfl (hcl11 293 29 (0, 0, 120) (by decide) rfl).1 f29 (eX12_ruleTime (50, .getfield 293, 3) (List.mem_of_getElem? (i := 25) rfl)) ?_
            refine ff_iconst hx hb (eX12_ruleTime (53, .iconst 1, 1) (List.mem_of_getElem? (i := 26) rfl)) (by decide) (by decide) (fun v73 e73 => ?_)
            refine ff_iadd hx hb (eX12_ruleTime (54, .iadd, 1) (List.mem_of_getElem? (i := 27) rfl)) (by omega) (by omega) (fun v74 e74 => ?_)
            have hlt75 : 0 ≤ v74.toInt ∧ v74.toInt ≤ 120 := by first | omega | (have h9 := byI_lt (T := T) (a := sg.1) (by omega) (by first | omega | exact isD_nn hdg | exact isN_nn hN); omega)
            refine tz_put (r := 11) (k := 29) (t := (0, 0, 120)) hx hb hD hh70 ha rfl rfl ((hcl11 293 29 (0, 0, 120) (by decide) rfl).2 (by decide)) (tz_i (by omega) (by omega)) (eX12_ruleTime (55, .putfield 293, 3) (List.mem_of_getElem? (i := 28) rfl)) (fun H76 lo76 hh76 hf76 hk76 _ hq76 => ?_)
            have mf76_a_12 := (hk76.1 a 11 12 11 0 fsX12 ha rfl (by decide) (by decide)).trans f12
            have mf76_a_13 := (hk76.1 a 11 13 11 0 fsX12 ha rfl (by decide) (by decide)).trans f13
            have mf76_a_30 := (hk76.1 a 11 30 11 0 fsX12 ha rfl (by decide) (by decide)).trans f30
            have mf76_a_31 := (hk76.1 a 11 31 11 0 fsX12 ha rfl (by decide) (by decide)).trans f31
            have mc76_tb := (hk76.2 tb 30 0 2 120 _ r0 rfl (by decide)).trans hc
            have kp76 := kp0.trans (hk76.mono (ms' := tM) (fun x hx => by cases List.mem_singleton.mp hx; decide))
            have jm76 := (hJ.1).kept ha hk76 (by decide) (by decide) (by decide)
            exact jn58 v65 (sg.1 + 1, sg.2) ls66 _ _ (by omega) (by rw [tmG_58]; unfold sgG; rw [if_neg (by omega), if_pos (by omega), show v65.toInt = 0 by omega]) hh76 kp76 ⟨jm76, ⟨_, _, _, hf76, mf76_a_30, mf76_a_31, by show _ = sg.1 + 1; omega, by first | assumption | omega, by first | assumption | omega⟩, adG_ok hu (by omega)⟩ (lv_sub hl66 [0, 1, 2, 3] rfl)
          · skip
            refine lv_aload_n hx hb (eX12_ruleTime (39, .aload_n 0, 1) (List.mem_of_getElem? (i := 19) rfl)) rfl (lv_at hl66 1 rfl) ?_
            refine tz_rowV (As := []) (st := []) (b := a) (C := RX12) (Ts := gT) hx hb hml hown h2 (fun _ h => h) (hX12_sign l D cA ro sz H0 a T (sg) ha) ⟨rfl, rfl⟩ ⟨by decide, by decide⟩ ⟨by decide, by decide⟩ (tb_8 21 rfl rfl) (tb_1 12 rfl rfl) (tb_8 18 rfl rfl) (tb_8 20 rfl rfl) (tb_0 32 rfl rfl) (show yX12_sign.cls ≠ "java/lang/invoke/MethodHandle" ∧ yX12_sign.cls ≠ "java/lang/invoke/VarHandle" ∧ (parseMethodDescriptor yX12_sign.desc).map (fun d => d.parameters.length) = some 0 by decide +kernel) zs_blind (zs_ob hh70 ha (show RTg[11]? = some (0, 11, 0, fsX12) from rfl) (zCX12 hKn.1)) (fun U hU hW => ⟨rfl, by rw [hU]; exact hh70.l0, zKb s U hW.alike hKn, by rw [hU]; exact hJ⟩) hh70.2.2.1 hl66.1 (Nat.le_of_ble_eq_true rfl) (eX12_ruleTime (40, .invokevirtual 309, 3) (List.mem_of_getElem? (i := 20) rfl)) (fun r77 s77 t77 lo77 g77 f77 l77 => ?_)
            obtain ⟨z77, v77, q77, e77⟩ := f77
            cases q77
            rw [z77, g77]
            have hh77 : zh_ok D cA RTg ro sz H0 s.heap lo77 := ⟨hh70.1, hh70.2.1, l77, hh70.2.2.2⟩
            refine W.eq (g2 := F0 m 43 ls66 [.int v77]) rfl ?_
            refine ff_bipush hx hb (eX12_ruleTime (43, .bipush 45, 2) (List.mem_of_getElem? (i := 21) rfl)) (by decide) (by decide) (fun v78 e78 => ?_)
            refine ff_icmp_ne hx hb (eX12_ruleTime (45, .if_icmp .ne 13, 3) (List.mem_of_getElem? (i := 22) rfl)) (tgt := 58) rfl (fun c79 => ?_) (fun c79 => ?_)
            · skip
              exact jn58 v65 sg ls66 _ _ (by omega) (by rw [tmG_58]; unfold sgG; rw [if_neg (by omega), if_neg (by omega), show v65.toInt = 0 by omega]) hh77 kp0 hJ (lv_sub hl66 [0, 1, 2, 3] rfl)
            · skip
              refine lv_aload_n hx hb (eX12_ruleTime (48, .aload_n 0, 1) (List.mem_of_getElem? (i := 23) rfl)) rfl (lv_at hl66 1 rfl) ?_
              refine lv_dup hx hb (eX12_ruleTime (49, .dup, 1) (List.mem_of_getElem? (i := 24) rfl)) rfl ?_
              refine tz_get (r := 11) (k := 29) (t := (0, 0, 120)) hx hb hh77 ha rfl rfl (hcl11 293 29 (0, 0, 120) (by decide) rfl).1 f29 (eX12_ruleTime (50, .getfield 293, 3) (List.mem_of_getElem? (i := 25) rfl)) ?_
              refine ff_iconst hx hb (eX12_ruleTime (53, .iconst 1, 1) (List.mem_of_getElem? (i := 26) rfl)) (by decide) (by decide) (fun v80 e80 => ?_)
              refine ff_iadd hx hb (eX12_ruleTime (54, .iadd, 1) (List.mem_of_getElem? (i := 27) rfl)) (by omega) (by omega) (fun v81 e81 => ?_)
              have hlt82 : 0 ≤ v81.toInt ∧ v81.toInt ≤ 120 := by first | omega | (have h9 := byI_lt (T := T) (a := sg.1) (by omega) (by first | omega | exact isD_nn hdg | exact isN_nn hN); omega)
              refine tz_put (r := 11) (k := 29) (t := (0, 0, 120)) hx hb hD hh77 ha rfl rfl ((hcl11 293 29 (0, 0, 120) (by decide) rfl).2 (by decide)) (tz_i (by omega) (by omega)) (eX12_ruleTime (55, .putfield 293, 3) (List.mem_of_getElem? (i := 28) rfl)) (fun H83 lo83 hh83 hf83 hk83 _ hq83 => ?_)
              have mf83_a_12 := (hk83.1 a 11 12 11 0 fsX12 ha rfl (by decide) (by decide)).trans f12
              have mf83_a_13 := (hk83.1 a 11 13 11 0 fsX12 ha rfl (by decide) (by decide)).trans f13
              have mf83_a_30 := (hk83.1 a 11 30 11 0 fsX12 ha rfl (by decide) (by decide)).trans f30
              have mf83_a_31 := (hk83.1 a 11 31 11 0 fsX12 ha rfl (by decide) (by decide)).trans f31
              have mc83_tb := (hk83.2 tb 30 0 2 120 _ r0 rfl (by decide)).trans hc
              have kp83 := kp0.trans (hk83.mono (ms' := tM) (fun x hx => by cases List.mem_singleton.mp hx; decide))
              have jm83 := (hJ.1).kept ha hk83 (by decide) (by decide) (by decide)
              exact jn58 v65 (sg.1 + 1, sg.2) ls66 _ _ (by omega) (by rw [tmG_58]; unfold sgG; rw [if_neg (by omega), if_pos (by omega), show v65.toInt = 0 by omega]) hh83 kp83 ⟨jm83, ⟨_, _, _, hf83, mf83_a_30, mf83_a_31, by show _ = sg.1 + 1; omega, by first | assumption | omega, by first | assumption | omega⟩, adG_ok hu (by omega)⟩ (lv_sub hl66 [0, 1, 2, 3] rfl)
    · skip
      refine ff_iconst hx hb (eX12_ruleTime (13, .iconst 1, 1) (List.mem_of_getElem? (i := 6) rfl)) (by decide) (by decide) (fun v84 e84 => ?_)
      refine lv_goto hx hb (eX12_ruleTime (14, .goto 4, 3) (List.mem_of_getElem? (i := 7) rfl)) (tgt := 18) rfl ?_
      refine lv_istore_n hx hb (eX12_ruleTime (18, .istore_n 3, 1) (List.mem_of_getElem? (i := 9) rfl)) rfl hl (by decide) rfl (fun ls85 hl85 => ?_)
      refine lv_iload_n hx hb (eX12_ruleTime (19, .iload_n 1, 1) (List.mem_of_getElem? (i := 10) rfl)) rfl (lv_at hl85 2 rfl) ?_
      refine ff_if_eq hx hb (eX12_ruleTime (20, .ifCond .eq 38, 3) (List.mem_of_getElem? (i := 11) rfl)) (tgt := 58) rfl (fun c86 => ?_) (fun c86 => ?_)
      · skip
        exact jn58 v84 sg ls85 _ _ (by omega) (by rw [tmG_58]; unfold sgG; rw [if_pos (by omega), if_neg (by omega), show v84.toInt = 1 by omega]) hh62 kp0 hJ (lv_sub hl85 [0, 1, 2, 3] rfl)
      · skip
        refine lv_aload_n hx hb (eX12_ruleTime (23, .aload_n 0, 1) (List.mem_of_getElem? (i := 12) rfl)) rfl (lv_at hl85 1 rfl) ?_
        refine tz_rowV (As := []) (st := []) (b := a) (C := RX12) (Ts := gT) hx hb hml hown h2 (fun _ h => h) (hX12_isGood l D cA ro sz H0 a T (sg) ha) ⟨rfl, rfl⟩ ⟨by decide, by decide⟩ ⟨by decide, by decide⟩ (tb_8 17 rfl rfl) (tb_1 12 rfl rfl) (tb_8 14 rfl rfl) (tb_8 16 rfl rfl) (tb_0 31 rfl rfl) (show yX12_isGood.cls ≠ "java/lang/invoke/MethodHandle" ∧ yX12_isGood.cls ≠ "java/lang/invoke/VarHandle" ∧ (parseMethodDescriptor yX12_isGood.desc).map (fun d => d.parameters.length) = some 0 by decide +kernel) zs_blind (zs_ob hh62 ha (show RTg[11]? = some (0, 11, 0, fsX12) from rfl) (zCX12 hKn.1)) (fun U hU hW => ⟨rfl, by rw [hU]; exact hh62.l0, zKb s U hW.alike hKn, by rw [hU]; exact hJ⟩) hh62.2.2.1 hl85.1 (Nat.le_of_ble_eq_true rfl) (eX12_ruleTime (24, .invokevirtual 305, 3) (List.mem_of_getElem? (i := 13) rfl)) (fun r87 s87 t87 lo87 g87 f87 l87 => ?_)
        obtain ⟨z87, v87, q87, e87⟩ := f87
        cases q87
        rw [z87, g87]
        have hh87 : zh_ok D cA RTg ro sz H0 s.heap lo87 := ⟨hh62.1, hh62.2.1, l87, hh62.2.2.2⟩
        refine W.eq (g2 := F0 m 27 ls85 [.int v87]) rfl ?_
        refine ff_if_eq hx hb (eX12_ruleTime (27, .ifCond .eq 31, 3) (List.mem_of_getElem? (i := 14) rfl)) (tgt := 58) rfl (fun c88 => ?_) (fun c88 => ?_)
        · skip
          exact jn58 v84 sg ls85 _ _ (by omega) (by rw [tmG_58]; unfold sgG; rw [if_pos (by omega), if_neg (by omega), show v84.toInt = 1 by omega]) hh87 kp0 hJ (lv_sub hl85 [0, 1, 2, 3] rfl)
        · skip
          refine lv_aload_n hx hb (eX12_ruleTime (30, .aload_n 0, 1) (List.mem_of_getElem? (i := 15) rfl)) rfl (lv_at hl85 1 rfl) ?_
          refine tz_rowV (As := []) (st := []) (b := a) (C := RX12) (Ts := gT) hx hb hml hown h2 (fun _ h => h) (hX12_sign l D cA ro sz H0 a T (sg) ha) ⟨rfl, rfl⟩ ⟨by decide, by decide⟩ ⟨by decide, by decide⟩ (tb_8 21 rfl rfl) (tb_1 12 rfl rfl) (tb_8 18 rfl rfl) (tb_8 20 rfl rfl) (tb_0 32 rfl rfl) (show yX12_sign.cls ≠ "java/lang/invoke/MethodHandle" ∧ yX12_sign.cls ≠ "java/lang/invoke/VarHandle" ∧ (parseMethodDescriptor yX12_sign.desc).map (fun d => d.parameters.length) = some 0 by decide +kernel) zs_blind (zs_ob hh87 ha (show RTg[11]? = some (0, 11, 0, fsX12) from rfl) (zCX12 hKn.1)) (fun U hU hW => ⟨rfl, by rw [hU]; exact hh87.l0, zKb s U hW.alike hKn, by rw [hU]; exact hJ⟩) hh87.2.2.1 hl85.1 (Nat.le_of_ble_eq_true rfl) (eX12_ruleTime (31, .invokevirtual 309, 3) (List.mem_of_getElem? (i := 16) rfl)) (fun r89 s89 t89 lo89 g89 f89 l89 => ?_)
          obtain ⟨z89, v89, q89, e89⟩ := f89
          cases q89
          rw [z89, g89]
          have hh89 : zh_ok D cA RTg ro sz H0 s.heap lo89 := ⟨hh87.1, hh87.2.1, l89, hh87.2.2.2⟩
          refine W.eq (g2 := F0 m 34 ls85 [.int v89]) rfl ?_
          refine ff_bipush hx hb (eX12_ruleTime (34, .bipush 43, 2) (List.mem_of_getElem? (i := 17) rfl)) (by decide) (by decide) (fun v90 e90 => ?_)
          refine ff_icmp_eq hx hb (eX12_ruleTime (36, .if_icmp .eq 12, 3) (List.mem_of_getElem? (i := 18) rfl)) (tgt := 48) rfl (fun c91 => ?_) (fun c91 => ?_)
          · skip
            refine lv_aload_n hx hb (eX12_ruleTime (48, .aload_n 0, 1) (List.mem_of_getElem? (i := 23) rfl)) rfl (lv_at hl85 1 rfl) ?_
            refine lv_dup hx hb (eX12_ruleTime (49, .dup, 1) (List.mem_of_getElem? (i := 24) rfl)) rfl ?_
            refine tz_get (r := 11) (k := 29) (t := (0, 0, 120)) hx hb hh89 ha rfl rfl (hcl11 293 29 (0, 0, 120) (by decide) rfl).1 f29 (eX12_ruleTime (50, .getfield 293, 3) (List.mem_of_getElem? (i := 25) rfl)) ?_
            refine ff_iconst hx hb (eX12_ruleTime (53, .iconst 1, 1) (List.mem_of_getElem? (i := 26) rfl)) (by decide) (by decide) (fun v92 e92 => ?_)
            refine ff_iadd hx hb (eX12_ruleTime (54, .iadd, 1) (List.mem_of_getElem? (i := 27) rfl)) (by omega) (by omega) (fun v93 e93 => ?_)
            have hlt94 : 0 ≤ v93.toInt ∧ v93.toInt ≤ 120 := by first | omega | (have h9 := byI_lt (T := T) (a := sg.1) (by omega) (by first | omega | exact isD_nn hdg | exact isN_nn hN); omega)
            refine tz_put (r := 11) (k := 29) (t := (0, 0, 120)) hx hb hD hh89 ha rfl rfl ((hcl11 293 29 (0, 0, 120) (by decide) rfl).2 (by decide)) (tz_i (by omega) (by omega)) (eX12_ruleTime (55, .putfield 293, 3) (List.mem_of_getElem? (i := 28) rfl)) (fun H95 lo95 hh95 hf95 hk95 _ hq95 => ?_)
            have mf95_a_12 := (hk95.1 a 11 12 11 0 fsX12 ha rfl (by decide) (by decide)).trans f12
            have mf95_a_13 := (hk95.1 a 11 13 11 0 fsX12 ha rfl (by decide) (by decide)).trans f13
            have mf95_a_30 := (hk95.1 a 11 30 11 0 fsX12 ha rfl (by decide) (by decide)).trans f30
            have mf95_a_31 := (hk95.1 a 11 31 11 0 fsX12 ha rfl (by decide) (by decide)).trans f31
            have mc95_tb := (hk95.2 tb 30 0 2 120 _ r0 rfl (by decide)).trans hc
            have kp95 := kp0.trans (hk95.mono (ms' := tM) (fun x hx => by cases List.mem_singleton.mp hx; decide))
            have jm95 := (hJ.1).kept ha hk95 (by decide) (by decide) (by decide)
            exact jn58 v84 (sg.1 + 1, sg.2) ls85 _ _ (by omega) (by rw [tmG_58]; unfold sgG; rw [if_pos (by omega), if_pos (by omega), show v84.toInt = 1 by omega]) hh95 kp95 ⟨jm95, ⟨_, _, _, hf95, mf95_a_30, mf95_a_31, by show _ = sg.1 + 1; omega, by first | assumption | omega, by first | assumption | omega⟩, adG_ok hu (by omega)⟩ (lv_sub hl85 [0, 1, 2, 3] rfl)
          · skip
            refine lv_aload_n hx hb (eX12_ruleTime (39, .aload_n 0, 1) (List.mem_of_getElem? (i := 19) rfl)) rfl (lv_at hl85 1 rfl) ?_
            refine tz_rowV (As := []) (st := []) (b := a) (C := RX12) (Ts := gT) hx hb hml hown h2 (fun _ h => h) (hX12_sign l D cA ro sz H0 a T (sg) ha) ⟨rfl, rfl⟩ ⟨by decide, by decide⟩ ⟨by decide, by decide⟩ (tb_8 21 rfl rfl) (tb_1 12 rfl rfl) (tb_8 18 rfl rfl) (tb_8 20 rfl rfl) (tb_0 32 rfl rfl) (show yX12_sign.cls ≠ "java/lang/invoke/MethodHandle" ∧ yX12_sign.cls ≠ "java/lang/invoke/VarHandle" ∧ (parseMethodDescriptor yX12_sign.desc).map (fun d => d.parameters.length) = some 0 by decide +kernel) zs_blind (zs_ob hh89 ha (show RTg[11]? = some (0, 11, 0, fsX12) from rfl) (zCX12 hKn.1)) (fun U hU hW => ⟨rfl, by rw [hU]; exact hh89.l0, zKb s U hW.alike hKn, by rw [hU]; exact hJ⟩) hh89.2.2.1 hl85.1 (Nat.le_of_ble_eq_true rfl) (eX12_ruleTime (40, .invokevirtual 309, 3) (List.mem_of_getElem? (i := 20) rfl)) (fun r96 s96 t96 lo96 g96 f96 l96 => ?_)
            obtain ⟨z96, v96, q96, e96⟩ := f96
            cases q96
            rw [z96, g96]
            have hh96 : zh_ok D cA RTg ro sz H0 s.heap lo96 := ⟨hh89.1, hh89.2.1, l96, hh89.2.2.2⟩
            refine W.eq (g2 := F0 m 43 ls85 [.int v96]) rfl ?_
            refine ff_bipush hx hb (eX12_ruleTime (43, .bipush 45, 2) (List.mem_of_getElem? (i := 21) rfl)) (by decide) (by decide) (fun v97 e97 => ?_)
            refine ff_icmp_ne hx hb (eX12_ruleTime (45, .if_icmp .ne 13, 3) (List.mem_of_getElem? (i := 22) rfl)) (tgt := 58) rfl (fun c98 => ?_) (fun c98 => ?_)
            · skip
              exact jn58 v84 sg ls85 _ _ (by omega) (by rw [tmG_58]; unfold sgG; rw [if_pos (by omega), if_neg (by omega), show v84.toInt = 1 by omega]) hh96 kp0 hJ (lv_sub hl85 [0, 1, 2, 3] rfl)
            · skip
              refine lv_aload_n hx hb (eX12_ruleTime (48, .aload_n 0, 1) (List.mem_of_getElem? (i := 23) rfl)) rfl (lv_at hl85 1 rfl) ?_
              refine lv_dup hx hb (eX12_ruleTime (49, .dup, 1) (List.mem_of_getElem? (i := 24) rfl)) rfl ?_
              refine tz_get (r := 11) (k := 29) (t := (0, 0, 120)) hx hb hh96 ha rfl rfl (hcl11 293 29 (0, 0, 120) (by decide) rfl).1 f29 (eX12_ruleTime (50, .getfield 293, 3) (List.mem_of_getElem? (i := 25) rfl)) ?_
              refine ff_iconst hx hb (eX12_ruleTime (53, .iconst 1, 1) (List.mem_of_getElem? (i := 26) rfl)) (by decide) (by decide) (fun v99 e99 => ?_)
              refine ff_iadd hx hb (eX12_ruleTime (54, .iadd, 1) (List.mem_of_getElem? (i := 27) rfl)) (by omega) (by omega) (fun v100 e100 => ?_)
              have hlt101 : 0 ≤ v100.toInt ∧ v100.toInt ≤ 120 := by first | omega | (have h9 := byI_lt (T := T) (a := sg.1) (by omega) (by first | omega | exact isD_nn hdg | exact isN_nn hN); omega)
              refine tz_put (r := 11) (k := 29) (t := (0, 0, 120)) hx hb hD hh96 ha rfl rfl ((hcl11 293 29 (0, 0, 120) (by decide) rfl).2 (by decide)) (tz_i (by omega) (by omega)) (eX12_ruleTime (55, .putfield 293, 3) (List.mem_of_getElem? (i := 28) rfl)) (fun H102 lo102 hh102 hf102 hk102 _ hq102 => ?_)
              have mf102_a_12 := (hk102.1 a 11 12 11 0 fsX12 ha rfl (by decide) (by decide)).trans f12
              have mf102_a_13 := (hk102.1 a 11 13 11 0 fsX12 ha rfl (by decide) (by decide)).trans f13
              have mf102_a_30 := (hk102.1 a 11 30 11 0 fsX12 ha rfl (by decide) (by decide)).trans f30
              have mf102_a_31 := (hk102.1 a 11 31 11 0 fsX12 ha rfl (by decide) (by decide)).trans f31
              have mc102_tb := (hk102.2 tb 30 0 2 120 _ r0 rfl (by decide)).trans hc
              have kp102 := kp0.trans (hk102.mono (ms' := tM) (fun x hx => by cases List.mem_singleton.mp hx; decide))
              have jm102 := (hJ.1).kept ha hk102 (by decide) (by decide) (by decide)
              exact jn58 v84 (sg.1 + 1, sg.2) ls85 _ _ (by omega) (by rw [tmG_58]; unfold sgG; rw [if_pos (by omega), if_pos (by omega), show v84.toInt = 1 by omega]) hh102 kp102 ⟨jm102, ⟨_, _, _, hf102, mf102_a_30, mf102_a_31, by show _ = sg.1 + 1; omega, by first | assumption | omega, by first | assumption | omega⟩, adG_ok hu (by omega)⟩ (lv_sub hl85 [0, 1, 2, 3] rfl)
set_option maxRecDepth 100000 in
set_option maxHeartbeats 4000000 in
theorem hX12_upTo (l : Launch) (D : va_G) (cA : Nat → ClassId) (ro : Nat → Option Nat) (sz : Nat) (H0 : Heap) (a : Nat) (mo : Int32) (lo : Int32) (hi : Int32) (m0 : Nat) (k1 k2 : Int) (T : List Int) (sg : uS) (ha : ro a = some 11) (hm0 : mo.toInt = (m0 : Int) + 1) (hk1 : lo.toInt = k1) (hk2 : hi.toInt = k2) (hm2 : m0 ≤ 2) : Met l yX12_upTo (gW yX12_upTo cX12_upTo 7 (some .int)) { frames := 2, cells := 0, slots := 0, locals := 43 } (zs_P D cA ro sz H0 (fun H => jV D cA ro H a T sg) [.ref a, .int mo, .int lo, .int hi]) (kv_Q D cA ro sz H0 vM a T (utG T (m0 + 1) k1 k2 sg)) 0 0 (zy_fr sz) := by
  refine zy_ofW (cc := cX12_upTo) (maxL := 7) (ret := (some .int)) (by decide +kernel) rfl ?_
  intro p e s m args below meth c s1 B hml hv
  obtain ⟨rfl, hh, hKn, hJ⟩ := hv
  have hx := B.exec
  have hb := B.bytes
  have hr := B.returns
  have hlk := B.notSynchronized
  have hts0 := atoms_spec (ws := gW yX12_upTo cX12_upTo 7 (some .int)) B.pre
  have h2 : ∀ w ∈ gT, w.before ([.ref a, .int mo, .int lo, .int hi] : List Value).toArray s = true := fun w hw => hts0 w (List.mem_cons_of_mem _ hw)
  have hown : s.vm.findClass RX12 = some m.cls := findClass_of_methodNamed B.named
  have hl := lv_entry [.ref a, .int mo, .int lo, .int hi] (n := 7) (Nat.le_of_ble_eq_true rfl)
  rw [lg_entry_eq]
  generalize (lg_sl [.ref a, .int mo, .int lo, .int hi] ++ List.replicate (7 - (lg_sl [.ref a, .int mo, .int lo, .int hi]).length) Slot.unset).toArray = ls at hl ⊢
  have b_mo := zn_i32 mo
  have b_lo := zn_i32 lo
  have b_hi := zn_i32 hi
  have hD := zD_all h2 hKn.1
  have hcl11 := fun (idx k : Nat) (t : zt_T) (h : (idx, 11, k) ∈ gfX12) (hk : fsX12[k]? = some t) => zf_clause (ro := ro) (ms := vM) h2 hown hKn.1 gfX12_ok (by decide +kernel) idx 11 k 11 0 fsX12 t h rfl hk
  have kp0 : zc_kept D RTg ro vM s.heap s.heap := zc_kept.refl
  obtain ⟨hjt, ⟨av, fv, bv, f29, f30, f31, hav, hfv, hbv⟩, hu⟩ := id hJ
  obtain ⟨tb, n, z, f12, r0, f13, hn, hc, hz⟩ := id hjt
  obtain ⟨n9, g9, n1, n2⟩ := zh_fT (k := 13) (t := (0, 0, 120)) hh ha (show RTg[11]? = some (0, 11, 0, fsX12) from rfl) rfl
  cases f13.symm.trans g9
  dsimp only at n1 n2
  clear g9
  obtain ⟨-, z9, c9, hy9⟩ := zh_arr hh r0 (show RTg[30]? = some (1, 2, 120, [(0, (-128), 127)]) from rfl)
  have hy : ∀ i, i < 120 → zt_ok ro (z i) (0, (-128), 127) := zs_arr (hc.symm.trans c9) hy9
  obtain ⟨u1, u2, u3, u4⟩ := id hu
  refine lv_aload_n hx hb (eX12_upTo (0, .aload_n 0, 1) (List.mem_of_getElem? (i := 0) rfl)) rfl (lv_at hl 0 rfl) ?_
  refine tz_get (r := 11) (k := 29) (t := (0, 0, 120)) hx hb hh ha rfl rfl (hcl11 293 29 (0, 0, 120) (by decide) rfl).1 f29 (eX12_upTo (1, .getfield 293, 3) (List.mem_of_getElem? (i := 1) rfl)) ?_
  refine lv_istore hx hb (eX12_upTo (4, .istore 4, 2) (List.mem_of_getElem? (i := 2) rfl)) hl (by decide) rfl (fun ls1 hl1 => ?_)
  refine lv_aload_n hx hb (eX12_upTo (6, .aload_n 0, 1) (List.mem_of_getElem? (i := 3) rfl)) rfl (lv_at hl1 1 rfl) ?_
  refine ff_iconst hx hb (eX12_upTo (7, .iconst 1, 1) (List.mem_of_getElem? (i := 4) rfl)) (by decide) (by decide) (fun v2 e2 => ?_)
  refine tz_rowV (As := [.int v2]) (st := []) (b := a) (C := RX12) (Ts := gT) hx hb hml hown h2 (fun _ h => h) (hX12_digits l D cA ro sz H0 a v2 1 T (sg) ha (by omega) (by decide)) ⟨rfl, rfl⟩ ⟨by decide, by decide⟩ ⟨by decide, by decide⟩ (tb_8 43 rfl rfl) (tb_1 12 rfl rfl) (tb_8 40 rfl rfl) (tb_8 42 rfl rfl) (tb_0 36 rfl rfl) (show yX12_digits.cls ≠ "java/lang/invoke/MethodHandle" ∧ yX12_digits.cls ≠ "java/lang/invoke/VarHandle" ∧ (parseMethodDescriptor yX12_digits.desc).map (fun d => d.parameters.length) = some 1 by decide +kernel) zs_blind (zs_ob hh ha (show RTg[11]? = some (0, 11, 0, fsX12) from rfl) (zCX12 hKn.1)) (fun U hU hW => ⟨rfl, by rw [hU]; exact hh.l0, zKb s U hW.alike hKn, by rw [hU]; exact hJ⟩) hh.2.2.1 hl1.1 (Nat.le_of_ble_eq_true rfl) (eX12_upTo (8, .invokevirtual 331, 3) (List.mem_of_getElem? (i := 5) rfl)) (fun r3 s3 t3 lo3 g3 f3 l3 => ?_)
  obtain ⟨v3, q3, e3, z3, c3, j3⟩ := f3
  cases q3
  rw [g3] at c3
  have hh3 : zh_ok D cA RTg ro sz H0 t3.heap lo3 := ⟨z3.1, z3.2.1, l3, z3.2.2.2⟩
  have kp3 := kp0.trans (c3.mono (ms' := vM) (by decide))
  have kf3 := dgG_u1 (T := T) (r := sg)
  generalize hx3 : dgG T 1 0 sg = x3 at j3 e3 kf3
  have uu3 := j3.2.2
  unfold vOK at uu3
  have mf3_a_12 := (c3.1 a 11 12 11 0 fsX12 ha rfl (by decide) (by decide)).trans f12
  have mf3_a_13 := (c3.1 a 11 13 11 0 fsX12 ha rfl (by decide) (by decide)).trans f13
  refine W.eq (g2 := F0 m 11 ls1 [.int v3]) rfl ?_
  refine lv_istore hx hb (eX12_upTo (11, .istore 5, 2) (List.mem_of_getElem? (i := 6) rfl)) hl1 (by decide) rfl (fun ls4 hl4 => ?_)
  refine ff_iconst hx hb (eX12_upTo (13, .iconst 1, 1) (List.mem_of_getElem? (i := 7) rfl)) (by decide) (by decide) (fun v5 e5 => ?_)
  refine lv_istore hx hb (eX12_upTo (14, .istore 6, 2) (List.mem_of_getElem? (i := 8) rfl)) hl4 (by decide) rfl (fun ls6 hl6 => ?_)
  have loop : ∀ (n0 : Nat) (i : Int) (iv vv : Int32) (g : uS) (ls : Array Slot) (H : Heap) (lo0 : List Loc), i + n0 = m0 + 1 → iv.toInt = i → 1 ≤ i → (0 ≤ vv.toInt ∧ (i = 1 → vv.toInt ≤ 9) ∧ (i = 2 → vv.toInt ≤ 99) ∧ vv.toInt ≤ 999) → utL T n0 vv.toInt g = utL T m0 x3.1 x3.2 → zh_ok D cA RTg ro sz H0 H lo0 → zc_kept D RTg ro vM s.heap H → jV D cA ro H a T g → lv_has ls 7 [(5, .int vv), (6, .int iv), (0, .ref a), (1, .int mo), (2, .int lo), (3, .int hi), (4, .int av)] → W p l e (headSpec (gW yX12_upTo cX12_upTo 7 (some .int)) { frames := 2, cells := 0, slots := 0, locals := 43 }).room s m ([.ref a, .int mo, .int lo, .int hi] : List Value).toArray below meth c H lo0 0 0 (MQ below (kv_Q D cA ro sz H0 vM a T (utG T (m0 + 1) k1 k2 sg)) ([.ref a, .int mo, .int lo, .int hi] : List Value).toArray s 0 0 (zy_fr sz)) (F0 m 16 ls []) := by
    intro n0
    induction n0 with
    | zero =>
      intro i iv vv g ls H lo0 hi9 hiv hi0 hvv htot hh0 kpl jl hl
      have hul := jl.2.2
      unfold vOK at hul
      refine lv_iload hx hb (eX12_upTo (16, .iload 6, 2) (List.mem_of_getElem? (i := 9) rfl)) (lv_at hl 1 rfl) ?_
      refine lv_iload_n hx hb (eX12_upTo (18, .iload_n 1, 1) (List.mem_of_getElem? (i := 10) rfl)) rfl (lv_at hl 3 rfl) ?_
      refine ff_icmp_ge hx hb (eX12_upTo (19, .if_icmp .ge 39, 3) (List.mem_of_getElem? (i := 11) rfl)) (tgt := 58) rfl (fun c7 => ?_) (fun c7 => (by exfalso; omega))
      have hy : utL T m0 x3.1 x3.2 = (vv.toInt, g) := by rw [← htot]; rfl
      refine lv_aload_n hx hb (eX12_upTo (58, .aload_n 0, 1) (List.mem_of_getElem? (i := 29) rfl)) rfl (lv_at hl 2 rfl) ?_
      refine tz_rowV (As := []) (st := []) (b := a) (C := RX12) (Ts := gT) hx hb hml hown h2 (fun _ h => h) (hX12_isGood l D cA ro sz H0 a T (g) ha) ⟨rfl, rfl⟩ ⟨by decide, by decide⟩ ⟨by decide, by decide⟩ (tb_8 17 rfl rfl) (tb_1 12 rfl rfl) (tb_8 14 rfl rfl) (tb_8 16 rfl rfl) (tb_0 31 rfl rfl) (show yX12_isGood.cls ≠ "java/lang/invoke/MethodHandle" ∧ yX12_isGood.cls ≠ "java/lang/invoke/VarHandle" ∧ (parseMethodDescriptor yX12_isGood.desc).map (fun d => d.parameters.length) = some 0 by decide +kernel) zs_blind (zs_ob hh0 ha (show RTg[11]? = some (0, 11, 0, fsX12) from rfl) (zCX12 hKn.1)) (fun U hU hW => ⟨rfl, by rw [hU]; exact hh0.l0, zKb s U hW.alike hKn, by rw [hU]; exact jl⟩) hh0.2.2.1 hl.1 (Nat.le_of_ble_eq_true rfl) (eX12_upTo (59, .invokevirtual 305, 3) (List.mem_of_getElem? (i := 30) rfl)) (fun r8 s8 t8 lo8 g8 f8 l8 => ?_)
      obtain ⟨z8, v8, q8, e8⟩ := f8
      cases q8
      rw [z8, g8]
      have hh8 : zh_ok D cA RTg ro sz H0 H lo8 := ⟨hh0.1, hh0.2.1, l8, hh0.2.2.2⟩
      refine W.eq (g2 := F0 m 62 ls [.int v8]) rfl ?_
      refine ff_if_eq hx hb (eX12_upTo (62, .ifCond .eq 22, 3) (List.mem_of_getElem? (i := 31) rfl)) (tgt := 84) rfl (fun c9 => ?_) (fun c9 => ?_)
      · skip
        refine lv_iload hx hb (eX12_upTo (84, .iload 5, 2) (List.mem_of_getElem? (i := 43) rfl)) (lv_at hl 0 rfl) ?_
        have hfin : utG T (m0 + 1) k1 k2 sg = (vv.toInt, g) := by rw [utG_eq, hx3, hy]; dsimp only; rw [if_neg (by omega)]
        exact W.zret hx hb hr rfl (fun t ht hW => ⟨_, rfl, by rw [hfin] <;> exact rfl, by rw [ht]; exact hh8.l0, by rw [ht]; exact kpl, by rw [ht, hfin]; exact jl⟩) hh8.2.2.1 (eX12_upTo (86, .ireturn, 1) (List.mem_of_getElem? (i := 44) rfl))
      · skip
        refine lv_iload hx hb (eX12_upTo (65, .iload 5, 2) (List.mem_of_getElem? (i := 32) rfl)) (lv_at hl 0 rfl) ?_
        refine ff_i2l hx hb (eX12_upTo (67, .i2l, 1) (List.mem_of_getElem? (i := 33) rfl)) (fun v10 e10 => ?_)
        refine lv_iload_n hx hb (eX12_upTo (68, .iload_n 2, 1) (List.mem_of_getElem? (i := 34) rfl)) rfl (lv_at hl 4 rfl) ?_
        refine ff_i2l hx hb (eX12_upTo (69, .i2l, 1) (List.mem_of_getElem? (i := 35) rfl)) (fun v11 e11 => ?_)
        refine lv_iload_n hx hb (eX12_upTo (70, .iload_n 3, 1) (List.mem_of_getElem? (i := 36) rfl)) rfl (lv_at hl 5 rfl) ?_
        refine ff_i2l hx hb (eX12_upTo (71, .i2l, 1) (List.mem_of_getElem? (i := 37) rfl)) (fun v12 e12 => ?_)
        refine zu_S (vs := [.long v10, .long v11, .long v12]) (rest := []) hx hb hml hown hts0 zu_BT (hX12_isIn l v10 v11 v12) ⟨rfl, rfl⟩ ⟨by decide, by decide⟩ ⟨by decide, by decide⟩ (tb_7 47 rfl rfl) (tb_1 12 rfl rfl) (tb_7 45 rfl rfl) (tb_7 46 rfl rfl) (show yX12_isIn.cls ≠ "java/lang/invoke/MethodHandle" ∧ yX12_isIn.cls ≠ "java/lang/invoke/VarHandle" ∧ (parseMethodDescriptor yX12_isIn.desc).map (fun d => d.parameters.length) = some 3 by decide +kernel) rfl (fun _ _ _ => trivial) hl.1 (Nat.le_of_ble_eq_true rfl) (eX12_upTo (72, .invokestatic 130, 3) (List.mem_of_getElem? (i := 38) rfl)) (fun w13 f13 => ?_)
        obtain ⟨v13, rfl, e13⟩ := f13
        refine ff_if_ne hx hb (eX12_upTo (75, .ifCond .ne 9, 3) (List.mem_of_getElem? (i := 39) rfl)) (tgt := 84) rfl (fun c14 => ?_) (fun c14 => ?_)
        · skip
          refine lv_iload hx hb (eX12_upTo (84, .iload 5, 2) (List.mem_of_getElem? (i := 43) rfl)) (lv_at hl 0 rfl) ?_
          have hfin : utG T (m0 + 1) k1 k2 sg = (vv.toInt, g) := by rw [utG_eq, hx3, hy]; dsimp only; rw [if_neg (by omega)]
          exact W.zret hx hb hr rfl (fun t ht hW => ⟨_, rfl, by rw [hfin] <;> exact rfl, by rw [ht]; exact hh8.l0, by rw [ht]; exact kpl, by rw [ht, hfin]; exact jl⟩) hh8.2.2.1 (eX12_upTo (86, .ireturn, 1) (List.mem_of_getElem? (i := 44) rfl))
        · skip
          refine lv_aload_n hx hb (eX12_upTo (78, .aload_n 0, 1) (List.mem_of_getElem? (i := 40) rfl)) rfl (lv_at hl 2 rfl) ?_
          refine lv_iload hx hb (eX12_upTo (79, .iload 4, 2) (List.mem_of_getElem? (i := 41) rfl)) (lv_at hl 6 rfl) ?_
          refine tz_rowV (As := [.int av]) (st := []) (b := a) (C := RX12) (Ts := gT) hx hb hml hown h2 (fun _ h => h) (hX12_bad l D cA ro sz H0 a av (sg.1) T (g) ha (by omega)) ⟨rfl, rfl⟩ ⟨by decide, by decide⟩ ⟨by decide, by decide⟩ (tb_8 47 rfl rfl) (tb_1 12 rfl rfl) (tb_8 44 rfl rfl) (tb_8 46 rfl rfl) (tb_0 37 rfl rfl) (show yX12_bad.cls ≠ "java/lang/invoke/MethodHandle" ∧ yX12_bad.cls ≠ "java/lang/invoke/VarHandle" ∧ (parseMethodDescriptor yX12_bad.desc).map (fun d => d.parameters.length) = some 1 by decide +kernel) zs_blind (zs_ob hh8 ha (show RTg[11]? = some (0, 11, 0, fsX12) from rfl) (zCX12 hKn.1)) (fun U hU hW => ⟨rfl, by rw [hU]; exact hh8.l0, zKb s U hW.alike hKn, by rw [hU]; exact jl⟩) hh8.2.2.1 hl.1 (Nat.le_of_ble_eq_true rfl) (eX12_upTo (81, .invokevirtual 335, 3) (List.mem_of_getElem? (i := 42) rfl)) (fun r15 s15 t15 lo15 g15 f15 l15 => ?_)
          obtain ⟨q15, z15, c15, j15⟩ := f15
          cases q15
          rw [g15] at c15
          have hh15 : zh_ok D cA RTg ro sz H0 t15.heap lo15 := ⟨z15.1, z15.2.1, l15, z15.2.2.2⟩
          have kp15 := kpl.trans (c15.mono (ms' := vM) (by decide))
          generalize hx15 : bdG (sg.1) g = x15 at j15
          have uu15 := j15.2.2
          unfold vOK at uu15
          refine W.eq (g2 := F0 m 84 ls []) rfl ?_
          refine lv_iload hx hb (eX12_upTo (84, .iload 5, 2) (List.mem_of_getElem? (i := 43) rfl)) (lv_at hl 0 rfl) ?_
          have hfin : utG T (m0 + 1) k1 k2 sg = (vv.toInt, x15) := by rw [utG_eq, hx3, hy]; dsimp only; rw [if_pos ⟨by omega, by omega⟩, hx15]
          exact W.zret hx hb hr rfl (fun t ht hW => ⟨_, rfl, by rw [hfin] <;> exact rfl, by rw [ht]; exact hh15.l0, by rw [ht]; exact kp15, by rw [ht, hfin]; exact j15⟩) hh15.2.2.1 (eX12_upTo (86, .ireturn, 1) (List.mem_of_getElem? (i := 44) rfl))
    | succ n0 ih =>
      intro i iv vv g ls H lo0 hi9 hiv hi0 hvv htot hh0 kpl jl hl
      have hul := jl.2.2
      unfold vOK at hul
      refine lv_iload hx hb (eX12_upTo (16, .iload 6, 2) (List.mem_of_getElem? (i := 9) rfl)) (lv_at hl 1 rfl) ?_
      refine lv_iload_n hx hb (eX12_upTo (18, .iload_n 1, 1) (List.mem_of_getElem? (i := 10) rfl)) rfl (lv_at hl 3 rfl) ?_
      refine ff_icmp_ge hx hb (eX12_upTo (19, .if_icmp .ge 39, 3) (List.mem_of_getElem? (i := 11) rfl)) (tgt := 58) rfl (fun c16 => (by exfalso; omega)) (fun c16 => ?_)
      refine lv_aload_n hx hb (eX12_upTo (22, .aload_n 0, 1) (List.mem_of_getElem? (i := 12) rfl)) rfl (lv_at hl 2 rfl) ?_
      refine tz_rowV (As := []) (st := []) (b := a) (C := RX12) (Ts := gT) hx hb hml hown h2 (fun _ h => h) (hX12_isGood l D cA ro sz H0 a T (g) ha) ⟨rfl, rfl⟩ ⟨by decide, by decide⟩ ⟨by decide, by decide⟩ (tb_8 17 rfl rfl) (tb_1 12 rfl rfl) (tb_8 14 rfl rfl) (tb_8 16 rfl rfl) (tb_0 31 rfl rfl) (show yX12_isGood.cls ≠ "java/lang/invoke/MethodHandle" ∧ yX12_isGood.cls ≠ "java/lang/invoke/VarHandle" ∧ (parseMethodDescriptor yX12_isGood.desc).map (fun d => d.parameters.length) = some 0 by decide +kernel) zs_blind (zs_ob hh0 ha (show RTg[11]? = some (0, 11, 0, fsX12) from rfl) (zCX12 hKn.1)) (fun U hU hW => ⟨rfl, by rw [hU]; exact hh0.l0, zKb s U hW.alike hKn, by rw [hU]; exact jl⟩) hh0.2.2.1 hl.1 (Nat.le_of_ble_eq_true rfl) (eX12_upTo (23, .invokevirtual 305, 3) (List.mem_of_getElem? (i := 13) rfl)) (fun r17 s17 t17 lo17 g17 f17 l17 => ?_)
      obtain ⟨z17, v17, q17, e17⟩ := f17
      cases q17
      rw [z17, g17]
      have hh17 : zh_ok D cA RTg ro sz H0 H lo17 := ⟨hh0.1, hh0.2.1, l17, hh0.2.2.2⟩
      refine W.eq (g2 := F0 m 26 ls [.int v17]) rfl ?_
      refine ff_if_eq hx hb (eX12_upTo (26, .ifCond .eq 32, 3) (List.mem_of_getElem? (i := 14) rfl)) (tgt := 58) rfl (fun c18 => ?_) (fun c18 => ?_)
      · skip
        have hy : utL T m0 x3.1 x3.2 = (vv.toInt, g) := by rw [← htot]; show (if _ then _ else _ : Int × uS) = _; rw [if_neg (by omega)]
        refine lv_aload_n hx hb (eX12_upTo (58, .aload_n 0, 1) (List.mem_of_getElem? (i := 29) rfl)) rfl (lv_at hl 2 rfl) ?_
        refine tz_rowV (As := []) (st := []) (b := a) (C := RX12) (Ts := gT) hx hb hml hown h2 (fun _ h => h) (hX12_isGood l D cA ro sz H0 a T (g) ha) ⟨rfl, rfl⟩ ⟨by decide, by decide⟩ ⟨by decide, by decide⟩ (tb_8 17 rfl rfl) (tb_1 12 rfl rfl) (tb_8 14 rfl rfl) (tb_8 16 rfl rfl) (tb_0 31 rfl rfl) (show yX12_isGood.cls ≠ "java/lang/invoke/MethodHandle" ∧ yX12_isGood.cls ≠ "java/lang/invoke/VarHandle" ∧ (parseMethodDescriptor yX12_isGood.desc).map (fun d => d.parameters.length) = some 0 by decide +kernel) zs_blind (zs_ob hh17 ha (show RTg[11]? = some (0, 11, 0, fsX12) from rfl) (zCX12 hKn.1)) (fun U hU hW => ⟨rfl, by rw [hU]; exact hh17.l0, zKb s U hW.alike hKn, by rw [hU]; exact jl⟩) hh17.2.2.1 hl.1 (Nat.le_of_ble_eq_true rfl) (eX12_upTo (59, .invokevirtual 305, 3) (List.mem_of_getElem? (i := 30) rfl)) (fun r19 s19 t19 lo19 g19 f19 l19 => ?_)
        obtain ⟨z19, v19, q19, e19⟩ := f19
        cases q19
        rw [z19, g19]
        have hh19 : zh_ok D cA RTg ro sz H0 H lo19 := ⟨hh17.1, hh17.2.1, l19, hh17.2.2.2⟩
        refine W.eq (g2 := F0 m 62 ls [.int v19]) rfl ?_
        refine ff_if_eq hx hb (eX12_upTo (62, .ifCond .eq 22, 3) (List.mem_of_getElem? (i := 31) rfl)) (tgt := 84) rfl (fun c20 => ?_) (fun c20 => ?_)
        · skip
          refine lv_iload hx hb (eX12_upTo (84, .iload 5, 2) (List.mem_of_getElem? (i := 43) rfl)) (lv_at hl 0 rfl) ?_
          have hfin : utG T (m0 + 1) k1 k2 sg = (vv.toInt, g) := by rw [utG_eq, hx3, hy]; dsimp only; rw [if_neg (by omega)]
          exact W.zret hx hb hr rfl (fun t ht hW => ⟨_, rfl, by rw [hfin] <;> exact rfl, by rw [ht]; exact hh19.l0, by rw [ht]; exact kpl, by rw [ht, hfin]; exact jl⟩) hh19.2.2.1 (eX12_upTo (86, .ireturn, 1) (List.mem_of_getElem? (i := 44) rfl))
        · skip
          refine lv_iload hx hb (eX12_upTo (65, .iload 5, 2) (List.mem_of_getElem? (i := 32) rfl)) (lv_at hl 0 rfl) ?_
          refine ff_i2l hx hb (eX12_upTo (67, .i2l, 1) (List.mem_of_getElem? (i := 33) rfl)) (fun v21 e21 => ?_)
          refine lv_iload_n hx hb (eX12_upTo (68, .iload_n 2, 1) (List.mem_of_getElem? (i := 34) rfl)) rfl (lv_at hl 4 rfl) ?_
          refine ff_i2l hx hb (eX12_upTo (69, .i2l, 1) (List.mem_of_getElem? (i := 35) rfl)) (fun v22 e22 => ?_)
          refine lv_iload_n hx hb (eX12_upTo (70, .iload_n 3, 1) (List.mem_of_getElem? (i := 36) rfl)) rfl (lv_at hl 5 rfl) ?_
          refine ff_i2l hx hb (eX12_upTo (71, .i2l, 1) (List.mem_of_getElem? (i := 37) rfl)) (fun v23 e23 => ?_)
          refine zu_S (vs := [.long v21, .long v22, .long v23]) (rest := []) hx hb hml hown hts0 zu_BT (hX12_isIn l v21 v22 v23) ⟨rfl, rfl⟩ ⟨by decide, by decide⟩ ⟨by decide, by decide⟩ (tb_7 47 rfl rfl) (tb_1 12 rfl rfl) (tb_7 45 rfl rfl) (tb_7 46 rfl rfl) (show yX12_isIn.cls ≠ "java/lang/invoke/MethodHandle" ∧ yX12_isIn.cls ≠ "java/lang/invoke/VarHandle" ∧ (parseMethodDescriptor yX12_isIn.desc).map (fun d => d.parameters.length) = some 3 by decide +kernel) rfl (fun _ _ _ => trivial) hl.1 (Nat.le_of_ble_eq_true rfl) (eX12_upTo (72, .invokestatic 130, 3) (List.mem_of_getElem? (i := 38) rfl)) (fun w24 f24 => ?_)
          obtain ⟨v24, rfl, e24⟩ := f24
          refine ff_if_ne hx hb (eX12_upTo (75, .ifCond .ne 9, 3) (List.mem_of_getElem? (i := 39) rfl)) (tgt := 84) rfl (fun c25 => ?_) (fun c25 => ?_)
          · skip
            refine lv_iload hx hb (eX12_upTo (84, .iload 5, 2) (List.mem_of_getElem? (i := 43) rfl)) (lv_at hl 0 rfl) ?_
            have hfin : utG T (m0 + 1) k1 k2 sg = (vv.toInt, g) := by rw [utG_eq, hx3, hy]; dsimp only; rw [if_neg (by omega)]
            exact W.zret hx hb hr rfl (fun t ht hW => ⟨_, rfl, by rw [hfin] <;> exact rfl, by rw [ht]; exact hh19.l0, by rw [ht]; exact kpl, by rw [ht, hfin]; exact jl⟩) hh19.2.2.1 (eX12_upTo (86, .ireturn, 1) (List.mem_of_getElem? (i := 44) rfl))
          · skip
            refine lv_aload_n hx hb (eX12_upTo (78, .aload_n 0, 1) (List.mem_of_getElem? (i := 40) rfl)) rfl (lv_at hl 2 rfl) ?_
            refine lv_iload hx hb (eX12_upTo (79, .iload 4, 2) (List.mem_of_getElem? (i := 41) rfl)) (lv_at hl 6 rfl) ?_
            refine tz_rowV (As := [.int av]) (st := []) (b := a) (C := RX12) (Ts := gT) hx hb hml hown h2 (fun _ h => h) (hX12_bad l D cA ro sz H0 a av (sg.1) T (g) ha (by omega)) ⟨rfl, rfl⟩ ⟨by decide, by decide⟩ ⟨by decide, by decide⟩ (tb_8 47 rfl rfl) (tb_1 12 rfl rfl) (tb_8 44 rfl rfl) (tb_8 46 rfl rfl) (tb_0 37 rfl rfl) (show yX12_bad.cls ≠ "java/lang/invoke/MethodHandle" ∧ yX12_bad.cls ≠ "java/lang/invoke/VarHandle" ∧ (parseMethodDescriptor yX12_bad.desc).map (fun d => d.parameters.length) = some 1 by decide +kernel) zs_blind (zs_ob hh19 ha (show RTg[11]? = some (0, 11, 0, fsX12) from rfl) (zCX12 hKn.1)) (fun U hU hW => ⟨rfl, by rw [hU]; exact hh19.l0, zKb s U hW.alike hKn, by rw [hU]; exact jl⟩) hh19.2.2.1 hl.1 (Nat.le_of_ble_eq_true rfl) (eX12_upTo (81, .invokevirtual 335, 3) (List.mem_of_getElem? (i := 42) rfl)) (fun r26 s26 t26 lo26 g26 f26 l26 => ?_)
            obtain ⟨q26, z26, c26, j26⟩ := f26
            cases q26
            rw [g26] at c26
            have hh26 : zh_ok D cA RTg ro sz H0 t26.heap lo26 := ⟨z26.1, z26.2.1, l26, z26.2.2.2⟩
            have kp26 := kpl.trans (c26.mono (ms' := vM) (by decide))
            generalize hx26 : bdG (sg.1) g = x26 at j26
            have uu26 := j26.2.2
            unfold vOK at uu26
            refine W.eq (g2 := F0 m 84 ls []) rfl ?_
            refine lv_iload hx hb (eX12_upTo (84, .iload 5, 2) (List.mem_of_getElem? (i := 43) rfl)) (lv_at hl 0 rfl) ?_
            have hfin : utG T (m0 + 1) k1 k2 sg = (vv.toInt, x26) := by rw [utG_eq, hx3, hy]; dsimp only; rw [if_pos ⟨by omega, by omega⟩, hx26]
            exact W.zret hx hb hr rfl (fun t ht hW => ⟨_, rfl, by rw [hfin] <;> exact rfl, by rw [ht]; exact hh26.l0, by rw [ht]; exact kp26, by rw [ht, hfin]; exact j26⟩) hh26.2.2.1 (eX12_upTo (86, .ireturn, 1) (List.mem_of_getElem? (i := 44) rfl))
      · skip
        refine lv_aload_n hx hb (eX12_upTo (29, .aload_n 0, 1) (List.mem_of_getElem? (i := 15) rfl)) rfl (lv_at hl 2 rfl) ?_
        refine tz_rowV (As := []) (st := []) (b := a) (C := RX12) (Ts := gT) hx hb hml hown h2 (fun _ h => h) (hX12_sign l D cA ro sz H0 a T (g) ha) ⟨rfl, rfl⟩ ⟨by decide, by decide⟩ ⟨by decide, by decide⟩ (tb_8 21 rfl rfl) (tb_1 12 rfl rfl) (tb_8 18 rfl rfl) (tb_8 20 rfl rfl) (tb_0 32 rfl rfl) (show yX12_sign.cls ≠ "java/lang/invoke/MethodHandle" ∧ yX12_sign.cls ≠ "java/lang/invoke/VarHandle" ∧ (parseMethodDescriptor yX12_sign.desc).map (fun d => d.parameters.length) = some 0 by decide +kernel) zs_blind (zs_ob hh17 ha (show RTg[11]? = some (0, 11, 0, fsX12) from rfl) (zCX12 hKn.1)) (fun U hU hW => ⟨rfl, by rw [hU]; exact hh17.l0, zKb s U hW.alike hKn, by rw [hU]; exact jl⟩) hh17.2.2.1 hl.1 (Nat.le_of_ble_eq_true rfl) (eX12_upTo (30, .invokevirtual 309, 3) (List.mem_of_getElem? (i := 16) rfl)) (fun r27 s27 t27 lo27 g27 f27 l27 => ?_)
        obtain ⟨z27, v27, q27, e27⟩ := f27
        cases q27
        rw [z27, g27]
        have hh27 : zh_ok D cA RTg ro sz H0 H lo27 := ⟨hh17.1, hh17.2.1, l27, hh17.2.2.2⟩
        refine W.eq (g2 := F0 m 33 ls [.int v27]) rfl ?_
        refine zu_S (vs := [.int v27]) (rest := []) hx hb hml hown hts0 zu_BT (hX12_isDigit l v27) ⟨rfl, rfl⟩ ⟨by decide, by decide⟩ ⟨by decide, by decide⟩ (tb_8 27 rfl rfl) (tb_1 12 rfl rfl) (tb_8 25 rfl rfl) (tb_8 26 rfl rfl) (show yX12_isDigit.cls ≠ "java/lang/invoke/MethodHandle" ∧ yX12_isDigit.cls ≠ "java/lang/invoke/VarHandle" ∧ (parseMethodDescriptor yX12_isDigit.desc).map (fun d => d.parameters.length) = some 1 by decide +kernel) rfl (fun _ _ _ => trivial) hl.1 (Nat.le_of_ble_eq_true rfl) (eX12_upTo (33, .invokestatic 319, 3) (List.mem_of_getElem? (i := 17) rfl)) (fun w28 f28 => ?_)
        obtain ⟨v28, rfl, e28⟩ := f28
        refine ff_if_eq hx hb (eX12_upTo (36, .ifCond .eq 22, 3) (List.mem_of_getElem? (i := 18) rfl)) (tgt := 58) rfl (fun c29 => ?_) (fun c29 => ?_)
        · have hdn : ¬ isD (byI T g.1) := by rcases e28 with h | h; exfalso; omega; rw [← e27]; exact h.2
          have hy : utL T m0 x3.1 x3.2 = (vv.toInt, g) := by rw [← htot]; show (if _ then _ else _ : Int × uS) = _; rw [if_neg (fun q => hdn q.2)]
          refine lv_aload_n hx hb (eX12_upTo (58, .aload_n 0, 1) (List.mem_of_getElem? (i := 29) rfl)) rfl (lv_at hl 2 rfl) ?_
          refine tz_rowV (As := []) (st := []) (b := a) (C := RX12) (Ts := gT) hx hb hml hown h2 (fun _ h => h) (hX12_isGood l D cA ro sz H0 a T (g) ha) ⟨rfl, rfl⟩ ⟨by decide, by decide⟩ ⟨by decide, by decide⟩ (tb_8 17 rfl rfl) (tb_1 12 rfl rfl) (tb_8 14 rfl rfl) (tb_8 16 rfl rfl) (tb_0 31 rfl rfl) (show yX12_isGood.cls ≠ "java/lang/invoke/MethodHandle" ∧ yX12_isGood.cls ≠ "java/lang/invoke/VarHandle" ∧ (parseMethodDescriptor yX12_isGood.desc).map (fun d => d.parameters.length) = some 0 by decide +kernel) zs_blind (zs_ob hh27 ha (show RTg[11]? = some (0, 11, 0, fsX12) from rfl) (zCX12 hKn.1)) (fun U hU hW => ⟨rfl, by rw [hU]; exact hh27.l0, zKb s U hW.alike hKn, by rw [hU]; exact jl⟩) hh27.2.2.1 hl.1 (Nat.le_of_ble_eq_true rfl) (eX12_upTo (59, .invokevirtual 305, 3) (List.mem_of_getElem? (i := 30) rfl)) (fun r30 s30 t30 lo30 g30 f30 l30 => ?_)
          obtain ⟨z30, v30, q30, e30⟩ := f30
          cases q30
          rw [z30, g30]
          have hh30 : zh_ok D cA RTg ro sz H0 H lo30 := ⟨hh27.1, hh27.2.1, l30, hh27.2.2.2⟩
          refine W.eq (g2 := F0 m 62 ls [.int v30]) rfl ?_
          refine ff_if_eq hx hb (eX12_upTo (62, .ifCond .eq 22, 3) (List.mem_of_getElem? (i := 31) rfl)) (tgt := 84) rfl (fun c31 => ?_) (fun c31 => ?_)
          · skip
            refine lv_iload hx hb (eX12_upTo (84, .iload 5, 2) (List.mem_of_getElem? (i := 43) rfl)) (lv_at hl 0 rfl) ?_
            have hfin : utG T (m0 + 1) k1 k2 sg = (vv.toInt, g) := by rw [utG_eq, hx3, hy]; dsimp only; rw [if_neg (by omega)]
            exact W.zret hx hb hr rfl (fun t ht hW => ⟨_, rfl, by rw [hfin] <;> exact rfl, by rw [ht]; exact hh30.l0, by rw [ht]; exact kpl, by rw [ht, hfin]; exact jl⟩) hh30.2.2.1 (eX12_upTo (86, .ireturn, 1) (List.mem_of_getElem? (i := 44) rfl))
          · skip
            refine lv_iload hx hb (eX12_upTo (65, .iload 5, 2) (List.mem_of_getElem? (i := 32) rfl)) (lv_at hl 0 rfl) ?_
            refine ff_i2l hx hb (eX12_upTo (67, .i2l, 1) (List.mem_of_getElem? (i := 33) rfl)) (fun v32 e32 => ?_)
            refine lv_iload_n hx hb (eX12_upTo (68, .iload_n 2, 1) (List.mem_of_getElem? (i := 34) rfl)) rfl (lv_at hl 4 rfl) ?_
            refine ff_i2l hx hb (eX12_upTo (69, .i2l, 1) (List.mem_of_getElem? (i := 35) rfl)) (fun v33 e33 => ?_)
            refine lv_iload_n hx hb (eX12_upTo (70, .iload_n 3, 1) (List.mem_of_getElem? (i := 36) rfl)) rfl (lv_at hl 5 rfl) ?_
            refine ff_i2l hx hb (eX12_upTo (71, .i2l, 1) (List.mem_of_getElem? (i := 37) rfl)) (fun v34 e34 => ?_)
            refine zu_S (vs := [.long v32, .long v33, .long v34]) (rest := []) hx hb hml hown hts0 zu_BT (hX12_isIn l v32 v33 v34) ⟨rfl, rfl⟩ ⟨by decide, by decide⟩ ⟨by decide, by decide⟩ (tb_7 47 rfl rfl) (tb_1 12 rfl rfl) (tb_7 45 rfl rfl) (tb_7 46 rfl rfl) (show yX12_isIn.cls ≠ "java/lang/invoke/MethodHandle" ∧ yX12_isIn.cls ≠ "java/lang/invoke/VarHandle" ∧ (parseMethodDescriptor yX12_isIn.desc).map (fun d => d.parameters.length) = some 3 by decide +kernel) rfl (fun _ _ _ => trivial) hl.1 (Nat.le_of_ble_eq_true rfl) (eX12_upTo (72, .invokestatic 130, 3) (List.mem_of_getElem? (i := 38) rfl)) (fun w35 f35 => ?_)
            obtain ⟨v35, rfl, e35⟩ := f35
            refine ff_if_ne hx hb (eX12_upTo (75, .ifCond .ne 9, 3) (List.mem_of_getElem? (i := 39) rfl)) (tgt := 84) rfl (fun c36 => ?_) (fun c36 => ?_)
            · skip
              refine lv_iload hx hb (eX12_upTo (84, .iload 5, 2) (List.mem_of_getElem? (i := 43) rfl)) (lv_at hl 0 rfl) ?_
              have hfin : utG T (m0 + 1) k1 k2 sg = (vv.toInt, g) := by rw [utG_eq, hx3, hy]; dsimp only; rw [if_neg (by omega)]
              exact W.zret hx hb hr rfl (fun t ht hW => ⟨_, rfl, by rw [hfin] <;> exact rfl, by rw [ht]; exact hh30.l0, by rw [ht]; exact kpl, by rw [ht, hfin]; exact jl⟩) hh30.2.2.1 (eX12_upTo (86, .ireturn, 1) (List.mem_of_getElem? (i := 44) rfl))
            · skip
              refine lv_aload_n hx hb (eX12_upTo (78, .aload_n 0, 1) (List.mem_of_getElem? (i := 40) rfl)) rfl (lv_at hl 2 rfl) ?_
              refine lv_iload hx hb (eX12_upTo (79, .iload 4, 2) (List.mem_of_getElem? (i := 41) rfl)) (lv_at hl 6 rfl) ?_
              refine tz_rowV (As := [.int av]) (st := []) (b := a) (C := RX12) (Ts := gT) hx hb hml hown h2 (fun _ h => h) (hX12_bad l D cA ro sz H0 a av (sg.1) T (g) ha (by omega)) ⟨rfl, rfl⟩ ⟨by decide, by decide⟩ ⟨by decide, by decide⟩ (tb_8 47 rfl rfl) (tb_1 12 rfl rfl) (tb_8 44 rfl rfl) (tb_8 46 rfl rfl) (tb_0 37 rfl rfl) (show yX12_bad.cls ≠ "java/lang/invoke/MethodHandle" ∧ yX12_bad.cls ≠ "java/lang/invoke/VarHandle" ∧ (parseMethodDescriptor yX12_bad.desc).map (fun d => d.parameters.length) = some 1 by decide +kernel) zs_blind (zs_ob hh30 ha (show RTg[11]? = some (0, 11, 0, fsX12) from rfl) (zCX12 hKn.1)) (fun U hU hW => ⟨rfl, by rw [hU]; exact hh30.l0, zKb s U hW.alike hKn, by rw [hU]; exact jl⟩) hh30.2.2.1 hl.1 (Nat.le_of_ble_eq_true rfl) (eX12_upTo (81, .invokevirtual 335, 3) (List.mem_of_getElem? (i := 42) rfl)) (fun r37 s37 t37 lo37 g37 f37 l37 => ?_)
              obtain ⟨q37, z37, c37, j37⟩ := f37
              cases q37
              rw [g37] at c37
              have hh37 : zh_ok D cA RTg ro sz H0 t37.heap lo37 := ⟨z37.1, z37.2.1, l37, z37.2.2.2⟩
              have kp37 := kpl.trans (c37.mono (ms' := vM) (by decide))
              generalize hx37 : bdG (sg.1) g = x37 at j37
              have uu37 := j37.2.2
              unfold vOK at uu37
              refine W.eq (g2 := F0 m 84 ls []) rfl ?_
              refine lv_iload hx hb (eX12_upTo (84, .iload 5, 2) (List.mem_of_getElem? (i := 43) rfl)) (lv_at hl 0 rfl) ?_
              have hfin : utG T (m0 + 1) k1 k2 sg = (vv.toInt, x37) := by rw [utG_eq, hx3, hy]; dsimp only; rw [if_pos ⟨by omega, by omega⟩, hx37]
              exact W.zret hx hb hr rfl (fun t ht hW => ⟨_, rfl, by rw [hfin] <;> exact rfl, by rw [ht]; exact hh37.l0, by rw [ht]; exact kp37, by rw [ht, hfin]; exact j37⟩) hh37.2.2.1 (eX12_upTo (86, .ireturn, 1) (List.mem_of_getElem? (i := 44) rfl))
        · have hdg : isD (byI T g.1) := by rcases e28 with h | h; rw [← e27]; exact h.2; exfalso; omega
          refine ff_bipush hx hb (eX12_upTo (39, .bipush 10, 2) (List.mem_of_getElem? (i := 19) rfl)) (by decide) (by decide) (fun v38 e38 => ?_)
          refine lv_iload hx hb (eX12_upTo (41, .iload 5, 2) (List.mem_of_getElem? (i := 20) rfl)) (lv_at hl 0 rfl) ?_
          refine ff_imulL hx hb (eX12_upTo (43, .imul, 1) (List.mem_of_getElem? (i := 21) rfl)) (e38) (by omega) (by omega) (fun v39 e39 => ?_)
          refine lv_aload_n hx hb (eX12_upTo (44, .aload_n 0, 1) (List.mem_of_getElem? (i := 22) rfl)) rfl (lv_at hl 2 rfl) ?_
          refine ff_iconst hx hb (eX12_upTo (45, .iconst 1, 1) (List.mem_of_getElem? (i := 23) rfl)) (by decide) (by decide) (fun v40 e40 => ?_)
          refine tz_rowV (As := [.int v40]) (st := [.int v39]) (b := a) (C := RX12) (Ts := gT) hx hb hml hown h2 (fun _ h => h) (hX12_digits l D cA ro sz H0 a v40 1 T (g) ha (by omega) (by decide)) ⟨rfl, rfl⟩ ⟨by decide, by decide⟩ ⟨by decide, by decide⟩ (tb_8 43 rfl rfl) (tb_1 12 rfl rfl) (tb_8 40 rfl rfl) (tb_8 42 rfl rfl) (tb_0 36 rfl rfl) (show yX12_digits.cls ≠ "java/lang/invoke/MethodHandle" ∧ yX12_digits.cls ≠ "java/lang/invoke/VarHandle" ∧ (parseMethodDescriptor yX12_digits.desc).map (fun d => d.parameters.length) = some 1 by decide +kernel) zs_blind (zs_ob hh27 ha (show RTg[11]? = some (0, 11, 0, fsX12) from rfl) (zCX12 hKn.1)) (fun U hU hW => ⟨rfl, by rw [hU]; exact hh27.l0, zKb s U hW.alike hKn, by rw [hU]; exact jl⟩) hh27.2.2.1 hl.1 (Nat.le_of_ble_eq_true rfl) (eX12_upTo (46, .invokevirtual 331, 3) (List.mem_of_getElem? (i := 24) rfl)) (fun r41 s41 t41 lo41 g41 f41 l41 => ?_)
          obtain ⟨v41, q41, e41, z41, c41, j41⟩ := f41
          cases q41
          rw [g41] at c41
          have hh41 : zh_ok D cA RTg ro sz H0 t41.heap lo41 := ⟨z41.1, z41.2.1, l41, z41.2.2.2⟩
          have kp41 := kpl.trans (c41.mono (ms' := vM) (by decide))
          have kf41 := dgG_u1 (T := T) (r := g)
          generalize hx41 : dgG T 1 0 g = x41 at j41 e41 kf41
          have uu41 := j41.2.2
          unfold vOK at uu41
          refine W.eq (g2 := F0 m 49 ls [.int v41, .int v39]) rfl ?_
          refine ff_iadd hx hb (eX12_upTo (49, .iadd, 1) (List.mem_of_getElem? (i := 25) rfl)) (by omega) (by omega) (fun v42 e42 => ?_)
          refine lv_istore hx hb (eX12_upTo (50, .istore 5, 2) (List.mem_of_getElem? (i := 26) rfl)) hl (by decide) rfl (fun ls43 hl43 => ?_)
          refine ff_iinc (k := 1) hx hb (eX12_upTo (52, .iinc 6 1, 3) (List.mem_of_getElem? (i := 27) rfl)) hl43 rfl (by decide) (by decide) (by decide) (by omega) (by omega) (fun v44 e44 ls44 hl44 => ?_)
          refine lv_goto hx hb (eX12_upTo (55, .goto (-39), 3) (List.mem_of_getElem? (i := 28) rfl)) (tgt := 16) rfl ?_
          exact ih (i + 1) v44 v42 x41.2 ls44 _ _ (by omega) (by omega) (by omega) (by omega) (by rw [← htot]; show _ = (if _ then _ else _ : Int × uS); rw [if_pos ⟨by omega, hdg⟩, hx41, show v42.toInt = 10 * vv.toInt + x41.1 by omega]) hh41 kp41 j41 (lv_sub hl44 [1, 0, 2, 3, 4, 5, 6] rfl)
  exact loop m0 1 v5 v3 x3.2 ls6 _ _ (by omega) (by omega) (by omega) (by omega) (by rw [show v3.toInt = x3.1 by omega]) hh3 kp3 j3 (lv_sub hl6 [1, 0, 3, 4, 5, 6, 2] rfl)
set_option maxRecDepth 100000 in
set_option maxHeartbeats 4000000 in
theorem hX12_ruleDate (l : Launch) (D : va_G) (cA : Nat → ClassId) (ro : Nat → Option Nat) (sz : Nat) (H0 : Heap) (a : Nat) (kk : Int32) (T : List Int) (sg : uS) (ha : ro a = some 11) (hq1 : 0 ≤ kk.toInt) (hq2 : kk.toInt ≤ 5) : Met l yX12_ruleDate (gW yX12_ruleDate cX12_ruleDate 2 none) { frames := 3, cells := 0, slots := 0, locals := 69 } (zs_P D cA ro sz H0 (fun H => jV D cA ro H a T sg) [.ref a, .int kk]) (kv_V D cA ro sz H0 eM a T (dateG T sg).2) 0 0 (zy_fr sz) := by
  refine zy_ofW (cc := cX12_ruleDate) (maxL := 2) (ret := none) (by decide +kernel) rfl ?_
  intro p e s m args below meth c s1 B hml hv
  obtain ⟨rfl, hh, hKn, hJ⟩ := hv
  have hx := B.exec
  have hb := B.bytes
  have hr := B.returns
  have hlk := B.notSynchronized
  have hts0 := atoms_spec (ws := gW yX12_ruleDate cX12_ruleDate 2 none) B.pre
  have h2 : ∀ w ∈ gT, w.before ([.ref a, .int kk] : List Value).toArray s = true := fun w hw => hts0 w (List.mem_cons_of_mem _ hw)
  have hown : s.vm.findClass RX12 = some m.cls := findClass_of_methodNamed B.named
  have hl := lv_entry [.ref a, .int kk] (n := 2) (Nat.le_of_ble_eq_true rfl)
  rw [lg_entry_eq]
  generalize (lg_sl [.ref a, .int kk] ++ List.replicate (2 - (lg_sl [.ref a, .int kk]).length) Slot.unset).toArray = ls at hl ⊢
  have b_kk := zn_i32 kk
  have hD := zD_all h2 hKn.1
  have hcl11 := fun (idx k : Nat) (t : zt_T) (h : (idx, 11, k) ∈ gfX12) (hk : fsX12[k]? = some t) => zf_clause (ro := ro) (ms := eM) h2 hown hKn.1 gfX12_ok (by decide +kernel) idx 11 k 11 0 fsX12 t h rfl hk
  have kp0 : zc_kept D RTg ro eM s.heap s.heap := zc_kept.refl
  obtain ⟨hjt, ⟨av, fv, bv, f29, f30, f31, hav, hfv, hbv⟩, hu⟩ := id hJ
  obtain ⟨tb, n, z, f12, r0, f13, hn, hc, hz⟩ := id hjt
  obtain ⟨n9, g9, n1, n2⟩ := zh_fT (k := 13) (t := (0, 0, 120)) hh ha (show RTg[11]? = some (0, 11, 0, fsX12) from rfl) rfl
  cases f13.symm.trans g9
  dsimp only at n1 n2
  clear g9
  obtain ⟨-, z9, c9, hy9⟩ := zh_arr hh r0 (show RTg[30]? = some (1, 2, 120, [(0, (-128), 127)]) from rfl)
  have hy : ∀ i, i < 120 → zt_ok ro (z i) (0, (-128), 127) := zs_arr (hc.symm.trans c9) hy9
  obtain ⟨u1, u2, u3, u4⟩ := id hu
  refine lv_aload_n hx hb (eX12_ruleDate (0, .aload_n 0, 1) (List.mem_of_getElem? (i := 0) rfl)) rfl (lv_at hl 0 rfl) ?_
  obtain ⟨a1, fa1, ra1⟩ := tz_ref (k := 32) (rr := 35) hh ha (show RTg[11]? = some (0, 11, 0, fsX12) from rfl) rfl
  refine tz_get (r := 11) (k := 32) (t := (74, 0, 0)) hx hb hh ha rfl rfl (hcl11 56 32 (74, 0, 0) (by decide) rfl).1 fa1 (eX12_ruleDate (1, .getfield 56, 3) (List.mem_of_getElem? (i := 1) rfl)) ?_
  refine lv_iload_n hx hb (eX12_ruleDate (4, .iload_n 1, 1) (List.mem_of_getElem? (i := 2) rfl)) rfl (lv_at hl 1 rfl) ?_
  refine ff_iconst hx hb (eX12_ruleDate (5, .iconst 2, 1) (List.mem_of_getElem? (i := 3) rfl)) (by decide) (by decide) (fun v2 e2 => ?_)
  refine ff_iadd hx hb (eX12_ruleDate (6, .iadd, 1) (List.mem_of_getElem? (i := 4) rfl)) (by omega) (by omega) (fun v3 e3 => ?_)
  refine ff_iconst hx hb (eX12_ruleDate (7, .iconst 0, 1) (List.mem_of_getElem? (i := 5) rfl)) (by decide) (by decide) (fun v4 e4 => ?_)
  obtain ⟨-, z5, hc5, hy5⟩ := zh_arr hh ra1 (show RTg[35]? = some (1, 0, 10, [(0, (-1000000), 1000000)]) from rfl)
  refine tz_iast hx hb (zAr hKn.1 0 (by decide)) hh ra1 (show RTg[35]? = some (1, 0, 10, [(0, (-1000000), 1000000)]) from rfl) hc5 hy5 (by omega) (by omega) (tz_i (by omega) (by omega)) (eX12_ruleDate (8, .iastore, 1) (List.mem_of_getElem? (i := 6) rfl)) (fun H6 lo6 hh6 hc6 hk6 hq6 _ => ?_)
  have mf6_a_12 := (hk6.1 a 11 12 11 0 fsX12 ha rfl (by decide) (by decide)).trans f12
  have mf6_a_13 := (hk6.1 a 11 13 11 0 fsX12 ha rfl (by decide) (by decide)).trans f13
  have mf6_a_29 := (hk6.1 a 11 29 11 0 fsX12 ha rfl (by decide) (by decide)).trans f29
  have mf6_a_30 := (hk6.1 a 11 30 11 0 fsX12 ha rfl (by decide) (by decide)).trans f30
  have mf6_a_31 := (hk6.1 a 11 31 11 0 fsX12 ha rfl (by decide) (by decide)).trans f31
  have mf6_a_32 := (hk6.1 a 11 32 11 0 fsX12 ha rfl (by decide) (by decide)).trans fa1
  have mc6_tb := (hk6.2 tb 30 0 2 120 _ r0 rfl (by decide)).trans hc
  have kp6 := kp0.trans (hk6.mono (ms' := eM) (fun x hx => by cases List.mem_singleton.mp hx; decide))
  have jm6 := (hJ).kept ha hk6 (by decide)
  refine lv_aload_n hx hb (eX12_ruleDate (9, .aload_n 0, 1) (List.mem_of_getElem? (i := 7) rfl)) rfl (lv_at hl 0 rfl) ?_
  refine tz_get (r := 11) (k := 32) (t := (74, 0, 0)) hx hb hh6 ha rfl rfl (hcl11 56 32 (74, 0, 0) (by decide) rfl).1 mf6_a_32 (eX12_ruleDate (10, .getfield 56, 3) (List.mem_of_getElem? (i := 8) rfl)) ?_
  refine lv_iload_n hx hb (eX12_ruleDate (13, .iload_n 1, 1) (List.mem_of_getElem? (i := 9) rfl)) rfl (lv_at hl 1 rfl) ?_
  refine ff_iconst hx hb (eX12_ruleDate (14, .iconst 3, 1) (List.mem_of_getElem? (i := 10) rfl)) (by decide) (by decide) (fun v7 e7 => ?_)
  refine ff_iadd hx hb (eX12_ruleDate (15, .iadd, 1) (List.mem_of_getElem? (i := 11) rfl)) (by omega) (by omega) (fun v8 e8 => ?_)
  refine ff_iconst hx hb (eX12_ruleDate (16, .iconst 0, 1) (List.mem_of_getElem? (i := 12) rfl)) (by decide) (by decide) (fun v9 e9 => ?_)
  obtain ⟨-, z10, hc10, hy10⟩ := zh_arr hh6 ra1 (show RTg[35]? = some (1, 0, 10, [(0, (-1000000), 1000000)]) from rfl)
  refine tz_iast hx hb (zAr hKn.1 0 (by decide)) hh6 ra1 (show RTg[35]? = some (1, 0, 10, [(0, (-1000000), 1000000)]) from rfl) hc10 hy10 (by omega) (by omega) (tz_i (by omega) (by omega)) (eX12_ruleDate (17, .iastore, 1) (List.mem_of_getElem? (i := 13) rfl)) (fun H11 lo11 hh11 hc11 hk11 hq11 _ => ?_)
  have mf11_a_12 := (hk11.1 a 11 12 11 0 fsX12 ha rfl (by decide) (by decide)).trans mf6_a_12
  have mf11_a_13 := (hk11.1 a 11 13 11 0 fsX12 ha rfl (by decide) (by decide)).trans mf6_a_13
  have mf11_a_29 := (hk11.1 a 11 29 11 0 fsX12 ha rfl (by decide) (by decide)).trans mf6_a_29
  have mf11_a_30 := (hk11.1 a 11 30 11 0 fsX12 ha rfl (by decide) (by decide)).trans mf6_a_30
  have mf11_a_31 := (hk11.1 a 11 31 11 0 fsX12 ha rfl (by decide) (by decide)).trans mf6_a_31
  have mf11_a_32 := (hk11.1 a 11 32 11 0 fsX12 ha rfl (by decide) (by decide)).trans mf6_a_32
  have kp11 := kp6.trans (hk11.mono (ms' := eM) (fun x hx => by cases List.mem_singleton.mp hx; decide))
  have jm11 := (jm6).kept ha hk11 (by decide)
  refine lv_aload_n hx hb (eX12_ruleDate (18, .aload_n 0, 1) (List.mem_of_getElem? (i := 14) rfl)) rfl (lv_at hl 0 rfl) ?_
  refine tz_get (r := 11) (k := 32) (t := (74, 0, 0)) hx hb hh11 ha rfl rfl (hcl11 56 32 (74, 0, 0) (by decide) rfl).1 mf11_a_32 (eX12_ruleDate (19, .getfield 56, 3) (List.mem_of_getElem? (i := 15) rfl)) ?_
  refine lv_iload_n hx hb (eX12_ruleDate (22, .iload_n 1, 1) (List.mem_of_getElem? (i := 16) rfl)) rfl (lv_at hl 1 rfl) ?_
  refine ff_iconst hx hb (eX12_ruleDate (23, .iconst 4, 1) (List.mem_of_getElem? (i := 17) rfl)) (by decide) (by decide) (fun v12 e12 => ?_)
  refine ff_iadd hx hb (eX12_ruleDate (24, .iadd, 1) (List.mem_of_getElem? (i := 18) rfl)) (by omega) (by omega) (fun v13 e13 => ?_)
  refine ff_bipush hx hb (eX12_ruleDate (25, .bipush 120, 2) (List.mem_of_getElem? (i := 19) rfl)) (by decide) (by decide) (fun v14 e14 => ?_)
  obtain ⟨-, z15, hc15, hy15⟩ := zh_arr hh11 ra1 (show RTg[35]? = some (1, 0, 10, [(0, (-1000000), 1000000)]) from rfl)
  refine tz_iast hx hb (zAr hKn.1 0 (by decide)) hh11 ra1 (show RTg[35]? = some (1, 0, 10, [(0, (-1000000), 1000000)]) from rfl) hc15 hy15 (by omega) (by omega) (tz_i (by omega) (by omega)) (eX12_ruleDate (27, .iastore, 1) (List.mem_of_getElem? (i := 20) rfl)) (fun H16 lo16 hh16 hc16 hk16 hq16 _ => ?_)
  have mf16_a_12 := (hk16.1 a 11 12 11 0 fsX12 ha rfl (by decide) (by decide)).trans mf11_a_12
  have mf16_a_13 := (hk16.1 a 11 13 11 0 fsX12 ha rfl (by decide) (by decide)).trans mf11_a_13
  have mf16_a_29 := (hk16.1 a 11 29 11 0 fsX12 ha rfl (by decide) (by decide)).trans mf11_a_29
  have mf16_a_30 := (hk16.1 a 11 30 11 0 fsX12 ha rfl (by decide) (by decide)).trans mf11_a_30
  have mf16_a_31 := (hk16.1 a 11 31 11 0 fsX12 ha rfl (by decide) (by decide)).trans mf11_a_31
  have mf16_a_32 := (hk16.1 a 11 32 11 0 fsX12 ha rfl (by decide) (by decide)).trans mf11_a_32
  have kp16 := kp11.trans (hk16.mono (ms' := eM) (fun x hx => by cases List.mem_singleton.mp hx; decide))
  have jm16 := (jm11).kept ha hk16 (by decide)
  refine lv_aload_n hx hb (eX12_ruleDate (28, .aload_n 0, 1) (List.mem_of_getElem? (i := 21) rfl)) rfl (lv_at hl 0 rfl) ?_
  refine ff_bipush hx hb (eX12_ruleDate (29, .bipush 77, 2) (List.mem_of_getElem? (i := 22) rfl)) (by decide) (by decide) (fun v17 e17 => ?_)
  refine tz_rowV (As := [.int v17]) (st := []) (b := a) (C := RX12) (Ts := gT) hx hb hml hown h2 (fun _ h => h) (hX12_takes l D cA ro sz H0 a v17 77 T (sg) ha (by omega) (by decide)) ⟨rfl, rfl⟩ ⟨by decide, by decide⟩ ⟨by decide, by decide⟩ (tb_8 13 rfl rfl) (tb_1 12 rfl rfl) (tb_8 10 rfl rfl) (tb_8 12 rfl rfl) (tb_0 30 rfl rfl) (show yX12_takes.cls ≠ "java/lang/invoke/MethodHandle" ∧ yX12_takes.cls ≠ "java/lang/invoke/VarHandle" ∧ (parseMethodDescriptor yX12_takes.desc).map (fun d => d.parameters.length) = some 1 by decide +kernel) zs_blind (zs_ob hh16 ha (show RTg[11]? = some (0, 11, 0, fsX12) from rfl) (zCX12 hKn.1)) (fun U hU hW => ⟨rfl, by rw [hU]; exact hh16.l0, zKb s U hW.alike hKn, by rw [hU]; exact jm16⟩) hh16.2.2.1 hl.1 (Nat.le_of_ble_eq_true rfl) (eX12_ruleDate (31, .invokevirtual 313, 3) (List.mem_of_getElem? (i := 23) rfl)) (fun r18 s18 t18 lo18 g18 f18 l18 => ?_)
  obtain ⟨v18, q18, e18, z18, c18, j18⟩ := f18
  cases q18
  rw [g18] at c18
  have hh18 : zh_ok D cA RTg ro sz H0 t18.heap lo18 := ⟨z18.1, z18.2.1, l18, z18.2.2.2⟩
  have kp18 := kp16.trans (c18.mono (ms' := eM) (by decide))
  have kf18 := tkG_01 T 77 sg
  generalize hx18 : tkG T 77 sg = x18 at j18 e18 kf18
  have uu18 := j18.2.2
  unfold vOK at uu18
  have mf18_a_12 := (c18.1 a 11 12 11 0 fsX12 ha rfl (by decide) (by decide)).trans mf16_a_12
  have mf18_a_13 := (c18.1 a 11 13 11 0 fsX12 ha rfl (by decide) (by decide)).trans mf16_a_13
  have mf18_a_32 := (c18.1 a 11 32 11 0 fsX12 ha rfl (by decide) (by decide)).trans mf16_a_32
  refine W.eq (g2 := F0 m 34 ls [.int v18]) rfl ?_
  refine ff_if_eq hx hb (eX12_ruleDate (34, .ifCond .eq 72, 3) (List.mem_of_getElem? (i := 24) rfl)) (tgt := 106) rfl (fun c19 => ?_) (fun c19 => ?_)
  · skip
    have d18 : ¬ x18.1 = 1 := by omega
    refine lv_aload_n hx hb (eX12_ruleDate (106, .aload_n 0, 1) (List.mem_of_getElem? (i := 70) rfl)) rfl (lv_at hl 0 rfl) ?_
    refine ff_bipush hx hb (eX12_ruleDate (107, .bipush 74, 2) (List.mem_of_getElem? (i := 71) rfl)) (by decide) (by decide) (fun v20 e20 => ?_)
    refine tz_rowV (As := [.int v20]) (st := []) (b := a) (C := RX12) (Ts := gT) hx hb hml hown h2 (fun _ h => h) (hX12_takes l D cA ro sz H0 a v20 74 T (x18.2) ha (by omega) (by decide)) ⟨rfl, rfl⟩ ⟨by decide, by decide⟩ ⟨by decide, by decide⟩ (tb_8 13 rfl rfl) (tb_1 12 rfl rfl) (tb_8 10 rfl rfl) (tb_8 12 rfl rfl) (tb_0 30 rfl rfl) (show yX12_takes.cls ≠ "java/lang/invoke/MethodHandle" ∧ yX12_takes.cls ≠ "java/lang/invoke/VarHandle" ∧ (parseMethodDescriptor yX12_takes.desc).map (fun d => d.parameters.length) = some 1 by decide +kernel) zs_blind (zs_ob hh18 ha (show RTg[11]? = some (0, 11, 0, fsX12) from rfl) (zCX12 hKn.1)) (fun U hU hW => ⟨rfl, by rw [hU]; exact hh18.l0, zKb s U hW.alike hKn, by rw [hU]; exact j18⟩) hh18.2.2.1 hl.1 (Nat.le_of_ble_eq_true rfl) (eX12_ruleDate (109, .invokevirtual 313, 3) (List.mem_of_getElem? (i := 72) rfl)) (fun r21 s21 t21 lo21 g21 f21 l21 => ?_)
    obtain ⟨v21, q21, e21, z21, c21, j21⟩ := f21
    cases q21
    rw [g21] at c21
    have hh21 : zh_ok D cA RTg ro sz H0 t21.heap lo21 := ⟨z21.1, z21.2.1, l21, z21.2.2.2⟩
    have kp21 := kp18.trans (c21.mono (ms' := eM) (by decide))
    have kf21 := tkG_01 T 74 x18.2
    generalize hx21 : tkG T 74 x18.2 = x21 at j21 e21 kf21
    have uu21 := j21.2.2
    unfold vOK at uu21
    have mf21_a_12 := (c21.1 a 11 12 11 0 fsX12 ha rfl (by decide) (by decide)).trans mf18_a_12
    have mf21_a_13 := (c21.1 a 11 13 11 0 fsX12 ha rfl (by decide) (by decide)).trans mf18_a_13
    have mf21_a_32 := (c21.1 a 11 32 11 0 fsX12 ha rfl (by decide) (by decide)).trans mf18_a_32
    refine W.eq (g2 := F0 m 112 ls [.int v21]) rfl ?_
    refine ff_if_eq hx hb (eX12_ruleDate (112, .ifCond .eq 30, 3) (List.mem_of_getElem? (i := 73) rfl)) (tgt := 142) rfl (fun c22 => ?_) (fun c22 => ?_)
    · skip
      have d21 : ¬ x21.1 = 1 := by omega
      refine lv_aload_n hx hb (eX12_ruleDate (142, .aload_n 0, 1) (List.mem_of_getElem? (i := 91) rfl)) rfl (lv_at hl 0 rfl) ?_
      refine tz_get (r := 11) (k := 32) (t := (74, 0, 0)) hx hb hh21 ha rfl rfl (hcl11 56 32 (74, 0, 0) (by decide) rfl).1 mf21_a_32 (eX12_ruleDate (143, .getfield 56, 3) (List.mem_of_getElem? (i := 92) rfl)) ?_
      refine lv_iload_n hx hb (eX12_ruleDate (146, .iload_n 1, 1) (List.mem_of_getElem? (i := 93) rfl)) rfl (lv_at hl 1 rfl) ?_
      refine ff_iconst hx hb (eX12_ruleDate (147, .iconst 2, 1) (List.mem_of_getElem? (i := 94) rfl)) (by decide) (by decide) (fun v23 e23 => ?_)
      obtain ⟨-, z24, hc24, hy24⟩ := zh_arr hh21 ra1 (show RTg[35]? = some (1, 0, 10, [(0, (-1000000), 1000000)]) from rfl)
      refine tz_iast hx hb (zAr hKn.1 0 (by decide)) hh21 ra1 (show RTg[35]? = some (1, 0, 10, [(0, (-1000000), 1000000)]) from rfl) hc24 hy24 (by omega) (by omega) (tz_i (by omega) (by omega)) (eX12_ruleDate (148, .iastore, 1) (List.mem_of_getElem? (i := 95) rfl)) (fun H25 lo25 hh25 hc25 hk25 hq25 _ => ?_)
      have mf25_a_12 := (hk25.1 a 11 12 11 0 fsX12 ha rfl (by decide) (by decide)).trans mf21_a_12
      have mf25_a_13 := (hk25.1 a 11 13 11 0 fsX12 ha rfl (by decide) (by decide)).trans mf21_a_13
      have mf25_a_32 := (hk25.1 a 11 32 11 0 fsX12 ha rfl (by decide) (by decide)).trans mf21_a_32
      have kp25 := kp21.trans (hk25.mono (ms' := eM) (fun x hx => by cases List.mem_singleton.mp hx; decide))
      have jm25 := (j21).kept ha hk25 (by decide)
      refine lv_aload_n hx hb (eX12_ruleDate (149, .aload_n 0, 1) (List.mem_of_getElem? (i := 96) rfl)) rfl (lv_at hl 0 rfl) ?_
      refine tz_get (r := 11) (k := 32) (t := (74, 0, 0)) hx hb hh25 ha rfl rfl (hcl11 56 32 (74, 0, 0) (by decide) rfl).1 mf25_a_32 (eX12_ruleDate (150, .getfield 56, 3) (List.mem_of_getElem? (i := 97) rfl)) ?_
      refine lv_iload_n hx hb (eX12_ruleDate (153, .iload_n 1, 1) (List.mem_of_getElem? (i := 98) rfl)) rfl (lv_at hl 1 rfl) ?_
      refine ff_iconst hx hb (eX12_ruleDate (154, .iconst 1, 1) (List.mem_of_getElem? (i := 99) rfl)) (by decide) (by decide) (fun v26 e26 => ?_)
      refine ff_iadd hx hb (eX12_ruleDate (155, .iadd, 1) (List.mem_of_getElem? (i := 100) rfl)) (by omega) (by omega) (fun v27 e27 => ?_)
      refine lv_aload_n hx hb (eX12_ruleDate (156, .aload_n 0, 1) (List.mem_of_getElem? (i := 101) rfl)) rfl (lv_at hl 0 rfl) ?_
      refine ff_iconst hx hb (eX12_ruleDate (157, .iconst 3, 1) (List.mem_of_getElem? (i := 102) rfl)) (by decide) (by decide) (fun v28 e28 => ?_)
      refine ff_iconst hx hb (eX12_ruleDate (158, .iconst 0, 1) (List.mem_of_getElem? (i := 103) rfl)) (by decide) (by decide) (fun v29 e29 => ?_)
      refine ff_sipush hx hb (eX12_ruleDate (159, .sipush 365, 3) (List.mem_of_getElem? (i := 104) rfl)) (by decide) (by decide) (fun v30 e30 => ?_)
      refine tz_rowV (As := [.int v28, .int v29, .int v30]) (st := [.int v27, .ref a1]) (b := a) (C := RX12) (Ts := gT) hx hb hml hown h2 (fun _ h => h) (hX12_upTo l D cA ro sz H0 a v28 v29 v30 2 0 365 T (x21.2) ha (by omega) (by omega) (by omega) (by decide)) ⟨rfl, rfl⟩ ⟨by decide, by decide⟩ ⟨by decide, by decide⟩ (tb_8 55 rfl rfl) (tb_1 12 rfl rfl) (tb_8 52 rfl rfl) (tb_8 54 rfl rfl) (tb_0 39 rfl rfl) (show yX12_upTo.cls ≠ "java/lang/invoke/MethodHandle" ∧ yX12_upTo.cls ≠ "java/lang/invoke/VarHandle" ∧ (parseMethodDescriptor yX12_upTo.desc).map (fun d => d.parameters.length) = some 3 by decide +kernel) zs_blind (zs_ob hh25 ha (show RTg[11]? = some (0, 11, 0, fsX12) from rfl) (zCX12 hKn.1)) (fun U hU hW => ⟨rfl, by rw [hU]; exact hh25.l0, zKb s U hW.alike hKn, by rw [hU]; exact jm25⟩) hh25.2.2.1 hl.1 (Nat.le_of_ble_eq_true rfl) (eX12_ruleDate (162, .invokevirtual 338, 3) (List.mem_of_getElem? (i := 105) rfl)) (fun r31 s31 t31 lo31 g31 f31 l31 => ?_)
      obtain ⟨v31, q31, e31, z31, c31, j31⟩ := f31
      cases q31
      rw [g31] at c31
      have hh31 : zh_ok D cA RTg ro sz H0 t31.heap lo31 := ⟨z31.1, z31.2.1, l31, z31.2.2.2⟩
      have kp31 := kp25.trans (c31.mono (ms' := eM) (by decide))
      have kf31 := utG_3 (T := T) (n := 2) (by decide) (lo := 0) (hi := 365) (r := x21.2)
      generalize hx31 : utG T 3 0 365 x21.2 = x31 at j31 e31 kf31
      have uu31 := j31.2.2
      unfold vOK at uu31
      have mf31_a_12 := (c31.1 a 11 12 11 0 fsX12 ha rfl (by decide) (by decide)).trans mf25_a_12
      have mf31_a_13 := (c31.1 a 11 13 11 0 fsX12 ha rfl (by decide) (by decide)).trans mf25_a_13
      have mf31_a_32 := (c31.1 a 11 32 11 0 fsX12 ha rfl (by decide) (by decide)).trans mf25_a_32
      refine W.eq (g2 := F0 m 165 ls [.int v31, .int v27, .ref a1]) rfl ?_
      obtain ⟨-, z32, hc32, hy32⟩ := zh_arr hh31 ra1 (show RTg[35]? = some (1, 0, 10, [(0, (-1000000), 1000000)]) from rfl)
      refine tz_iast hx hb (zAr hKn.1 0 (by decide)) hh31 ra1 (show RTg[35]? = some (1, 0, 10, [(0, (-1000000), 1000000)]) from rfl) hc32 hy32 (by omega) (by omega) (tz_i (by omega) (by omega)) (eX12_ruleDate (165, .iastore, 1) (List.mem_of_getElem? (i := 106) rfl)) (fun H33 lo33 hh33 hc33 hk33 hq33 _ => ?_)
      have mf33_a_12 := (hk33.1 a 11 12 11 0 fsX12 ha rfl (by decide) (by decide)).trans mf31_a_12
      have mf33_a_13 := (hk33.1 a 11 13 11 0 fsX12 ha rfl (by decide) (by decide)).trans mf31_a_13
      have mf33_a_32 := (hk33.1 a 11 32 11 0 fsX12 ha rfl (by decide) (by decide)).trans mf31_a_32
      have kp33 := kp31.trans (hk33.mono (ms' := eM) (fun x hx => by cases List.mem_singleton.mp hx; decide))
      have jm33 := (j31).kept ha hk33 (by decide)
      refine lv_aload_n hx hb (eX12_ruleDate (166, .aload_n 0, 1) (List.mem_of_getElem? (i := 107) rfl)) rfl (lv_at hl 0 rfl) ?_
      refine ff_bipush hx hb (eX12_ruleDate (167, .bipush 47, 2) (List.mem_of_getElem? (i := 108) rfl)) (by decide) (by decide) (fun v34 e34 => ?_)
      refine tz_rowV (As := [.int v34]) (st := []) (b := a) (C := RX12) (Ts := gT) hx hb hml hown h2 (fun _ h => h) (hX12_takes l D cA ro sz H0 a v34 47 T (x31.2) ha (by omega) (by decide)) ⟨rfl, rfl⟩ ⟨by decide, by decide⟩ ⟨by decide, by decide⟩ (tb_8 13 rfl rfl) (tb_1 12 rfl rfl) (tb_8 10 rfl rfl) (tb_8 12 rfl rfl) (tb_0 30 rfl rfl) (show yX12_takes.cls ≠ "java/lang/invoke/MethodHandle" ∧ yX12_takes.cls ≠ "java/lang/invoke/VarHandle" ∧ (parseMethodDescriptor yX12_takes.desc).map (fun d => d.parameters.length) = some 1 by decide +kernel) zs_blind (zs_ob hh33 ha (show RTg[11]? = some (0, 11, 0, fsX12) from rfl) (zCX12 hKn.1)) (fun U hU hW => ⟨rfl, by rw [hU]; exact hh33.l0, zKb s U hW.alike hKn, by rw [hU]; exact jm33⟩) hh33.2.2.1 hl.1 (Nat.le_of_ble_eq_true rfl) (eX12_ruleDate (169, .invokevirtual 313, 3) (List.mem_of_getElem? (i := 109) rfl)) (fun r35 s35 t35 lo35 g35 f35 l35 => ?_)
      obtain ⟨v35, q35, e35, z35, c35, j35⟩ := f35
      cases q35
      rw [g35] at c35
      have hh35 : zh_ok D cA RTg ro sz H0 t35.heap lo35 := ⟨z35.1, z35.2.1, l35, z35.2.2.2⟩
      have kp35 := kp33.trans (c35.mono (ms' := eM) (by decide))
      have kf35 := tkG_01 T 47 x31.2
      generalize hx35 : tkG T 47 x31.2 = x35 at j35 e35 kf35
      have uu35 := j35.2.2
      unfold vOK at uu35
      have mf35_a_12 := (c35.1 a 11 12 11 0 fsX12 ha rfl (by decide) (by decide)).trans mf33_a_12
      have mf35_a_13 := (c35.1 a 11 13 11 0 fsX12 ha rfl (by decide) (by decide)).trans mf33_a_13
      have mf35_a_32 := (c35.1 a 11 32 11 0 fsX12 ha rfl (by decide) (by decide)).trans mf33_a_32
      refine W.eq (g2 := F0 m 172 ls [.int v35]) rfl ?_
      refine ff_if_eq hx hb (eX12_ruleDate (172, .ifCond .eq 18, 3) (List.mem_of_getElem? (i := 110) rfl)) (tgt := 190) rfl (fun c36 => ?_) (fun c36 => ?_)
      · skip
        have d35 : ¬ x35.1 = 1 := by omega
        have hfin : (dateG T sg).2 = x35.2 := by simp only [dateG, dKG, dMG, hx18, hx21, hx31, hx35, if_neg d18, if_neg d21, if_neg d35]
        exact W.vret hx hb hr (fun t ht hW => ⟨rfl, by rw [ht]; exact hh35.l0, by rw [ht]; exact kp35, by rw [ht, hfin]; exact j35⟩) hh35.2.2.1 (eX12_ruleDate (190, .return_, 1) (List.mem_of_getElem? (i := 121) rfl))
      · skip
        have d35 : x35.1 = 1 := by omega
        refine lv_aload_n hx hb (eX12_ruleDate (175, .aload_n 0, 1) (List.mem_of_getElem? (i := 111) rfl)) rfl (lv_at hl 0 rfl) ?_
        refine tz_get (r := 11) (k := 32) (t := (74, 0, 0)) hx hb hh35 ha rfl rfl (hcl11 56 32 (74, 0, 0) (by decide) rfl).1 mf35_a_32 (eX12_ruleDate (176, .getfield 56, 3) (List.mem_of_getElem? (i := 112) rfl)) ?_
        refine lv_iload_n hx hb (eX12_ruleDate (179, .iload_n 1, 1) (List.mem_of_getElem? (i := 113) rfl)) rfl (lv_at hl 1 rfl) ?_
        refine ff_iconst hx hb (eX12_ruleDate (180, .iconst 4, 1) (List.mem_of_getElem? (i := 114) rfl)) (by decide) (by decide) (fun v37 e37 => ?_)
        refine ff_iadd hx hb (eX12_ruleDate (181, .iadd, 1) (List.mem_of_getElem? (i := 115) rfl)) (by omega) (by omega) (fun v38 e38 => ?_)
        refine lv_aload_n hx hb (eX12_ruleDate (182, .aload_n 0, 1) (List.mem_of_getElem? (i := 116) rfl)) rfl (lv_at hl 0 rfl) ?_
        refine ff_iconst hx hb (eX12_ruleDate (183, .iconst 0, 1) (List.mem_of_getElem? (i := 117) rfl)) (by decide) (by decide) (fun v39 e39 => ?_)
        refine ff_bipush hx hb (eX12_ruleDate (184, .bipush 24, 2) (List.mem_of_getElem? (i := 118) rfl)) (by decide) (by decide) (fun v40 e40 => ?_)
        refine tz_rowV (As := [.int v39, .int v40]) (st := [.int v38, .ref a1]) (b := a) (C := RX12) (Ts := gT) hx hb hml hown h2 (fun _ h => h) (hX12_ruleTime l D cA ro sz H0 a v39 v40 0 24 T (x35.2) ha (by omega) (by omega) (by decide)) ⟨rfl, rfl⟩ ⟨by decide, by decide⟩ ⟨by decide, by decide⟩ (tb_8 39 rfl rfl) (tb_1 12 rfl rfl) (tb_8 36 rfl rfl) (tb_8 38 rfl rfl) (tb_0 35 rfl rfl) (show yX12_ruleTime.cls ≠ "java/lang/invoke/MethodHandle" ∧ yX12_ruleTime.cls ≠ "java/lang/invoke/VarHandle" ∧ (parseMethodDescriptor yX12_ruleTime.desc).map (fun d => d.parameters.length) = some 2 by decide +kernel) zs_blind (zs_ob hh35 ha (show RTg[11]? = some (0, 11, 0, fsX12) from rfl) (zCX12 hKn.1)) (fun U hU hW => ⟨rfl, by rw [hU]; exact hh35.l0, zKb s U hW.alike hKn, by rw [hU]; exact j35⟩) hh35.2.2.1 hl.1 (Nat.le_of_ble_eq_true rfl) (eX12_ruleDate (186, .invokevirtual 342, 3) (List.mem_of_getElem? (i := 119) rfl)) (fun r41 s41 t41 lo41 g41 f41 l41 => ?_)
        obtain ⟨v41, hv41, q41, e41, fh41, eh41, z41, c41, j41⟩ := f41
        cases q41
        rw [g41] at c41
        have hh41 : zh_ok D cA RTg ro sz H0 t41.heap lo41 := ⟨z41.1, z41.2.1, l41, z41.2.2.2⟩
        have kp41 := kp35.trans (c41.mono (ms' := eM) (by decide))
        have kf41 := tmG_up T 0 24 x35.2
        generalize hx41 : tmG T 0 24 x35.2 = x41 at j41 e41 eh41 kf41
        have uu41 := j41.2.2
        unfold vOK at uu41
        have mf41_a_12 := (c41.1 a 11 12 11 0 fsX12 ha rfl (by decide) (by decide)).trans mf35_a_12
        have mf41_a_13 := (c41.1 a 11 13 11 0 fsX12 ha rfl (by decide) (by decide)).trans mf35_a_13
        have mf41_a_32 := (c41.1 a 11 32 11 0 fsX12 ha rfl (by decide) (by decide)).trans mf35_a_32
        refine W.eq (g2 := F0 m 189 ls [.int v41, .int v38, .ref a1]) rfl ?_
        obtain ⟨-, z42, hc42, hy42⟩ := zh_arr hh41 ra1 (show RTg[35]? = some (1, 0, 10, [(0, (-1000000), 1000000)]) from rfl)
        refine tz_iast hx hb (zAr hKn.1 0 (by decide)) hh41 ra1 (show RTg[35]? = some (1, 0, 10, [(0, (-1000000), 1000000)]) from rfl) hc42 hy42 (by omega) (by omega) (tz_i (by omega) (by omega)) (eX12_ruleDate (189, .iastore, 1) (List.mem_of_getElem? (i := 120) rfl)) (fun H43 lo43 hh43 hc43 hk43 hq43 _ => ?_)
        have mf43_a_12 := (hk43.1 a 11 12 11 0 fsX12 ha rfl (by decide) (by decide)).trans mf41_a_12
        have mf43_a_13 := (hk43.1 a 11 13 11 0 fsX12 ha rfl (by decide) (by decide)).trans mf41_a_13
        have mf43_a_32 := (hk43.1 a 11 32 11 0 fsX12 ha rfl (by decide) (by decide)).trans mf41_a_32
        have mf43_a_33 := (hk43.1 a 11 33 11 0 fsX12 ha rfl (by decide) (by decide)).trans fh41
        have kp43 := kp41.trans (hk43.mono (ms' := eM) (fun x hx => by cases List.mem_singleton.mp hx; decide))
        have jm43 := (j41).kept ha hk43 (by decide)
        have hfin : (dateG T sg).2 = x41.2 := by simp only [dateG, dKG, dMG, hx18, hx21, hx31, hx35, hx41, if_neg d18, if_neg d21, if_pos d35]
        exact W.vret hx hb hr (fun t ht hW => ⟨rfl, by rw [ht]; exact hh43.l0, by rw [ht]; exact kp43, by rw [ht, hfin]; exact jm43⟩) hh43.2.2.1 (eX12_ruleDate (190, .return_, 1) (List.mem_of_getElem? (i := 121) rfl))
    · skip
      have d21 : x21.1 = 1 := by omega
      refine lv_aload_n hx hb (eX12_ruleDate (115, .aload_n 0, 1) (List.mem_of_getElem? (i := 74) rfl)) rfl (lv_at hl 0 rfl) ?_
      refine tz_get (r := 11) (k := 32) (t := (74, 0, 0)) hx hb hh21 ha rfl rfl (hcl11 56 32 (74, 0, 0) (by decide) rfl).1 mf21_a_32 (eX12_ruleDate (116, .getfield 56, 3) (List.mem_of_getElem? (i := 75) rfl)) ?_
      refine lv_iload_n hx hb (eX12_ruleDate (119, .iload_n 1, 1) (List.mem_of_getElem? (i := 76) rfl)) rfl (lv_at hl 1 rfl) ?_
      refine ff_iconst hx hb (eX12_ruleDate (120, .iconst 1, 1) (List.mem_of_getElem? (i := 77) rfl)) (by decide) (by decide) (fun v44 e44 => ?_)
      obtain ⟨-, z45, hc45, hy45⟩ := zh_arr hh21 ra1 (show RTg[35]? = some (1, 0, 10, [(0, (-1000000), 1000000)]) from rfl)
      refine tz_iast hx hb (zAr hKn.1 0 (by decide)) hh21 ra1 (show RTg[35]? = some (1, 0, 10, [(0, (-1000000), 1000000)]) from rfl) hc45 hy45 (by omega) (by omega) (tz_i (by omega) (by omega)) (eX12_ruleDate (121, .iastore, 1) (List.mem_of_getElem? (i := 78) rfl)) (fun H46 lo46 hh46 hc46 hk46 hq46 _ => ?_)
      have mf46_a_12 := (hk46.1 a 11 12 11 0 fsX12 ha rfl (by decide) (by decide)).trans mf21_a_12
      have mf46_a_13 := (hk46.1 a 11 13 11 0 fsX12 ha rfl (by decide) (by decide)).trans mf21_a_13
      have mf46_a_32 := (hk46.1 a 11 32 11 0 fsX12 ha rfl (by decide) (by decide)).trans mf21_a_32
      have kp46 := kp21.trans (hk46.mono (ms' := eM) (fun x hx => by cases List.mem_singleton.mp hx; decide))
      have jm46 := (j21).kept ha hk46 (by decide)
      refine lv_aload_n hx hb (eX12_ruleDate (122, .aload_n 0, 1) (List.mem_of_getElem? (i := 79) rfl)) rfl (lv_at hl 0 rfl) ?_
      refine tz_get (r := 11) (k := 32) (t := (74, 0, 0)) hx hb hh46 ha rfl rfl (hcl11 56 32 (74, 0, 0) (by decide) rfl).1 mf46_a_32 (eX12_ruleDate (123, .getfield 56, 3) (List.mem_of_getElem? (i := 80) rfl)) ?_
      refine lv_iload_n hx hb (eX12_ruleDate (126, .iload_n 1, 1) (List.mem_of_getElem? (i := 81) rfl)) rfl (lv_at hl 1 rfl) ?_
      refine ff_iconst hx hb (eX12_ruleDate (127, .iconst 1, 1) (List.mem_of_getElem? (i := 82) rfl)) (by decide) (by decide) (fun v47 e47 => ?_)
      refine ff_iadd hx hb (eX12_ruleDate (128, .iadd, 1) (List.mem_of_getElem? (i := 83) rfl)) (by omega) (by omega) (fun v48 e48 => ?_)
      refine lv_aload_n hx hb (eX12_ruleDate (129, .aload_n 0, 1) (List.mem_of_getElem? (i := 84) rfl)) rfl (lv_at hl 0 rfl) ?_
      refine ff_iconst hx hb (eX12_ruleDate (130, .iconst 3, 1) (List.mem_of_getElem? (i := 85) rfl)) (by decide) (by decide) (fun v49 e49 => ?_)
      refine ff_iconst hx hb (eX12_ruleDate (131, .iconst 1, 1) (List.mem_of_getElem? (i := 86) rfl)) (by decide) (by decide) (fun v50 e50 => ?_)
      refine ff_sipush hx hb (eX12_ruleDate (132, .sipush 365, 3) (List.mem_of_getElem? (i := 87) rfl)) (by decide) (by decide) (fun v51 e51 => ?_)
      refine tz_rowV (As := [.int v49, .int v50, .int v51]) (st := [.int v48, .ref a1]) (b := a) (C := RX12) (Ts := gT) hx hb hml hown h2 (fun _ h => h) (hX12_upTo l D cA ro sz H0 a v49 v50 v51 2 1 365 T (x21.2) ha (by omega) (by omega) (by omega) (by decide)) ⟨rfl, rfl⟩ ⟨by decide, by decide⟩ ⟨by decide, by decide⟩ (tb_8 55 rfl rfl) (tb_1 12 rfl rfl) (tb_8 52 rfl rfl) (tb_8 54 rfl rfl) (tb_0 39 rfl rfl) (show yX12_upTo.cls ≠ "java/lang/invoke/MethodHandle" ∧ yX12_upTo.cls ≠ "java/lang/invoke/VarHandle" ∧ (parseMethodDescriptor yX12_upTo.desc).map (fun d => d.parameters.length) = some 3 by decide +kernel) zs_blind (zs_ob hh46 ha (show RTg[11]? = some (0, 11, 0, fsX12) from rfl) (zCX12 hKn.1)) (fun U hU hW => ⟨rfl, by rw [hU]; exact hh46.l0, zKb s U hW.alike hKn, by rw [hU]; exact jm46⟩) hh46.2.2.1 hl.1 (Nat.le_of_ble_eq_true rfl) (eX12_ruleDate (135, .invokevirtual 338, 3) (List.mem_of_getElem? (i := 88) rfl)) (fun r52 s52 t52 lo52 g52 f52 l52 => ?_)
      obtain ⟨v52, q52, e52, z52, c52, j52⟩ := f52
      cases q52
      rw [g52] at c52
      have hh52 : zh_ok D cA RTg ro sz H0 t52.heap lo52 := ⟨z52.1, z52.2.1, l52, z52.2.2.2⟩
      have kp52 := kp46.trans (c52.mono (ms' := eM) (by decide))
      have kf52 := utG_3 (T := T) (n := 2) (by decide) (lo := 1) (hi := 365) (r := x21.2)
      generalize hx52 : utG T 3 1 365 x21.2 = x52 at j52 e52 kf52
      have uu52 := j52.2.2
      unfold vOK at uu52
      have mf52_a_12 := (c52.1 a 11 12 11 0 fsX12 ha rfl (by decide) (by decide)).trans mf46_a_12
      have mf52_a_13 := (c52.1 a 11 13 11 0 fsX12 ha rfl (by decide) (by decide)).trans mf46_a_13
      have mf52_a_32 := (c52.1 a 11 32 11 0 fsX12 ha rfl (by decide) (by decide)).trans mf46_a_32
      refine W.eq (g2 := F0 m 138 ls [.int v52, .int v48, .ref a1]) rfl ?_
      obtain ⟨-, z53, hc53, hy53⟩ := zh_arr hh52 ra1 (show RTg[35]? = some (1, 0, 10, [(0, (-1000000), 1000000)]) from rfl)
      refine tz_iast hx hb (zAr hKn.1 0 (by decide)) hh52 ra1 (show RTg[35]? = some (1, 0, 10, [(0, (-1000000), 1000000)]) from rfl) hc53 hy53 (by omega) (by omega) (tz_i (by omega) (by omega)) (eX12_ruleDate (138, .iastore, 1) (List.mem_of_getElem? (i := 89) rfl)) (fun H54 lo54 hh54 hc54 hk54 hq54 _ => ?_)
      have mf54_a_12 := (hk54.1 a 11 12 11 0 fsX12 ha rfl (by decide) (by decide)).trans mf52_a_12
      have mf54_a_13 := (hk54.1 a 11 13 11 0 fsX12 ha rfl (by decide) (by decide)).trans mf52_a_13
      have mf54_a_32 := (hk54.1 a 11 32 11 0 fsX12 ha rfl (by decide) (by decide)).trans mf52_a_32
      have kp54 := kp52.trans (hk54.mono (ms' := eM) (fun x hx => by cases List.mem_singleton.mp hx; decide))
      have jm54 := (j52).kept ha hk54 (by decide)
      refine lv_goto hx hb (eX12_ruleDate (139, .goto 27, 3) (List.mem_of_getElem? (i := 90) rfl)) (tgt := 166) rfl ?_
      refine lv_aload_n hx hb (eX12_ruleDate (166, .aload_n 0, 1) (List.mem_of_getElem? (i := 107) rfl)) rfl (lv_at hl 0 rfl) ?_
      refine ff_bipush hx hb (eX12_ruleDate (167, .bipush 47, 2) (List.mem_of_getElem? (i := 108) rfl)) (by decide) (by decide) (fun v55 e55 => ?_)
      refine tz_rowV (As := [.int v55]) (st := []) (b := a) (C := RX12) (Ts := gT) hx hb hml hown h2 (fun _ h => h) (hX12_takes l D cA ro sz H0 a v55 47 T (x52.2) ha (by omega) (by decide)) ⟨rfl, rfl⟩ ⟨by decide, by decide⟩ ⟨by decide, by decide⟩ (tb_8 13 rfl rfl) (tb_1 12 rfl rfl) (tb_8 10 rfl rfl) (tb_8 12 rfl rfl) (tb_0 30 rfl rfl) (show yX12_takes.cls ≠ "java/lang/invoke/MethodHandle" ∧ yX12_takes.cls ≠ "java/lang/invoke/VarHandle" ∧ (parseMethodDescriptor yX12_takes.desc).map (fun d => d.parameters.length) = some 1 by decide +kernel) zs_blind (zs_ob hh54 ha (show RTg[11]? = some (0, 11, 0, fsX12) from rfl) (zCX12 hKn.1)) (fun U hU hW => ⟨rfl, by rw [hU]; exact hh54.l0, zKb s U hW.alike hKn, by rw [hU]; exact jm54⟩) hh54.2.2.1 hl.1 (Nat.le_of_ble_eq_true rfl) (eX12_ruleDate (169, .invokevirtual 313, 3) (List.mem_of_getElem? (i := 109) rfl)) (fun r56 s56 t56 lo56 g56 f56 l56 => ?_)
      obtain ⟨v56, q56, e56, z56, c56, j56⟩ := f56
      cases q56
      rw [g56] at c56
      have hh56 : zh_ok D cA RTg ro sz H0 t56.heap lo56 := ⟨z56.1, z56.2.1, l56, z56.2.2.2⟩
      have kp56 := kp54.trans (c56.mono (ms' := eM) (by decide))
      have kf56 := tkG_01 T 47 x52.2
      generalize hx56 : tkG T 47 x52.2 = x56 at j56 e56 kf56
      have uu56 := j56.2.2
      unfold vOK at uu56
      have mf56_a_12 := (c56.1 a 11 12 11 0 fsX12 ha rfl (by decide) (by decide)).trans mf54_a_12
      have mf56_a_13 := (c56.1 a 11 13 11 0 fsX12 ha rfl (by decide) (by decide)).trans mf54_a_13
      have mf56_a_32 := (c56.1 a 11 32 11 0 fsX12 ha rfl (by decide) (by decide)).trans mf54_a_32
      refine W.eq (g2 := F0 m 172 ls [.int v56]) rfl ?_
      refine ff_if_eq hx hb (eX12_ruleDate (172, .ifCond .eq 18, 3) (List.mem_of_getElem? (i := 110) rfl)) (tgt := 190) rfl (fun c57 => ?_) (fun c57 => ?_)
      · skip
        have d56 : ¬ x56.1 = 1 := by omega
        have hfin : (dateG T sg).2 = x56.2 := by simp only [dateG, dKG, dMG, hx18, hx21, hx52, hx56, if_neg d18, if_pos d21, if_neg d56]
        exact W.vret hx hb hr (fun t ht hW => ⟨rfl, by rw [ht]; exact hh56.l0, by rw [ht]; exact kp56, by rw [ht, hfin]; exact j56⟩) hh56.2.2.1 (eX12_ruleDate (190, .return_, 1) (List.mem_of_getElem? (i := 121) rfl))
      · skip
        have d56 : x56.1 = 1 := by omega
        refine lv_aload_n hx hb (eX12_ruleDate (175, .aload_n 0, 1) (List.mem_of_getElem? (i := 111) rfl)) rfl (lv_at hl 0 rfl) ?_
        refine tz_get (r := 11) (k := 32) (t := (74, 0, 0)) hx hb hh56 ha rfl rfl (hcl11 56 32 (74, 0, 0) (by decide) rfl).1 mf56_a_32 (eX12_ruleDate (176, .getfield 56, 3) (List.mem_of_getElem? (i := 112) rfl)) ?_
        refine lv_iload_n hx hb (eX12_ruleDate (179, .iload_n 1, 1) (List.mem_of_getElem? (i := 113) rfl)) rfl (lv_at hl 1 rfl) ?_
        refine ff_iconst hx hb (eX12_ruleDate (180, .iconst 4, 1) (List.mem_of_getElem? (i := 114) rfl)) (by decide) (by decide) (fun v58 e58 => ?_)
        refine ff_iadd hx hb (eX12_ruleDate (181, .iadd, 1) (List.mem_of_getElem? (i := 115) rfl)) (by omega) (by omega) (fun v59 e59 => ?_)
        refine lv_aload_n hx hb (eX12_ruleDate (182, .aload_n 0, 1) (List.mem_of_getElem? (i := 116) rfl)) rfl (lv_at hl 0 rfl) ?_
        refine ff_iconst hx hb (eX12_ruleDate (183, .iconst 0, 1) (List.mem_of_getElem? (i := 117) rfl)) (by decide) (by decide) (fun v60 e60 => ?_)
        refine ff_bipush hx hb (eX12_ruleDate (184, .bipush 24, 2) (List.mem_of_getElem? (i := 118) rfl)) (by decide) (by decide) (fun v61 e61 => ?_)
        refine tz_rowV (As := [.int v60, .int v61]) (st := [.int v59, .ref a1]) (b := a) (C := RX12) (Ts := gT) hx hb hml hown h2 (fun _ h => h) (hX12_ruleTime l D cA ro sz H0 a v60 v61 0 24 T (x56.2) ha (by omega) (by omega) (by decide)) ⟨rfl, rfl⟩ ⟨by decide, by decide⟩ ⟨by decide, by decide⟩ (tb_8 39 rfl rfl) (tb_1 12 rfl rfl) (tb_8 36 rfl rfl) (tb_8 38 rfl rfl) (tb_0 35 rfl rfl) (show yX12_ruleTime.cls ≠ "java/lang/invoke/MethodHandle" ∧ yX12_ruleTime.cls ≠ "java/lang/invoke/VarHandle" ∧ (parseMethodDescriptor yX12_ruleTime.desc).map (fun d => d.parameters.length) = some 2 by decide +kernel) zs_blind (zs_ob hh56 ha (show RTg[11]? = some (0, 11, 0, fsX12) from rfl) (zCX12 hKn.1)) (fun U hU hW => ⟨rfl, by rw [hU]; exact hh56.l0, zKb s U hW.alike hKn, by rw [hU]; exact j56⟩) hh56.2.2.1 hl.1 (Nat.le_of_ble_eq_true rfl) (eX12_ruleDate (186, .invokevirtual 342, 3) (List.mem_of_getElem? (i := 119) rfl)) (fun r62 s62 t62 lo62 g62 f62 l62 => ?_)
        obtain ⟨v62, hv62, q62, e62, fh62, eh62, z62, c62, j62⟩ := f62
        cases q62
        rw [g62] at c62
        have hh62 : zh_ok D cA RTg ro sz H0 t62.heap lo62 := ⟨z62.1, z62.2.1, l62, z62.2.2.2⟩
        have kp62 := kp56.trans (c62.mono (ms' := eM) (by decide))
        have kf62 := tmG_up T 0 24 x56.2
        generalize hx62 : tmG T 0 24 x56.2 = x62 at j62 e62 eh62 kf62
        have uu62 := j62.2.2
        unfold vOK at uu62
        have mf62_a_12 := (c62.1 a 11 12 11 0 fsX12 ha rfl (by decide) (by decide)).trans mf56_a_12
        have mf62_a_13 := (c62.1 a 11 13 11 0 fsX12 ha rfl (by decide) (by decide)).trans mf56_a_13
        have mf62_a_32 := (c62.1 a 11 32 11 0 fsX12 ha rfl (by decide) (by decide)).trans mf56_a_32
        refine W.eq (g2 := F0 m 189 ls [.int v62, .int v59, .ref a1]) rfl ?_
        obtain ⟨-, z63, hc63, hy63⟩ := zh_arr hh62 ra1 (show RTg[35]? = some (1, 0, 10, [(0, (-1000000), 1000000)]) from rfl)
        refine tz_iast hx hb (zAr hKn.1 0 (by decide)) hh62 ra1 (show RTg[35]? = some (1, 0, 10, [(0, (-1000000), 1000000)]) from rfl) hc63 hy63 (by omega) (by omega) (tz_i (by omega) (by omega)) (eX12_ruleDate (189, .iastore, 1) (List.mem_of_getElem? (i := 120) rfl)) (fun H64 lo64 hh64 hc64 hk64 hq64 _ => ?_)
        have mf64_a_12 := (hk64.1 a 11 12 11 0 fsX12 ha rfl (by decide) (by decide)).trans mf62_a_12
        have mf64_a_13 := (hk64.1 a 11 13 11 0 fsX12 ha rfl (by decide) (by decide)).trans mf62_a_13
        have mf64_a_32 := (hk64.1 a 11 32 11 0 fsX12 ha rfl (by decide) (by decide)).trans mf62_a_32
        have mf64_a_33 := (hk64.1 a 11 33 11 0 fsX12 ha rfl (by decide) (by decide)).trans fh62
        have kp64 := kp62.trans (hk64.mono (ms' := eM) (fun x hx => by cases List.mem_singleton.mp hx; decide))
        have jm64 := (j62).kept ha hk64 (by decide)
        have hfin : (dateG T sg).2 = x62.2 := by simp only [dateG, dKG, dMG, hx18, hx21, hx52, hx56, hx62, if_neg d18, if_pos d21, if_pos d56]
        exact W.vret hx hb hr (fun t ht hW => ⟨rfl, by rw [ht]; exact hh64.l0, by rw [ht]; exact kp64, by rw [ht, hfin]; exact jm64⟩) hh64.2.2.1 (eX12_ruleDate (190, .return_, 1) (List.mem_of_getElem? (i := 121) rfl))
  · skip
    have d18 : x18.1 = 1 := by omega
    refine lv_aload_n hx hb (eX12_ruleDate (37, .aload_n 0, 1) (List.mem_of_getElem? (i := 25) rfl)) rfl (lv_at hl 0 rfl) ?_
    refine tz_get (r := 11) (k := 32) (t := (74, 0, 0)) hx hb hh18 ha rfl rfl (hcl11 56 32 (74, 0, 0) (by decide) rfl).1 mf18_a_32 (eX12_ruleDate (38, .getfield 56, 3) (List.mem_of_getElem? (i := 26) rfl)) ?_
    refine lv_iload_n hx hb (eX12_ruleDate (41, .iload_n 1, 1) (List.mem_of_getElem? (i := 27) rfl)) rfl (lv_at hl 1 rfl) ?_
    refine ff_iconst hx hb (eX12_ruleDate (42, .iconst 0, 1) (List.mem_of_getElem? (i := 28) rfl)) (by decide) (by decide) (fun v65 e65 => ?_)
    obtain ⟨-, z66, hc66, hy66⟩ := zh_arr hh18 ra1 (show RTg[35]? = some (1, 0, 10, [(0, (-1000000), 1000000)]) from rfl)
    refine tz_iast hx hb (zAr hKn.1 0 (by decide)) hh18 ra1 (show RTg[35]? = some (1, 0, 10, [(0, (-1000000), 1000000)]) from rfl) hc66 hy66 (by omega) (by omega) (tz_i (by omega) (by omega)) (eX12_ruleDate (43, .iastore, 1) (List.mem_of_getElem? (i := 29) rfl)) (fun H67 lo67 hh67 hc67 hk67 hq67 _ => ?_)
    have mf67_a_12 := (hk67.1 a 11 12 11 0 fsX12 ha rfl (by decide) (by decide)).trans mf18_a_12
    have mf67_a_13 := (hk67.1 a 11 13 11 0 fsX12 ha rfl (by decide) (by decide)).trans mf18_a_13
    have mf67_a_32 := (hk67.1 a 11 32 11 0 fsX12 ha rfl (by decide) (by decide)).trans mf18_a_32
    have kp67 := kp18.trans (hk67.mono (ms' := eM) (fun x hx => by cases List.mem_singleton.mp hx; decide))
    have jm67 := (j18).kept ha hk67 (by decide)
    refine lv_aload_n hx hb (eX12_ruleDate (44, .aload_n 0, 1) (List.mem_of_getElem? (i := 30) rfl)) rfl (lv_at hl 0 rfl) ?_
    refine tz_get (r := 11) (k := 32) (t := (74, 0, 0)) hx hb hh67 ha rfl rfl (hcl11 56 32 (74, 0, 0) (by decide) rfl).1 mf67_a_32 (eX12_ruleDate (45, .getfield 56, 3) (List.mem_of_getElem? (i := 31) rfl)) ?_
    refine lv_iload_n hx hb (eX12_ruleDate (48, .iload_n 1, 1) (List.mem_of_getElem? (i := 32) rfl)) rfl (lv_at hl 1 rfl) ?_
    refine ff_iconst hx hb (eX12_ruleDate (49, .iconst 1, 1) (List.mem_of_getElem? (i := 33) rfl)) (by decide) (by decide) (fun v68 e68 => ?_)
    refine ff_iadd hx hb (eX12_ruleDate (50, .iadd, 1) (List.mem_of_getElem? (i := 34) rfl)) (by omega) (by omega) (fun v69 e69 => ?_)
    refine lv_aload_n hx hb (eX12_ruleDate (51, .aload_n 0, 1) (List.mem_of_getElem? (i := 35) rfl)) rfl (lv_at hl 0 rfl) ?_
    refine ff_iconst hx hb (eX12_ruleDate (52, .iconst 2, 1) (List.mem_of_getElem? (i := 36) rfl)) (by decide) (by decide) (fun v70 e70 => ?_)
    refine ff_iconst hx hb (eX12_ruleDate (53, .iconst 1, 1) (List.mem_of_getElem? (i := 37) rfl)) (by decide) (by decide) (fun v71 e71 => ?_)
    refine ff_bipush hx hb (eX12_ruleDate (54, .bipush 12, 2) (List.mem_of_getElem? (i := 38) rfl)) (by decide) (by decide) (fun v72 e72 => ?_)
    refine tz_rowV (As := [.int v70, .int v71, .int v72]) (st := [.int v69, .ref a1]) (b := a) (C := RX12) (Ts := gT) hx hb hml hown h2 (fun _ h => h) (hX12_upTo l D cA ro sz H0 a v70 v71 v72 1 1 12 T (x18.2) ha (by omega) (by omega) (by omega) (by decide)) ⟨rfl, rfl⟩ ⟨by decide, by decide⟩ ⟨by decide, by decide⟩ (tb_8 55 rfl rfl) (tb_1 12 rfl rfl) (tb_8 52 rfl rfl) (tb_8 54 rfl rfl) (tb_0 39 rfl rfl) (show yX12_upTo.cls ≠ "java/lang/invoke/MethodHandle" ∧ yX12_upTo.cls ≠ "java/lang/invoke/VarHandle" ∧ (parseMethodDescriptor yX12_upTo.desc).map (fun d => d.parameters.length) = some 3 by decide +kernel) zs_blind (zs_ob hh67 ha (show RTg[11]? = some (0, 11, 0, fsX12) from rfl) (zCX12 hKn.1)) (fun U hU hW => ⟨rfl, by rw [hU]; exact hh67.l0, zKb s U hW.alike hKn, by rw [hU]; exact jm67⟩) hh67.2.2.1 hl.1 (Nat.le_of_ble_eq_true rfl) (eX12_ruleDate (56, .invokevirtual 338, 3) (List.mem_of_getElem? (i := 39) rfl)) (fun r73 s73 t73 lo73 g73 f73 l73 => ?_)
    obtain ⟨v73, q73, e73, z73, c73, j73⟩ := f73
    cases q73
    rw [g73] at c73
    have hh73 : zh_ok D cA RTg ro sz H0 t73.heap lo73 := ⟨z73.1, z73.2.1, l73, z73.2.2.2⟩
    have kp73 := kp67.trans (c73.mono (ms' := eM) (by decide))
    have kf73 := utG_3 (T := T) (n := 1) (by decide) (lo := 1) (hi := 12) (r := x18.2)
    generalize hx73 : utG T 2 1 12 x18.2 = x73 at j73 e73 kf73
    have uu73 := j73.2.2
    unfold vOK at uu73
    have mf73_a_12 := (c73.1 a 11 12 11 0 fsX12 ha rfl (by decide) (by decide)).trans mf67_a_12
    have mf73_a_13 := (c73.1 a 11 13 11 0 fsX12 ha rfl (by decide) (by decide)).trans mf67_a_13
    have mf73_a_32 := (c73.1 a 11 32 11 0 fsX12 ha rfl (by decide) (by decide)).trans mf67_a_32
    refine W.eq (g2 := F0 m 59 ls [.int v73, .int v69, .ref a1]) rfl ?_
    obtain ⟨-, z74, hc74, hy74⟩ := zh_arr hh73 ra1 (show RTg[35]? = some (1, 0, 10, [(0, (-1000000), 1000000)]) from rfl)
    refine tz_iast hx hb (zAr hKn.1 0 (by decide)) hh73 ra1 (show RTg[35]? = some (1, 0, 10, [(0, (-1000000), 1000000)]) from rfl) hc74 hy74 (by omega) (by omega) (tz_i (by omega) (by omega)) (eX12_ruleDate (59, .iastore, 1) (List.mem_of_getElem? (i := 40) rfl)) (fun H75 lo75 hh75 hc75 hk75 hq75 _ => ?_)
    have mf75_a_12 := (hk75.1 a 11 12 11 0 fsX12 ha rfl (by decide) (by decide)).trans mf73_a_12
    have mf75_a_13 := (hk75.1 a 11 13 11 0 fsX12 ha rfl (by decide) (by decide)).trans mf73_a_13
    have mf75_a_32 := (hk75.1 a 11 32 11 0 fsX12 ha rfl (by decide) (by decide)).trans mf73_a_32
    have kp75 := kp73.trans (hk75.mono (ms' := eM) (fun x hx => by cases List.mem_singleton.mp hx; decide))
    have jm75 := (j73).kept ha hk75 (by decide)
    refine lv_aload_n hx hb (eX12_ruleDate (60, .aload_n 0, 1) (List.mem_of_getElem? (i := 41) rfl)) rfl (lv_at hl 0 rfl) ?_
    refine ff_bipush hx hb (eX12_ruleDate (61, .bipush 46, 2) (List.mem_of_getElem? (i := 42) rfl)) (by decide) (by decide) (fun v76 e76 => ?_)
    refine tz_rowV (As := [.int v76]) (st := []) (b := a) (C := RX12) (Ts := gT) hx hb hml hown h2 (fun _ h => h) (hX12_expect l D cA ro sz H0 a v76 46 T (x73.2) ha (by omega) (by decide)) ⟨rfl, rfl⟩ ⟨by decide, by decide⟩ ⟨by decide, by decide⟩ (tb_8 35 rfl rfl) (tb_1 12 rfl rfl) (tb_8 32 rfl rfl) (tb_8 34 rfl rfl) (tb_0 34 rfl rfl) (show yX12_expect.cls ≠ "java/lang/invoke/MethodHandle" ∧ yX12_expect.cls ≠ "java/lang/invoke/VarHandle" ∧ (parseMethodDescriptor yX12_expect.desc).map (fun d => d.parameters.length) = some 1 by decide +kernel) zs_blind (zs_ob hh75 ha (show RTg[11]? = some (0, 11, 0, fsX12) from rfl) (zCX12 hKn.1)) (fun U hU hW => ⟨rfl, by rw [hU]; exact hh75.l0, zKb s U hW.alike hKn, by rw [hU]; exact jm75⟩) hh75.2.2.1 hl.1 (Nat.le_of_ble_eq_true rfl) (eX12_ruleDate (63, .invokevirtual 325, 3) (List.mem_of_getElem? (i := 43) rfl)) (fun r77 s77 t77 lo77 g77 f77 l77 => ?_)
    obtain ⟨q77, z77, c77, j77⟩ := f77
    cases q77
    rw [g77] at c77
    have hh77 : zh_ok D cA RTg ro sz H0 t77.heap lo77 := ⟨z77.1, z77.2.1, l77, z77.2.2.2⟩
    have kp77 := kp75.trans (c77.mono (ms' := eM) (by decide))
    generalize hx77 : exG T 46 x73.2 = x77 at j77
    have uu77 := j77.2.2
    unfold vOK at uu77
    have mf77_a_12 := (c77.1 a 11 12 11 0 fsX12 ha rfl (by decide) (by decide)).trans mf75_a_12
    have mf77_a_13 := (c77.1 a 11 13 11 0 fsX12 ha rfl (by decide) (by decide)).trans mf75_a_13
    have mf77_a_32 := (c77.1 a 11 32 11 0 fsX12 ha rfl (by decide) (by decide)).trans mf75_a_32
    refine W.eq (g2 := F0 m 66 ls []) rfl ?_
    refine lv_aload_n hx hb (eX12_ruleDate (66, .aload_n 0, 1) (List.mem_of_getElem? (i := 44) rfl)) rfl (lv_at hl 0 rfl) ?_
    refine tz_get (r := 11) (k := 32) (t := (74, 0, 0)) hx hb hh77 ha rfl rfl (hcl11 56 32 (74, 0, 0) (by decide) rfl).1 mf77_a_32 (eX12_ruleDate (67, .getfield 56, 3) (List.mem_of_getElem? (i := 45) rfl)) ?_
    refine lv_iload_n hx hb (eX12_ruleDate (70, .iload_n 1, 1) (List.mem_of_getElem? (i := 46) rfl)) rfl (lv_at hl 1 rfl) ?_
    refine ff_iconst hx hb (eX12_ruleDate (71, .iconst 2, 1) (List.mem_of_getElem? (i := 47) rfl)) (by decide) (by decide) (fun v78 e78 => ?_)
    refine ff_iadd hx hb (eX12_ruleDate (72, .iadd, 1) (List.mem_of_getElem? (i := 48) rfl)) (by omega) (by omega) (fun v79 e79 => ?_)
    refine lv_aload_n hx hb (eX12_ruleDate (73, .aload_n 0, 1) (List.mem_of_getElem? (i := 49) rfl)) rfl (lv_at hl 0 rfl) ?_
    refine ff_iconst hx hb (eX12_ruleDate (74, .iconst 1, 1) (List.mem_of_getElem? (i := 50) rfl)) (by decide) (by decide) (fun v80 e80 => ?_)
    refine ff_iconst hx hb (eX12_ruleDate (75, .iconst 1, 1) (List.mem_of_getElem? (i := 51) rfl)) (by decide) (by decide) (fun v81 e81 => ?_)
    refine ff_iconst hx hb (eX12_ruleDate (76, .iconst 5, 1) (List.mem_of_getElem? (i := 52) rfl)) (by decide) (by decide) (fun v82 e82 => ?_)
    refine tz_rowV (As := [.int v80, .int v81, .int v82]) (st := [.int v79, .ref a1]) (b := a) (C := RX12) (Ts := gT) hx hb hml hown h2 (fun _ h => h) (hX12_upTo l D cA ro sz H0 a v80 v81 v82 0 1 5 T (x77) ha (by omega) (by omega) (by omega) (by decide)) ⟨rfl, rfl⟩ ⟨by decide, by decide⟩ ⟨by decide, by decide⟩ (tb_8 55 rfl rfl) (tb_1 12 rfl rfl) (tb_8 52 rfl rfl) (tb_8 54 rfl rfl) (tb_0 39 rfl rfl) (show yX12_upTo.cls ≠ "java/lang/invoke/MethodHandle" ∧ yX12_upTo.cls ≠ "java/lang/invoke/VarHandle" ∧ (parseMethodDescriptor yX12_upTo.desc).map (fun d => d.parameters.length) = some 3 by decide +kernel) zs_blind (zs_ob hh77 ha (show RTg[11]? = some (0, 11, 0, fsX12) from rfl) (zCX12 hKn.1)) (fun U hU hW => ⟨rfl, by rw [hU]; exact hh77.l0, zKb s U hW.alike hKn, by rw [hU]; exact j77⟩) hh77.2.2.1 hl.1 (Nat.le_of_ble_eq_true rfl) (eX12_ruleDate (77, .invokevirtual 338, 3) (List.mem_of_getElem? (i := 53) rfl)) (fun r83 s83 t83 lo83 g83 f83 l83 => ?_)
    obtain ⟨v83, q83, e83, z83, c83, j83⟩ := f83
    cases q83
    rw [g83] at c83
    have hh83 : zh_ok D cA RTg ro sz H0 t83.heap lo83 := ⟨z83.1, z83.2.1, l83, z83.2.2.2⟩
    have kp83 := kp77.trans (c83.mono (ms' := eM) (by decide))
    have kf83 := utG_3 (T := T) (n := 0) (by decide) (lo := 1) (hi := 5) (r := x77)
    generalize hx83 : utG T 1 1 5 x77 = x83 at j83 e83 kf83
    have uu83 := j83.2.2
    unfold vOK at uu83
    have mf83_a_12 := (c83.1 a 11 12 11 0 fsX12 ha rfl (by decide) (by decide)).trans mf77_a_12
    have mf83_a_13 := (c83.1 a 11 13 11 0 fsX12 ha rfl (by decide) (by decide)).trans mf77_a_13
    have mf83_a_32 := (c83.1 a 11 32 11 0 fsX12 ha rfl (by decide) (by decide)).trans mf77_a_32
    refine W.eq (g2 := F0 m 80 ls [.int v83, .int v79, .ref a1]) rfl ?_
    obtain ⟨-, z84, hc84, hy84⟩ := zh_arr hh83 ra1 (show RTg[35]? = some (1, 0, 10, [(0, (-1000000), 1000000)]) from rfl)
    refine tz_iast hx hb (zAr hKn.1 0 (by decide)) hh83 ra1 (show RTg[35]? = some (1, 0, 10, [(0, (-1000000), 1000000)]) from rfl) hc84 hy84 (by omega) (by omega) (tz_i (by omega) (by omega)) (eX12_ruleDate (80, .iastore, 1) (List.mem_of_getElem? (i := 54) rfl)) (fun H85 lo85 hh85 hc85 hk85 hq85 _ => ?_)
    have mf85_a_12 := (hk85.1 a 11 12 11 0 fsX12 ha rfl (by decide) (by decide)).trans mf83_a_12
    have mf85_a_13 := (hk85.1 a 11 13 11 0 fsX12 ha rfl (by decide) (by decide)).trans mf83_a_13
    have mf85_a_32 := (hk85.1 a 11 32 11 0 fsX12 ha rfl (by decide) (by decide)).trans mf83_a_32
    have kp85 := kp83.trans (hk85.mono (ms' := eM) (fun x hx => by cases List.mem_singleton.mp hx; decide))
    have jm85 := (j83).kept ha hk85 (by decide)
    refine lv_aload_n hx hb (eX12_ruleDate (81, .aload_n 0, 1) (List.mem_of_getElem? (i := 55) rfl)) rfl (lv_at hl 0 rfl) ?_
    refine ff_bipush hx hb (eX12_ruleDate (82, .bipush 46, 2) (List.mem_of_getElem? (i := 56) rfl)) (by decide) (by decide) (fun v86 e86 => ?_)
    refine tz_rowV (As := [.int v86]) (st := []) (b := a) (C := RX12) (Ts := gT) hx hb hml hown h2 (fun _ h => h) (hX12_expect l D cA ro sz H0 a v86 46 T (x83.2) ha (by omega) (by decide)) ⟨rfl, rfl⟩ ⟨by decide, by decide⟩ ⟨by decide, by decide⟩ (tb_8 35 rfl rfl) (tb_1 12 rfl rfl) (tb_8 32 rfl rfl) (tb_8 34 rfl rfl) (tb_0 34 rfl rfl) (show yX12_expect.cls ≠ "java/lang/invoke/MethodHandle" ∧ yX12_expect.cls ≠ "java/lang/invoke/VarHandle" ∧ (parseMethodDescriptor yX12_expect.desc).map (fun d => d.parameters.length) = some 1 by decide +kernel) zs_blind (zs_ob hh85 ha (show RTg[11]? = some (0, 11, 0, fsX12) from rfl) (zCX12 hKn.1)) (fun U hU hW => ⟨rfl, by rw [hU]; exact hh85.l0, zKb s U hW.alike hKn, by rw [hU]; exact jm85⟩) hh85.2.2.1 hl.1 (Nat.le_of_ble_eq_true rfl) (eX12_ruleDate (84, .invokevirtual 325, 3) (List.mem_of_getElem? (i := 57) rfl)) (fun r87 s87 t87 lo87 g87 f87 l87 => ?_)
    obtain ⟨q87, z87, c87, j87⟩ := f87
    cases q87
    rw [g87] at c87
    have hh87 : zh_ok D cA RTg ro sz H0 t87.heap lo87 := ⟨z87.1, z87.2.1, l87, z87.2.2.2⟩
    have kp87 := kp85.trans (c87.mono (ms' := eM) (by decide))
    generalize hx87 : exG T 46 x83.2 = x87 at j87
    have uu87 := j87.2.2
    unfold vOK at uu87
    have mf87_a_12 := (c87.1 a 11 12 11 0 fsX12 ha rfl (by decide) (by decide)).trans mf85_a_12
    have mf87_a_13 := (c87.1 a 11 13 11 0 fsX12 ha rfl (by decide) (by decide)).trans mf85_a_13
    have mf87_a_32 := (c87.1 a 11 32 11 0 fsX12 ha rfl (by decide) (by decide)).trans mf85_a_32
    refine W.eq (g2 := F0 m 87 ls []) rfl ?_
    refine lv_aload_n hx hb (eX12_ruleDate (87, .aload_n 0, 1) (List.mem_of_getElem? (i := 58) rfl)) rfl (lv_at hl 0 rfl) ?_
    refine tz_get (r := 11) (k := 32) (t := (74, 0, 0)) hx hb hh87 ha rfl rfl (hcl11 56 32 (74, 0, 0) (by decide) rfl).1 mf87_a_32 (eX12_ruleDate (88, .getfield 56, 3) (List.mem_of_getElem? (i := 59) rfl)) ?_
    refine lv_iload_n hx hb (eX12_ruleDate (91, .iload_n 1, 1) (List.mem_of_getElem? (i := 60) rfl)) rfl (lv_at hl 1 rfl) ?_
    refine ff_iconst hx hb (eX12_ruleDate (92, .iconst 3, 1) (List.mem_of_getElem? (i := 61) rfl)) (by decide) (by decide) (fun v88 e88 => ?_)
    refine ff_iadd hx hb (eX12_ruleDate (93, .iadd, 1) (List.mem_of_getElem? (i := 62) rfl)) (by omega) (by omega) (fun v89 e89 => ?_)
    refine lv_aload_n hx hb (eX12_ruleDate (94, .aload_n 0, 1) (List.mem_of_getElem? (i := 63) rfl)) rfl (lv_at hl 0 rfl) ?_
    refine ff_iconst hx hb (eX12_ruleDate (95, .iconst 1, 1) (List.mem_of_getElem? (i := 64) rfl)) (by decide) (by decide) (fun v90 e90 => ?_)
    refine ff_iconst hx hb (eX12_ruleDate (96, .iconst 0, 1) (List.mem_of_getElem? (i := 65) rfl)) (by decide) (by decide) (fun v91 e91 => ?_)
    refine ff_bipush hx hb (eX12_ruleDate (97, .bipush 6, 2) (List.mem_of_getElem? (i := 66) rfl)) (by decide) (by decide) (fun v92 e92 => ?_)
    refine tz_rowV (As := [.int v90, .int v91, .int v92]) (st := [.int v89, .ref a1]) (b := a) (C := RX12) (Ts := gT) hx hb hml hown h2 (fun _ h => h) (hX12_upTo l D cA ro sz H0 a v90 v91 v92 0 0 6 T (x87) ha (by omega) (by omega) (by omega) (by decide)) ⟨rfl, rfl⟩ ⟨by decide, by decide⟩ ⟨by decide, by decide⟩ (tb_8 55 rfl rfl) (tb_1 12 rfl rfl) (tb_8 52 rfl rfl) (tb_8 54 rfl rfl) (tb_0 39 rfl rfl) (show yX12_upTo.cls ≠ "java/lang/invoke/MethodHandle" ∧ yX12_upTo.cls ≠ "java/lang/invoke/VarHandle" ∧ (parseMethodDescriptor yX12_upTo.desc).map (fun d => d.parameters.length) = some 3 by decide +kernel) zs_blind (zs_ob hh87 ha (show RTg[11]? = some (0, 11, 0, fsX12) from rfl) (zCX12 hKn.1)) (fun U hU hW => ⟨rfl, by rw [hU]; exact hh87.l0, zKb s U hW.alike hKn, by rw [hU]; exact j87⟩) hh87.2.2.1 hl.1 (Nat.le_of_ble_eq_true rfl) (eX12_ruleDate (99, .invokevirtual 338, 3) (List.mem_of_getElem? (i := 67) rfl)) (fun r93 s93 t93 lo93 g93 f93 l93 => ?_)
    obtain ⟨v93, q93, e93, z93, c93, j93⟩ := f93
    cases q93
    rw [g93] at c93
    have hh93 : zh_ok D cA RTg ro sz H0 t93.heap lo93 := ⟨z93.1, z93.2.1, l93, z93.2.2.2⟩
    have kp93 := kp87.trans (c93.mono (ms' := eM) (by decide))
    have kf93 := utG_3 (T := T) (n := 0) (by decide) (lo := 0) (hi := 6) (r := x87)
    generalize hx93 : utG T 1 0 6 x87 = x93 at j93 e93 kf93
    have uu93 := j93.2.2
    unfold vOK at uu93
    have mf93_a_12 := (c93.1 a 11 12 11 0 fsX12 ha rfl (by decide) (by decide)).trans mf87_a_12
    have mf93_a_13 := (c93.1 a 11 13 11 0 fsX12 ha rfl (by decide) (by decide)).trans mf87_a_13
    have mf93_a_32 := (c93.1 a 11 32 11 0 fsX12 ha rfl (by decide) (by decide)).trans mf87_a_32
    refine W.eq (g2 := F0 m 102 ls [.int v93, .int v89, .ref a1]) rfl ?_
    obtain ⟨-, z94, hc94, hy94⟩ := zh_arr hh93 ra1 (show RTg[35]? = some (1, 0, 10, [(0, (-1000000), 1000000)]) from rfl)
    refine tz_iast hx hb (zAr hKn.1 0 (by decide)) hh93 ra1 (show RTg[35]? = some (1, 0, 10, [(0, (-1000000), 1000000)]) from rfl) hc94 hy94 (by omega) (by omega) (tz_i (by omega) (by omega)) (eX12_ruleDate (102, .iastore, 1) (List.mem_of_getElem? (i := 68) rfl)) (fun H95 lo95 hh95 hc95 hk95 hq95 _ => ?_)
    have mf95_a_12 := (hk95.1 a 11 12 11 0 fsX12 ha rfl (by decide) (by decide)).trans mf93_a_12
    have mf95_a_13 := (hk95.1 a 11 13 11 0 fsX12 ha rfl (by decide) (by decide)).trans mf93_a_13
    have mf95_a_32 := (hk95.1 a 11 32 11 0 fsX12 ha rfl (by decide) (by decide)).trans mf93_a_32
    have kp95 := kp93.trans (hk95.mono (ms' := eM) (fun x hx => by cases List.mem_singleton.mp hx; decide))
    have jm95 := (j93).kept ha hk95 (by decide)
    refine lv_goto hx hb (eX12_ruleDate (103, .goto 63, 3) (List.mem_of_getElem? (i := 69) rfl)) (tgt := 166) rfl ?_
    refine lv_aload_n hx hb (eX12_ruleDate (166, .aload_n 0, 1) (List.mem_of_getElem? (i := 107) rfl)) rfl (lv_at hl 0 rfl) ?_
    refine ff_bipush hx hb (eX12_ruleDate (167, .bipush 47, 2) (List.mem_of_getElem? (i := 108) rfl)) (by decide) (by decide) (fun v96 e96 => ?_)
    refine tz_rowV (As := [.int v96]) (st := []) (b := a) (C := RX12) (Ts := gT) hx hb hml hown h2 (fun _ h => h) (hX12_takes l D cA ro sz H0 a v96 47 T (x93.2) ha (by omega) (by decide)) ⟨rfl, rfl⟩ ⟨by decide, by decide⟩ ⟨by decide, by decide⟩ (tb_8 13 rfl rfl) (tb_1 12 rfl rfl) (tb_8 10 rfl rfl) (tb_8 12 rfl rfl) (tb_0 30 rfl rfl) (show yX12_takes.cls ≠ "java/lang/invoke/MethodHandle" ∧ yX12_takes.cls ≠ "java/lang/invoke/VarHandle" ∧ (parseMethodDescriptor yX12_takes.desc).map (fun d => d.parameters.length) = some 1 by decide +kernel) zs_blind (zs_ob hh95 ha (show RTg[11]? = some (0, 11, 0, fsX12) from rfl) (zCX12 hKn.1)) (fun U hU hW => ⟨rfl, by rw [hU]; exact hh95.l0, zKb s U hW.alike hKn, by rw [hU]; exact jm95⟩) hh95.2.2.1 hl.1 (Nat.le_of_ble_eq_true rfl) (eX12_ruleDate (169, .invokevirtual 313, 3) (List.mem_of_getElem? (i := 109) rfl)) (fun r97 s97 t97 lo97 g97 f97 l97 => ?_)
    obtain ⟨v97, q97, e97, z97, c97, j97⟩ := f97
    cases q97
    rw [g97] at c97
    have hh97 : zh_ok D cA RTg ro sz H0 t97.heap lo97 := ⟨z97.1, z97.2.1, l97, z97.2.2.2⟩
    have kp97 := kp95.trans (c97.mono (ms' := eM) (by decide))
    have kf97 := tkG_01 T 47 x93.2
    generalize hx97 : tkG T 47 x93.2 = x97 at j97 e97 kf97
    have uu97 := j97.2.2
    unfold vOK at uu97
    have mf97_a_12 := (c97.1 a 11 12 11 0 fsX12 ha rfl (by decide) (by decide)).trans mf95_a_12
    have mf97_a_13 := (c97.1 a 11 13 11 0 fsX12 ha rfl (by decide) (by decide)).trans mf95_a_13
    have mf97_a_32 := (c97.1 a 11 32 11 0 fsX12 ha rfl (by decide) (by decide)).trans mf95_a_32
    refine W.eq (g2 := F0 m 172 ls [.int v97]) rfl ?_
    refine ff_if_eq hx hb (eX12_ruleDate (172, .ifCond .eq 18, 3) (List.mem_of_getElem? (i := 110) rfl)) (tgt := 190) rfl (fun c98 => ?_) (fun c98 => ?_)
    · skip
      have d97 : ¬ x97.1 = 1 := by omega
      have hfin : (dateG T sg).2 = x97.2 := by simp only [dateG, dKG, dMG, hx18, hx73, hx77, hx83, hx87, hx93, hx97, if_pos d18, if_neg d97]
      exact W.vret hx hb hr (fun t ht hW => ⟨rfl, by rw [ht]; exact hh97.l0, by rw [ht]; exact kp97, by rw [ht, hfin]; exact j97⟩) hh97.2.2.1 (eX12_ruleDate (190, .return_, 1) (List.mem_of_getElem? (i := 121) rfl))
    · skip
      have d97 : x97.1 = 1 := by omega
      refine lv_aload_n hx hb (eX12_ruleDate (175, .aload_n 0, 1) (List.mem_of_getElem? (i := 111) rfl)) rfl (lv_at hl 0 rfl) ?_
      refine tz_get (r := 11) (k := 32) (t := (74, 0, 0)) hx hb hh97 ha rfl rfl (hcl11 56 32 (74, 0, 0) (by decide) rfl).1 mf97_a_32 (eX12_ruleDate (176, .getfield 56, 3) (List.mem_of_getElem? (i := 112) rfl)) ?_
      refine lv_iload_n hx hb (eX12_ruleDate (179, .iload_n 1, 1) (List.mem_of_getElem? (i := 113) rfl)) rfl (lv_at hl 1 rfl) ?_
      refine ff_iconst hx hb (eX12_ruleDate (180, .iconst 4, 1) (List.mem_of_getElem? (i := 114) rfl)) (by decide) (by decide) (fun v99 e99 => ?_)
      refine ff_iadd hx hb (eX12_ruleDate (181, .iadd, 1) (List.mem_of_getElem? (i := 115) rfl)) (by omega) (by omega) (fun v100 e100 => ?_)
      refine lv_aload_n hx hb (eX12_ruleDate (182, .aload_n 0, 1) (List.mem_of_getElem? (i := 116) rfl)) rfl (lv_at hl 0 rfl) ?_
      refine ff_iconst hx hb (eX12_ruleDate (183, .iconst 0, 1) (List.mem_of_getElem? (i := 117) rfl)) (by decide) (by decide) (fun v101 e101 => ?_)
      refine ff_bipush hx hb (eX12_ruleDate (184, .bipush 24, 2) (List.mem_of_getElem? (i := 118) rfl)) (by decide) (by decide) (fun v102 e102 => ?_)
      refine tz_rowV (As := [.int v101, .int v102]) (st := [.int v100, .ref a1]) (b := a) (C := RX12) (Ts := gT) hx hb hml hown h2 (fun _ h => h) (hX12_ruleTime l D cA ro sz H0 a v101 v102 0 24 T (x97.2) ha (by omega) (by omega) (by decide)) ⟨rfl, rfl⟩ ⟨by decide, by decide⟩ ⟨by decide, by decide⟩ (tb_8 39 rfl rfl) (tb_1 12 rfl rfl) (tb_8 36 rfl rfl) (tb_8 38 rfl rfl) (tb_0 35 rfl rfl) (show yX12_ruleTime.cls ≠ "java/lang/invoke/MethodHandle" ∧ yX12_ruleTime.cls ≠ "java/lang/invoke/VarHandle" ∧ (parseMethodDescriptor yX12_ruleTime.desc).map (fun d => d.parameters.length) = some 2 by decide +kernel) zs_blind (zs_ob hh97 ha (show RTg[11]? = some (0, 11, 0, fsX12) from rfl) (zCX12 hKn.1)) (fun U hU hW => ⟨rfl, by rw [hU]; exact hh97.l0, zKb s U hW.alike hKn, by rw [hU]; exact j97⟩) hh97.2.2.1 hl.1 (Nat.le_of_ble_eq_true rfl) (eX12_ruleDate (186, .invokevirtual 342, 3) (List.mem_of_getElem? (i := 119) rfl)) (fun r103 s103 t103 lo103 g103 f103 l103 => ?_)
      obtain ⟨v103, hv103, q103, e103, fh103, eh103, z103, c103, j103⟩ := f103
      cases q103
      rw [g103] at c103
      have hh103 : zh_ok D cA RTg ro sz H0 t103.heap lo103 := ⟨z103.1, z103.2.1, l103, z103.2.2.2⟩
      have kp103 := kp97.trans (c103.mono (ms' := eM) (by decide))
      have kf103 := tmG_up T 0 24 x97.2
      generalize hx103 : tmG T 0 24 x97.2 = x103 at j103 e103 eh103 kf103
      have uu103 := j103.2.2
      unfold vOK at uu103
      have mf103_a_12 := (c103.1 a 11 12 11 0 fsX12 ha rfl (by decide) (by decide)).trans mf97_a_12
      have mf103_a_13 := (c103.1 a 11 13 11 0 fsX12 ha rfl (by decide) (by decide)).trans mf97_a_13
      have mf103_a_32 := (c103.1 a 11 32 11 0 fsX12 ha rfl (by decide) (by decide)).trans mf97_a_32
      refine W.eq (g2 := F0 m 189 ls [.int v103, .int v100, .ref a1]) rfl ?_
      obtain ⟨-, z104, hc104, hy104⟩ := zh_arr hh103 ra1 (show RTg[35]? = some (1, 0, 10, [(0, (-1000000), 1000000)]) from rfl)
      refine tz_iast hx hb (zAr hKn.1 0 (by decide)) hh103 ra1 (show RTg[35]? = some (1, 0, 10, [(0, (-1000000), 1000000)]) from rfl) hc104 hy104 (by omega) (by omega) (tz_i (by omega) (by omega)) (eX12_ruleDate (189, .iastore, 1) (List.mem_of_getElem? (i := 120) rfl)) (fun H105 lo105 hh105 hc105 hk105 hq105 _ => ?_)
      have mf105_a_12 := (hk105.1 a 11 12 11 0 fsX12 ha rfl (by decide) (by decide)).trans mf103_a_12
      have mf105_a_13 := (hk105.1 a 11 13 11 0 fsX12 ha rfl (by decide) (by decide)).trans mf103_a_13
      have mf105_a_32 := (hk105.1 a 11 32 11 0 fsX12 ha rfl (by decide) (by decide)).trans mf103_a_32
      have mf105_a_33 := (hk105.1 a 11 33 11 0 fsX12 ha rfl (by decide) (by decide)).trans fh103
      have kp105 := kp103.trans (hk105.mono (ms' := eM) (fun x hx => by cases List.mem_singleton.mp hx; decide))
      have jm105 := (j103).kept ha hk105 (by decide)
      have hfin : (dateG T sg).2 = x103.2 := by simp only [dateG, dKG, dMG, hx18, hx73, hx77, hx83, hx87, hx93, hx97, hx103, if_pos d18, if_pos d97]
      exact W.vret hx hb hr (fun t ht hW => ⟨rfl, by rw [ht]; exact hh105.l0, by rw [ht]; exact kp105, by rw [ht, hfin]; exact jm105⟩) hh105.2.2.1 (eX12_ruleDate (190, .return_, 1) (List.mem_of_getElem? (i := 121) rfl))
