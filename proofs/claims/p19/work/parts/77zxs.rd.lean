theorem cl_up {fo v : Int} (h : v = fo) (k : Nat) : clG fo k = upF (upF (fun _ => 0) 0 v) 1 (-1) k := by
  subst h
  rfl
theorem flG_nn {T : List Int} {r : uS} (h : vOK T r) : 0 ≤ (flG r).2.1 := by
  unfold vOK at h
  unfold flG
  dsimp only
  split <;> omega
theorem nuG_bd {T : List Int} {k n : Nat} {x : gsS} {M : Int} (h : (10 : Int) ^ n - 1 = M) : 0 ≤ (nuG T k n x).1 k ∧ (nuG T k n x).1 k ≤ M := by
  unfold nuG
  dsimp only
  rw [up_eq]
  exact dgG_w h
theorem paG_nn {T : List Int} (m : Nat) : ∀ {v n : Int} {r : uS}, 0 ≤ n → 0 ≤ (paL T m v n r).1.2 := by
  induction m with
  | zero => intro v n r h; exact h
  | succ m ih =>
    intro v n r h
    show 0 ≤ (if _ then _ else _ : (Int × Int) × uS).1.2
    split
    · exact ih (by omega)
    · exact h
set_option maxRecDepth 100000 in
set_option maxHeartbeats 4000000 in
theorem hX12_part (l : Launch) (D : va_G) (cA : Nat → ClassId) (ro : Nat → Option Nat) (sz : Nat) (H0 : Heap) (a : Nat)  (T : List Int) (sg : uS) (ha : ro a = some 11) (hT : (T.length : Int) ≤ 120) : Met l yX12_part (gW yX12_part cX12_part 4 (some .long)) { frames := 1, cells := 0, slots := 0, locals := 20 } (zs_P D cA ro sz H0 (fun H => jV D cA ro H a T sg) [.ref a]) (fun _ st oc t => ∃ r : Int64, oc = .returned (some (.long r)) ∧ r.toInt = (paG T sg).1 ∧ zh_ok D cA RTg ro sz H0 t.heap [] ∧ zc_kept D RTg ro vM st.heap t.heap ∧ jV D cA ro t.heap a T (paG T sg).2) 0 0 (zy_fr sz) := by
  refine zy_ofW (cc := cX12_part) (maxL := 4) (ret := (some .long)) (by decide +kernel) rfl ?_
  intro p e s m args below meth c s1 B hml hv
  obtain ⟨rfl, hh, hKn, hJ⟩ := hv
  have hx := B.exec
  have hb := B.bytes
  have hr := B.returns
  have hlk := B.notSynchronized
  have hts0 := atoms_spec (ws := gW yX12_part cX12_part 4 (some .long)) B.pre
  have h2 : ∀ w ∈ gT, w.before ([.ref a] : List Value).toArray s = true := fun w hw => hts0 w (List.mem_cons_of_mem _ hw)
  have hown : s.vm.findClass RX12 = some m.cls := findClass_of_methodNamed B.named
  have hl := lv_entry [.ref a] (n := 4) (Nat.le_of_ble_eq_true rfl)
  rw [lg_entry_eq]
  generalize (lg_sl [.ref a] ++ List.replicate (4 - (lg_sl [.ref a]).length) Slot.unset).toArray = ls at hl ⊢
  have hD := zD_all h2 hKn.1
  have hcl11 := fun (idx k : Nat) (t : zt_T) (h : (idx, 11, k) ∈ gfX12) (hk : fsX12[k]? = some t) => zf_clause (ro := ro) (ms := vM) h2 hown hKn.1 gfX12_ok (by decide +kernel) idx 11 k 11 0 fsX12 t h rfl hk
  have kp0 : zc_kept D RTg ro vM s.heap s.heap := zc_kept.refl
  have hu := hJ.2.2
  unfold vOK at hu
  have hbb := byI_bd T sg.1
  refine ff_lconst hx hb (eX12_part (0, .lconst 0, 1) (List.mem_of_getElem? (i := 0) rfl)) rfl (fun v1 e1 => ?_)
  refine lv_lstore_n hx hb (eX12_part (1, .lstore_n 1, 1) (List.mem_of_getElem? (i := 1) rfl)) rfl hl (by decide) rfl (fun ls2 hl2 => ?_)
  refine ff_iconst hx hb (eX12_part (2, .iconst 0, 1) (List.mem_of_getElem? (i := 2) rfl)) (by decide) (by decide) (fun v3 e3 => ?_)
  refine lv_istore_n hx hb (eX12_part (3, .istore_n 3, 1) (List.mem_of_getElem? (i := 3) rfl)) rfl hl2 (by decide) rfl (fun ls4 hl4 => ?_)
  have loop : ∀ (n0 i : Nat) (vv : Int64) (kv : Int32) (gj : uS) (ls : Array Slot) (H : Heap) (lo0 : List Loc), i + n0 = 120 → kv.toInt = (i : Int) → (i : Int) ≤ gj.1 → (0 ≤ vv.toInt ∧ vv.toInt ≤ nB (min i 9)) → paL T n0 vv.toInt (i : Int) gj = paL T 120 0 0 sg → zh_ok D cA RTg ro sz H0 H lo0 → zc_kept D RTg ro vM s.heap H → jV D cA ro H a T gj → lv_has ls 4 [(1, .long vv), (3, .int kv), (0, .ref a)] → W p l e (headSpec (gW yX12_part cX12_part 4 (some .long)) { frames := 1, cells := 0, slots := 0, locals := 20 }).room s m ([.ref a] : List Value).toArray below meth c H lo0 0 0 (MQ below (fun _ st oc t => ∃ r : Int64, oc = .returned (some (.long r)) ∧ r.toInt = (paG T sg).1 ∧ zh_ok D cA RTg ro sz H0 t.heap [] ∧ zc_kept D RTg ro vM st.heap t.heap ∧ jV D cA ro t.heap a T (paG T sg).2) ([.ref a] : List Value).toArray s 0 0 (zy_fr sz)) (F0 m 4 ls []) := by
    intro n0
    induction n0 with
    | zero =>
      intro i vv kv gj ls H lo0 hi hkv hig hvv htot hh0 kpl jl hl
      have hul := jl.2.2
      unfold vOK at hul
      have hbj := byI_bd T gj.1
      have hB9 := nB_9 (min i 9) (by omega)
      have hend : byI T gj.1 = -1 := byI_end (by omega)
      refine lv_aload_n hx hb (eX12_part (4, .aload_n 0, 1) (List.mem_of_getElem? (i := 4) rfl)) rfl (lv_at hl 2 rfl) ?_
      refine tz_rowV (As := []) (st := []) (b := a) (C := RX12) (Ts := gT) hx hb hml hown h2 (fun _ h => h) (hX12_isGood l D cA ro sz H0 a T (gj) ha) ⟨rfl, rfl⟩ ⟨by decide, by decide⟩ ⟨by decide, by decide⟩ (tb_8 17 rfl rfl) (tb_1 12 rfl rfl) (tb_8 14 rfl rfl) (tb_8 16 rfl rfl) (tb_0 31 rfl rfl) (show yX12_isGood.cls ≠ "java/lang/invoke/MethodHandle" ∧ yX12_isGood.cls ≠ "java/lang/invoke/VarHandle" ∧ (parseMethodDescriptor yX12_isGood.desc).map (fun d => d.parameters.length) = some 0 by decide +kernel) zs_blind (zs_ob hh0 ha (show RTg[11]? = some (0, 11, 0, fsX12) from rfl) (zCX12 hKn.1)) (fun U hU hW => ⟨rfl, by rw [hU]; exact hh0.l0, zKb s U hW.alike hKn, by rw [hU]; exact jl⟩) hh0.2.2.1 hl.1 (Nat.le_of_ble_eq_true rfl) (eX12_part (5, .invokevirtual 305, 3) (List.mem_of_getElem? (i := 5) rfl)) (fun r5 s5 t5 lo5 g5 f5 l5 => ?_)
      obtain ⟨z5, v5, q5, e5⟩ := f5
      cases q5
      rw [z5, g5]
      have hh5 : zh_ok D cA RTg ro sz H0 H lo5 := ⟨hh0.1, hh0.2.1, l5, hh0.2.2.2⟩
      refine W.eq (g2 := F0 m 8 ls [.int v5]) rfl ?_
      refine ff_if_eq hx hb (eX12_part (8, .ifCond .eq 55, 3) (List.mem_of_getElem? (i := 6) rfl)) (tgt := 63) rfl (fun c6 => ?_) (fun c6 => ?_)
      · have hpt : paL T 120 0 0 sg = ((vv.toInt, (i : Int)), gj) := by rw [← htot] <;> rfl
        refine lv_iload_n hx hb (eX12_part (63, .iload_n 3, 1) (List.mem_of_getElem? (i := 34) rfl)) rfl (lv_at hl 1 rfl) ?_
        refine ff_if_ne hx hb (eX12_part (64, .ifCond .ne 7, 3) (List.mem_of_getElem? (i := 35) rfl)) (tgt := 71) rfl (fun c7 => ?_) (fun c7 => ?_)
        · have hfn : paG T sg = (tenF (9 - i) vv.toInt, gj) := by unfold paG; rw [hpt]; dsimp only; rw [if_neg (by omega), show ((i : Int)).toNat = i by omega]
          have lp2 : ∀ (m0 j : Nat) (xv : Int64) (jv : Int32) (ls : Array Slot), (j + m0 = 9 ∨ (m0 = 0 ∧ 9 ≤ j)) → jv.toInt = (j : Int) → (j ≤ 200) → (0 ≤ xv.toInt ∧ xv.toInt ≤ nB (min j 9)) → tenF m0 xv.toInt = tenF (9 - i) vv.toInt → lv_has ls 4 [(1, .long xv), (3, .int jv), (0, .ref a)] → W p l e (headSpec (gW yX12_part cX12_part 4 (some .long)) { frames := 1, cells := 0, slots := 0, locals := 20 }).room s m ([.ref a] : List Value).toArray below meth c H lo5 0 0 (MQ below (fun _ st oc t => ∃ r : Int64, oc = .returned (some (.long r)) ∧ r.toInt = (paG T sg).1 ∧ zh_ok D cA RTg ro sz H0 t.heap [] ∧ zc_kept D RTg ro vM st.heap t.heap ∧ jV D cA ro t.heap a T (paG T sg).2) ([.ref a] : List Value).toArray s 0 0 (zy_fr sz)) (F0 m 71 ls []) := by
            intro m0
            induction m0 with
            | zero =>
              intro j xv jv ls hj2 hjv hj9 hxv htn hl
              refine lv_iload_n hx hb (eX12_part (71, .iload_n 3, 1) (List.mem_of_getElem? (i := 38) rfl)) rfl (lv_at hl 1 rfl) ?_
              refine ff_bipush hx hb (eX12_part (72, .bipush 9, 2) (List.mem_of_getElem? (i := 39) rfl)) (by decide) (by decide) (fun v8 e8 => ?_)
              refine ff_icmp_ge hx hb (eX12_part (74, .if_icmp .ge 15, 3) (List.mem_of_getElem? (i := 40) rfl)) (tgt := 89) rfl (fun c9 => ?_) (fun c9 => (by exfalso; omega))
              refine lv_lload_n hx hb (eX12_part (89, .lload_n 1, 1) (List.mem_of_getElem? (i := 47) rfl)) rfl (lv_at hl 0 rfl) ?_
              have hfin : paG T sg = (xv.toInt, gj) := by rw [hfn, ← htn] <;> rfl
              exact W.lret hx hb hr (fun t ht hW => ⟨_, rfl, by rw [hfin], by rw [ht]; exact hh5.l0, by rw [ht]; exact kpl, by rw [ht, hfin]; exact jl⟩) hh5.2.2.1 (eX12_part (90, .lreturn, 1) (List.mem_of_getElem? (i := 48) rfl))
            | succ m0 ih2 =>
              intro j xv jv ls hj2 hjv hj9 hxv htn hl
              have hB7 := nB_8 (min j 9) (by omega)
              refine lv_iload_n hx hb (eX12_part (71, .iload_n 3, 1) (List.mem_of_getElem? (i := 38) rfl)) rfl (lv_at hl 1 rfl) ?_
              refine ff_bipush hx hb (eX12_part (72, .bipush 9, 2) (List.mem_of_getElem? (i := 39) rfl)) (by decide) (by decide) (fun v10 e10 => ?_)
              refine ff_icmp_ge hx hb (eX12_part (74, .if_icmp .ge 15, 3) (List.mem_of_getElem? (i := 40) rfl)) (tgt := 89) rfl (fun c11 => (by exfalso; omega)) (fun c11 => ?_)
              refine lv_lload_n hx hb (eX12_part (77, .lload_n 1, 1) (List.mem_of_getElem? (i := 41) rfl)) rfl (lv_at hl 0 rfl) ?_
              refine ff_ldc2 (n := 10) hx hb hown h2 (clX12_ok 373 10 (List.mem_of_getElem? (i := 32) rfl)) (eX12_part (78, .ldc2_w 373, 3) (List.mem_of_getElem? (i := 42) rfl)) (fun v12 e12 => ?_)
              refine ff_lmulR hx hb (eX12_part (81, .lmul, 1) (List.mem_of_getElem? (i := 43) rfl)) (e12) (by omega) (by omega) (fun v13 e13 => ?_)
              refine lv_lstore_n hx hb (eX12_part (82, .lstore_n 1, 1) (List.mem_of_getElem? (i := 44) rfl)) rfl hl (by decide) rfl (fun ls14 hl14 => ?_)
              refine ff_iinc (k := 1) hx hb (eX12_part (83, .iinc 3 1, 3) (List.mem_of_getElem? (i := 45) rfl)) hl14 rfl (by decide) (by decide) (by decide) (by omega) (by omega) (fun v15 e15 ls15 hl15 => ?_)
              refine lv_goto hx hb (eX12_part (86, .goto (-15), 3) (List.mem_of_getElem? (i := 46) rfl)) (tgt := 71) rfl ?_
              exact ih2 (j + 1) v13 v15 ls15 (by omega) (by omega) (by omega) ⟨by omega, by rw [show min (j + 1) 9 = min j 9 + 1 by omega]; show _ ≤ nB (min j 9) * 10 + 9; omega⟩ (by rw [← htn, show v13.toInt = xv.toInt * 10 by omega] <;> rfl) (lv_sub hl15 [1, 0, 2] rfl)
          exact lp2 (9 - i) i vv kv ls (by omega) (by omega) (by omega) hvv rfl (lv_sub hl [0, 1, 2] rfl)
        · have hfn : paG T sg = (tenF (9 - i) vv.toInt, flG gj) := by unfold paG; rw [hpt]; dsimp only; rw [if_pos (by omega), show ((i : Int)).toNat = i by omega]
          refine lv_aload_n hx hb (eX12_part (67, .aload_n 0, 1) (List.mem_of_getElem? (i := 36) rfl)) rfl (lv_at hl 2 rfl) ?_
          refine tz_rowV (As := []) (st := []) (b := a) (C := RX12) (Ts := gT) hx hb hml hown h2 (fun _ h => h) (hX12_fail l D cA ro sz H0 a T (gj) ha) ⟨rfl, rfl⟩ ⟨by decide, by decide⟩ ⟨by decide, by decide⟩ (tb_8 31 rfl rfl) (tb_1 12 rfl rfl) (tb_8 28 rfl rfl) (tb_8 30 rfl rfl) (tb_0 33 rfl rfl) (show yX12_fail.cls ≠ "java/lang/invoke/MethodHandle" ∧ yX12_fail.cls ≠ "java/lang/invoke/VarHandle" ∧ (parseMethodDescriptor yX12_fail.desc).map (fun d => d.parameters.length) = some 0 by decide +kernel) zs_blind (zs_ob hh5 ha (show RTg[11]? = some (0, 11, 0, fsX12) from rfl) (zCX12 hKn.1)) (fun U hU hW => ⟨rfl, by rw [hU]; exact hh5.l0, zKb s U hW.alike hKn, by rw [hU]; exact jl⟩) hh5.2.2.1 hl.1 (Nat.le_of_ble_eq_true rfl) (eX12_part (68, .invokevirtual 316, 3) (List.mem_of_getElem? (i := 37) rfl)) (fun r16 s16 t16 lo16 g16 f16 l16 => ?_)
          obtain ⟨q16, z16, c16, jv16⟩ := f16
          cases q16
          rw [g16] at c16
          have hh16 : zh_ok D cA RTg ro sz H0 t16.heap lo16 := ⟨z16.1, z16.2.1, l16, z16.2.2.2⟩
          have kp16 := kpl.trans (c16.mono (ms' := vM) (by decide))
          generalize hx16 : flG gj = x16 at jv16
          have uu16 := jv16.2.2
          unfold vOK at uu16
          have bb16 := byI_bd T x16.1
          refine W.eq (g2 := F0 m 71 ls []) rfl ?_
          have lp2 : ∀ (m0 j : Nat) (xv : Int64) (jv : Int32) (ls : Array Slot), (j + m0 = 9 ∨ (m0 = 0 ∧ 9 ≤ j)) → jv.toInt = (j : Int) → (j ≤ 200) → (0 ≤ xv.toInt ∧ xv.toInt ≤ nB (min j 9)) → tenF m0 xv.toInt = tenF (9 - i) vv.toInt → lv_has ls 4 [(1, .long xv), (3, .int jv), (0, .ref a)] → W p l e (headSpec (gW yX12_part cX12_part 4 (some .long)) { frames := 1, cells := 0, slots := 0, locals := 20 }).room s m ([.ref a] : List Value).toArray below meth c t16.heap lo16 0 0 (MQ below (fun _ st oc t => ∃ r : Int64, oc = .returned (some (.long r)) ∧ r.toInt = (paG T sg).1 ∧ zh_ok D cA RTg ro sz H0 t.heap [] ∧ zc_kept D RTg ro vM st.heap t.heap ∧ jV D cA ro t.heap a T (paG T sg).2) ([.ref a] : List Value).toArray s 0 0 (zy_fr sz)) (F0 m 71 ls []) := by
            intro m0
            induction m0 with
            | zero =>
              intro j xv jv ls hj2 hjv hj9 hxv htn hl
              refine lv_iload_n hx hb (eX12_part (71, .iload_n 3, 1) (List.mem_of_getElem? (i := 38) rfl)) rfl (lv_at hl 1 rfl) ?_
              refine ff_bipush hx hb (eX12_part (72, .bipush 9, 2) (List.mem_of_getElem? (i := 39) rfl)) (by decide) (by decide) (fun v17 e17 => ?_)
              refine ff_icmp_ge hx hb (eX12_part (74, .if_icmp .ge 15, 3) (List.mem_of_getElem? (i := 40) rfl)) (tgt := 89) rfl (fun c18 => ?_) (fun c18 => (by exfalso; omega))
              refine lv_lload_n hx hb (eX12_part (89, .lload_n 1, 1) (List.mem_of_getElem? (i := 47) rfl)) rfl (lv_at hl 0 rfl) ?_
              have hfin : paG T sg = (xv.toInt, x16) := by rw [hfn, ← htn, hx16] <;> rfl
              exact W.lret hx hb hr (fun t ht hW => ⟨_, rfl, by rw [hfin], by rw [ht]; exact hh16.l0, by rw [ht]; exact kp16, by rw [ht, hfin]; exact jv16⟩) hh16.2.2.1 (eX12_part (90, .lreturn, 1) (List.mem_of_getElem? (i := 48) rfl))
            | succ m0 ih2 =>
              intro j xv jv ls hj2 hjv hj9 hxv htn hl
              have hB7 := nB_8 (min j 9) (by omega)
              refine lv_iload_n hx hb (eX12_part (71, .iload_n 3, 1) (List.mem_of_getElem? (i := 38) rfl)) rfl (lv_at hl 1 rfl) ?_
              refine ff_bipush hx hb (eX12_part (72, .bipush 9, 2) (List.mem_of_getElem? (i := 39) rfl)) (by decide) (by decide) (fun v19 e19 => ?_)
              refine ff_icmp_ge hx hb (eX12_part (74, .if_icmp .ge 15, 3) (List.mem_of_getElem? (i := 40) rfl)) (tgt := 89) rfl (fun c20 => (by exfalso; omega)) (fun c20 => ?_)
              refine lv_lload_n hx hb (eX12_part (77, .lload_n 1, 1) (List.mem_of_getElem? (i := 41) rfl)) rfl (lv_at hl 0 rfl) ?_
              refine ff_ldc2 (n := 10) hx hb hown h2 (clX12_ok 373 10 (List.mem_of_getElem? (i := 32) rfl)) (eX12_part (78, .ldc2_w 373, 3) (List.mem_of_getElem? (i := 42) rfl)) (fun v21 e21 => ?_)
              refine ff_lmulR hx hb (eX12_part (81, .lmul, 1) (List.mem_of_getElem? (i := 43) rfl)) (e21) (by omega) (by omega) (fun v22 e22 => ?_)
              refine lv_lstore_n hx hb (eX12_part (82, .lstore_n 1, 1) (List.mem_of_getElem? (i := 44) rfl)) rfl hl (by decide) rfl (fun ls23 hl23 => ?_)
              refine ff_iinc (k := 1) hx hb (eX12_part (83, .iinc 3 1, 3) (List.mem_of_getElem? (i := 45) rfl)) hl23 rfl (by decide) (by decide) (by decide) (by omega) (by omega) (fun v24 e24 ls24 hl24 => ?_)
              refine lv_goto hx hb (eX12_part (86, .goto (-15), 3) (List.mem_of_getElem? (i := 46) rfl)) (tgt := 71) rfl ?_
              exact ih2 (j + 1) v22 v24 ls24 (by omega) (by omega) (by omega) ⟨by omega, by rw [show min (j + 1) 9 = min j 9 + 1 by omega]; show _ ≤ nB (min j 9) * 10 + 9; omega⟩ (by rw [← htn, show v22.toInt = xv.toInt * 10 by omega] <;> rfl) (lv_sub hl24 [1, 0, 2] rfl)
          exact lp2 (9 - i) i vv kv ls (by omega) (by omega) (by omega) hvv rfl (lv_sub hl [0, 1, 2] rfl)
      · skip
        refine lv_aload_n hx hb (eX12_part (11, .aload_n 0, 1) (List.mem_of_getElem? (i := 7) rfl)) rfl (lv_at hl 2 rfl) ?_
        refine tz_rowV (As := []) (st := []) (b := a) (C := RX12) (Ts := gT) hx hb hml hown h2 (fun _ h => h) (hX12_sign l D cA ro sz H0 a T (gj) ha) ⟨rfl, rfl⟩ ⟨by decide, by decide⟩ ⟨by decide, by decide⟩ (tb_8 21 rfl rfl) (tb_1 12 rfl rfl) (tb_8 18 rfl rfl) (tb_8 20 rfl rfl) (tb_0 32 rfl rfl) (show yX12_sign.cls ≠ "java/lang/invoke/MethodHandle" ∧ yX12_sign.cls ≠ "java/lang/invoke/VarHandle" ∧ (parseMethodDescriptor yX12_sign.desc).map (fun d => d.parameters.length) = some 0 by decide +kernel) zs_blind (zs_ob hh5 ha (show RTg[11]? = some (0, 11, 0, fsX12) from rfl) (zCX12 hKn.1)) (fun U hU hW => ⟨rfl, by rw [hU]; exact hh5.l0, zKb s U hW.alike hKn, by rw [hU]; exact jl⟩) hh5.2.2.1 hl.1 (Nat.le_of_ble_eq_true rfl) (eX12_part (12, .invokevirtual 309, 3) (List.mem_of_getElem? (i := 8) rfl)) (fun r25 s25 t25 lo25 g25 f25 l25 => ?_)
        obtain ⟨z25, v25, q25, e25⟩ := f25
        cases q25
        rw [z25, g25]
        have hh25 : zh_ok D cA RTg ro sz H0 H lo25 := ⟨hh5.1, hh5.2.1, l25, hh5.2.2.2⟩
        refine W.eq (g2 := F0 m 15 ls [.int v25]) rfl ?_
        refine zu_S (vs := [.int v25]) (rest := []) hx hb hml hown hts0 zu_BT (hX12_isDigit l v25) ⟨rfl, rfl⟩ ⟨by decide, by decide⟩ ⟨by decide, by decide⟩ (tb_8 27 rfl rfl) (tb_1 12 rfl rfl) (tb_8 25 rfl rfl) (tb_8 26 rfl rfl) (show yX12_isDigit.cls ≠ "java/lang/invoke/MethodHandle" ∧ yX12_isDigit.cls ≠ "java/lang/invoke/VarHandle" ∧ (parseMethodDescriptor yX12_isDigit.desc).map (fun d => d.parameters.length) = some 1 by decide +kernel) rfl (fun _ _ _ => trivial) hl.1 (Nat.le_of_ble_eq_true rfl) (eX12_part (15, .invokestatic 319, 3) (List.mem_of_getElem? (i := 9) rfl)) (fun w26 f26 => ?_)
        obtain ⟨v26, rfl, e26⟩ := f26
        refine ff_if_eq hx hb (eX12_part (18, .ifCond .eq 45, 3) (List.mem_of_getElem? (i := 10) rfl)) (tgt := 63) rfl (fun c27 => ?_) (fun c27 => (by exfalso; omega))
        · have hpt : paL T 120 0 0 sg = ((vv.toInt, (i : Int)), gj) := by rw [← htot] <;> rfl
          refine lv_iload_n hx hb (eX12_part (63, .iload_n 3, 1) (List.mem_of_getElem? (i := 34) rfl)) rfl (lv_at hl 1 rfl) ?_
          refine ff_if_ne hx hb (eX12_part (64, .ifCond .ne 7, 3) (List.mem_of_getElem? (i := 35) rfl)) (tgt := 71) rfl (fun c28 => ?_) (fun c28 => ?_)
          · have hfn : paG T sg = (tenF (9 - i) vv.toInt, gj) := by unfold paG; rw [hpt]; dsimp only; rw [if_neg (by omega), show ((i : Int)).toNat = i by omega]
            have lp2 : ∀ (m0 j : Nat) (xv : Int64) (jv : Int32) (ls : Array Slot), (j + m0 = 9 ∨ (m0 = 0 ∧ 9 ≤ j)) → jv.toInt = (j : Int) → (j ≤ 200) → (0 ≤ xv.toInt ∧ xv.toInt ≤ nB (min j 9)) → tenF m0 xv.toInt = tenF (9 - i) vv.toInt → lv_has ls 4 [(1, .long xv), (3, .int jv), (0, .ref a)] → W p l e (headSpec (gW yX12_part cX12_part 4 (some .long)) { frames := 1, cells := 0, slots := 0, locals := 20 }).room s m ([.ref a] : List Value).toArray below meth c H lo25 0 0 (MQ below (fun _ st oc t => ∃ r : Int64, oc = .returned (some (.long r)) ∧ r.toInt = (paG T sg).1 ∧ zh_ok D cA RTg ro sz H0 t.heap [] ∧ zc_kept D RTg ro vM st.heap t.heap ∧ jV D cA ro t.heap a T (paG T sg).2) ([.ref a] : List Value).toArray s 0 0 (zy_fr sz)) (F0 m 71 ls []) := by
              intro m0
              induction m0 with
              | zero =>
                intro j xv jv ls hj2 hjv hj9 hxv htn hl
                refine lv_iload_n hx hb (eX12_part (71, .iload_n 3, 1) (List.mem_of_getElem? (i := 38) rfl)) rfl (lv_at hl 1 rfl) ?_
                refine ff_bipush hx hb (eX12_part (72, .bipush 9, 2) (List.mem_of_getElem? (i := 39) rfl)) (by decide) (by decide) (fun v29 e29 => ?_)
                refine ff_icmp_ge hx hb (eX12_part (74, .if_icmp .ge 15, 3) (List.mem_of_getElem? (i := 40) rfl)) (tgt := 89) rfl (fun c30 => ?_) (fun c30 => (by exfalso; omega))
                refine lv_lload_n hx hb (eX12_part (89, .lload_n 1, 1) (List.mem_of_getElem? (i := 47) rfl)) rfl (lv_at hl 0 rfl) ?_
                have hfin : paG T sg = (xv.toInt, gj) := by rw [hfn, ← htn] <;> rfl
                exact W.lret hx hb hr (fun t ht hW => ⟨_, rfl, by rw [hfin], by rw [ht]; exact hh25.l0, by rw [ht]; exact kpl, by rw [ht, hfin]; exact jl⟩) hh25.2.2.1 (eX12_part (90, .lreturn, 1) (List.mem_of_getElem? (i := 48) rfl))
              | succ m0 ih2 =>
                intro j xv jv ls hj2 hjv hj9 hxv htn hl
                have hB7 := nB_8 (min j 9) (by omega)
                refine lv_iload_n hx hb (eX12_part (71, .iload_n 3, 1) (List.mem_of_getElem? (i := 38) rfl)) rfl (lv_at hl 1 rfl) ?_
                refine ff_bipush hx hb (eX12_part (72, .bipush 9, 2) (List.mem_of_getElem? (i := 39) rfl)) (by decide) (by decide) (fun v31 e31 => ?_)
                refine ff_icmp_ge hx hb (eX12_part (74, .if_icmp .ge 15, 3) (List.mem_of_getElem? (i := 40) rfl)) (tgt := 89) rfl (fun c32 => (by exfalso; omega)) (fun c32 => ?_)
                refine lv_lload_n hx hb (eX12_part (77, .lload_n 1, 1) (List.mem_of_getElem? (i := 41) rfl)) rfl (lv_at hl 0 rfl) ?_
                refine ff_ldc2 (n := 10) hx hb hown h2 (clX12_ok 373 10 (List.mem_of_getElem? (i := 32) rfl)) (eX12_part (78, .ldc2_w 373, 3) (List.mem_of_getElem? (i := 42) rfl)) (fun v33 e33 => ?_)
                refine ff_lmulR hx hb (eX12_part (81, .lmul, 1) (List.mem_of_getElem? (i := 43) rfl)) (e33) (by omega) (by omega) (fun v34 e34 => ?_)
                refine lv_lstore_n hx hb (eX12_part (82, .lstore_n 1, 1) (List.mem_of_getElem? (i := 44) rfl)) rfl hl (by decide) rfl (fun ls35 hl35 => ?_)
                refine ff_iinc (k := 1) hx hb (eX12_part (83, .iinc 3 1, 3) (List.mem_of_getElem? (i := 45) rfl)) hl35 rfl (by decide) (by decide) (by decide) (by omega) (by omega) (fun v36 e36 ls36 hl36 => ?_)
                refine lv_goto hx hb (eX12_part (86, .goto (-15), 3) (List.mem_of_getElem? (i := 46) rfl)) (tgt := 71) rfl ?_
                exact ih2 (j + 1) v34 v36 ls36 (by omega) (by omega) (by omega) ⟨by omega, by rw [show min (j + 1) 9 = min j 9 + 1 by omega]; show _ ≤ nB (min j 9) * 10 + 9; omega⟩ (by rw [← htn, show v34.toInt = xv.toInt * 10 by omega] <;> rfl) (lv_sub hl36 [1, 0, 2] rfl)
            exact lp2 (9 - i) i vv kv ls (by omega) (by omega) (by omega) hvv rfl (lv_sub hl [0, 1, 2] rfl)
          · have hfn : paG T sg = (tenF (9 - i) vv.toInt, flG gj) := by unfold paG; rw [hpt]; dsimp only; rw [if_pos (by omega), show ((i : Int)).toNat = i by omega]
            refine lv_aload_n hx hb (eX12_part (67, .aload_n 0, 1) (List.mem_of_getElem? (i := 36) rfl)) rfl (lv_at hl 2 rfl) ?_
            refine tz_rowV (As := []) (st := []) (b := a) (C := RX12) (Ts := gT) hx hb hml hown h2 (fun _ h => h) (hX12_fail l D cA ro sz H0 a T (gj) ha) ⟨rfl, rfl⟩ ⟨by decide, by decide⟩ ⟨by decide, by decide⟩ (tb_8 31 rfl rfl) (tb_1 12 rfl rfl) (tb_8 28 rfl rfl) (tb_8 30 rfl rfl) (tb_0 33 rfl rfl) (show yX12_fail.cls ≠ "java/lang/invoke/MethodHandle" ∧ yX12_fail.cls ≠ "java/lang/invoke/VarHandle" ∧ (parseMethodDescriptor yX12_fail.desc).map (fun d => d.parameters.length) = some 0 by decide +kernel) zs_blind (zs_ob hh25 ha (show RTg[11]? = some (0, 11, 0, fsX12) from rfl) (zCX12 hKn.1)) (fun U hU hW => ⟨rfl, by rw [hU]; exact hh25.l0, zKb s U hW.alike hKn, by rw [hU]; exact jl⟩) hh25.2.2.1 hl.1 (Nat.le_of_ble_eq_true rfl) (eX12_part (68, .invokevirtual 316, 3) (List.mem_of_getElem? (i := 37) rfl)) (fun r37 s37 t37 lo37 g37 f37 l37 => ?_)
            obtain ⟨q37, z37, c37, jv37⟩ := f37
            cases q37
            rw [g37] at c37
            have hh37 : zh_ok D cA RTg ro sz H0 t37.heap lo37 := ⟨z37.1, z37.2.1, l37, z37.2.2.2⟩
            have kp37 := kpl.trans (c37.mono (ms' := vM) (by decide))
            generalize hx37 : flG gj = x37 at jv37
            have uu37 := jv37.2.2
            unfold vOK at uu37
            have bb37 := byI_bd T x37.1
            refine W.eq (g2 := F0 m 71 ls []) rfl ?_
            have lp2 : ∀ (m0 j : Nat) (xv : Int64) (jv : Int32) (ls : Array Slot), (j + m0 = 9 ∨ (m0 = 0 ∧ 9 ≤ j)) → jv.toInt = (j : Int) → (j ≤ 200) → (0 ≤ xv.toInt ∧ xv.toInt ≤ nB (min j 9)) → tenF m0 xv.toInt = tenF (9 - i) vv.toInt → lv_has ls 4 [(1, .long xv), (3, .int jv), (0, .ref a)] → W p l e (headSpec (gW yX12_part cX12_part 4 (some .long)) { frames := 1, cells := 0, slots := 0, locals := 20 }).room s m ([.ref a] : List Value).toArray below meth c t37.heap lo37 0 0 (MQ below (fun _ st oc t => ∃ r : Int64, oc = .returned (some (.long r)) ∧ r.toInt = (paG T sg).1 ∧ zh_ok D cA RTg ro sz H0 t.heap [] ∧ zc_kept D RTg ro vM st.heap t.heap ∧ jV D cA ro t.heap a T (paG T sg).2) ([.ref a] : List Value).toArray s 0 0 (zy_fr sz)) (F0 m 71 ls []) := by
              intro m0
              induction m0 with
              | zero =>
                intro j xv jv ls hj2 hjv hj9 hxv htn hl
                refine lv_iload_n hx hb (eX12_part (71, .iload_n 3, 1) (List.mem_of_getElem? (i := 38) rfl)) rfl (lv_at hl 1 rfl) ?_
                refine ff_bipush hx hb (eX12_part (72, .bipush 9, 2) (List.mem_of_getElem? (i := 39) rfl)) (by decide) (by decide) (fun v38 e38 => ?_)
                refine ff_icmp_ge hx hb (eX12_part (74, .if_icmp .ge 15, 3) (List.mem_of_getElem? (i := 40) rfl)) (tgt := 89) rfl (fun c39 => ?_) (fun c39 => (by exfalso; omega))
                refine lv_lload_n hx hb (eX12_part (89, .lload_n 1, 1) (List.mem_of_getElem? (i := 47) rfl)) rfl (lv_at hl 0 rfl) ?_
                have hfin : paG T sg = (xv.toInt, x37) := by rw [hfn, ← htn, hx37] <;> rfl
                exact W.lret hx hb hr (fun t ht hW => ⟨_, rfl, by rw [hfin], by rw [ht]; exact hh37.l0, by rw [ht]; exact kp37, by rw [ht, hfin]; exact jv37⟩) hh37.2.2.1 (eX12_part (90, .lreturn, 1) (List.mem_of_getElem? (i := 48) rfl))
              | succ m0 ih2 =>
                intro j xv jv ls hj2 hjv hj9 hxv htn hl
                have hB7 := nB_8 (min j 9) (by omega)
                refine lv_iload_n hx hb (eX12_part (71, .iload_n 3, 1) (List.mem_of_getElem? (i := 38) rfl)) rfl (lv_at hl 1 rfl) ?_
                refine ff_bipush hx hb (eX12_part (72, .bipush 9, 2) (List.mem_of_getElem? (i := 39) rfl)) (by decide) (by decide) (fun v40 e40 => ?_)
                refine ff_icmp_ge hx hb (eX12_part (74, .if_icmp .ge 15, 3) (List.mem_of_getElem? (i := 40) rfl)) (tgt := 89) rfl (fun c41 => (by exfalso; omega)) (fun c41 => ?_)
                refine lv_lload_n hx hb (eX12_part (77, .lload_n 1, 1) (List.mem_of_getElem? (i := 41) rfl)) rfl (lv_at hl 0 rfl) ?_
                refine ff_ldc2 (n := 10) hx hb hown h2 (clX12_ok 373 10 (List.mem_of_getElem? (i := 32) rfl)) (eX12_part (78, .ldc2_w 373, 3) (List.mem_of_getElem? (i := 42) rfl)) (fun v42 e42 => ?_)
                refine ff_lmulR hx hb (eX12_part (81, .lmul, 1) (List.mem_of_getElem? (i := 43) rfl)) (e42) (by omega) (by omega) (fun v43 e43 => ?_)
                refine lv_lstore_n hx hb (eX12_part (82, .lstore_n 1, 1) (List.mem_of_getElem? (i := 44) rfl)) rfl hl (by decide) rfl (fun ls44 hl44 => ?_)
                refine ff_iinc (k := 1) hx hb (eX12_part (83, .iinc 3 1, 3) (List.mem_of_getElem? (i := 45) rfl)) hl44 rfl (by decide) (by decide) (by decide) (by omega) (by omega) (fun v45 e45 ls45 hl45 => ?_)
                refine lv_goto hx hb (eX12_part (86, .goto (-15), 3) (List.mem_of_getElem? (i := 46) rfl)) (tgt := 71) rfl ?_
                exact ih2 (j + 1) v43 v45 ls45 (by omega) (by omega) (by omega) ⟨by omega, by rw [show min (j + 1) 9 = min j 9 + 1 by omega]; show _ ≤ nB (min j 9) * 10 + 9; omega⟩ (by rw [← htn, show v43.toInt = xv.toInt * 10 by omega] <;> rfl) (lv_sub hl45 [1, 0, 2] rfl)
            exact lp2 (9 - i) i vv kv ls (by omega) (by omega) (by omega) hvv rfl (lv_sub hl [0, 1, 2] rfl)
    | succ n0 ih =>
      intro i vv kv gj ls H lo0 hi hkv hig hvv htot hh0 kpl jl hl
      have hul := jl.2.2
      unfold vOK at hul
      have hbj := byI_bd T gj.1
      have hB9 := nB_9 (min i 9) (by omega)
      refine lv_aload_n hx hb (eX12_part (4, .aload_n 0, 1) (List.mem_of_getElem? (i := 4) rfl)) rfl (lv_at hl 2 rfl) ?_
      refine tz_rowV (As := []) (st := []) (b := a) (C := RX12) (Ts := gT) hx hb hml hown h2 (fun _ h => h) (hX12_isGood l D cA ro sz H0 a T (gj) ha) ⟨rfl, rfl⟩ ⟨by decide, by decide⟩ ⟨by decide, by decide⟩ (tb_8 17 rfl rfl) (tb_1 12 rfl rfl) (tb_8 14 rfl rfl) (tb_8 16 rfl rfl) (tb_0 31 rfl rfl) (show yX12_isGood.cls ≠ "java/lang/invoke/MethodHandle" ∧ yX12_isGood.cls ≠ "java/lang/invoke/VarHandle" ∧ (parseMethodDescriptor yX12_isGood.desc).map (fun d => d.parameters.length) = some 0 by decide +kernel) zs_blind (zs_ob hh0 ha (show RTg[11]? = some (0, 11, 0, fsX12) from rfl) (zCX12 hKn.1)) (fun U hU hW => ⟨rfl, by rw [hU]; exact hh0.l0, zKb s U hW.alike hKn, by rw [hU]; exact jl⟩) hh0.2.2.1 hl.1 (Nat.le_of_ble_eq_true rfl) (eX12_part (5, .invokevirtual 305, 3) (List.mem_of_getElem? (i := 5) rfl)) (fun r46 s46 t46 lo46 g46 f46 l46 => ?_)
      obtain ⟨z46, v46, q46, e46⟩ := f46
      cases q46
      rw [z46, g46]
      have hh46 : zh_ok D cA RTg ro sz H0 H lo46 := ⟨hh0.1, hh0.2.1, l46, hh0.2.2.2⟩
      refine W.eq (g2 := F0 m 8 ls [.int v46]) rfl ?_
      refine ff_if_eq hx hb (eX12_part (8, .ifCond .eq 55, 3) (List.mem_of_getElem? (i := 6) rfl)) (tgt := 63) rfl (fun c47 => ?_) (fun c47 => ?_)
      · have hpt : paL T 120 0 0 sg = ((vv.toInt, (i : Int)), gj) := by rw [← htot]; show (if _ then _ else _ : (Int × Int) × uS) = _; rw [if_neg (by omega)]
        refine lv_iload_n hx hb (eX12_part (63, .iload_n 3, 1) (List.mem_of_getElem? (i := 34) rfl)) rfl (lv_at hl 1 rfl) ?_
        refine ff_if_ne hx hb (eX12_part (64, .ifCond .ne 7, 3) (List.mem_of_getElem? (i := 35) rfl)) (tgt := 71) rfl (fun c48 => ?_) (fun c48 => ?_)
        · have hfn : paG T sg = (tenF (9 - i) vv.toInt, gj) := by unfold paG; rw [hpt]; dsimp only; rw [if_neg (by omega), show ((i : Int)).toNat = i by omega]
          have lp2 : ∀ (m0 j : Nat) (xv : Int64) (jv : Int32) (ls : Array Slot), (j + m0 = 9 ∨ (m0 = 0 ∧ 9 ≤ j)) → jv.toInt = (j : Int) → (j ≤ 200) → (0 ≤ xv.toInt ∧ xv.toInt ≤ nB (min j 9)) → tenF m0 xv.toInt = tenF (9 - i) vv.toInt → lv_has ls 4 [(1, .long xv), (3, .int jv), (0, .ref a)] → W p l e (headSpec (gW yX12_part cX12_part 4 (some .long)) { frames := 1, cells := 0, slots := 0, locals := 20 }).room s m ([.ref a] : List Value).toArray below meth c H lo46 0 0 (MQ below (fun _ st oc t => ∃ r : Int64, oc = .returned (some (.long r)) ∧ r.toInt = (paG T sg).1 ∧ zh_ok D cA RTg ro sz H0 t.heap [] ∧ zc_kept D RTg ro vM st.heap t.heap ∧ jV D cA ro t.heap a T (paG T sg).2) ([.ref a] : List Value).toArray s 0 0 (zy_fr sz)) (F0 m 71 ls []) := by
            intro m0
            induction m0 with
            | zero =>
              intro j xv jv ls hj2 hjv hj9 hxv htn hl
              refine lv_iload_n hx hb (eX12_part (71, .iload_n 3, 1) (List.mem_of_getElem? (i := 38) rfl)) rfl (lv_at hl 1 rfl) ?_
              refine ff_bipush hx hb (eX12_part (72, .bipush 9, 2) (List.mem_of_getElem? (i := 39) rfl)) (by decide) (by decide) (fun v49 e49 => ?_)
              refine ff_icmp_ge hx hb (eX12_part (74, .if_icmp .ge 15, 3) (List.mem_of_getElem? (i := 40) rfl)) (tgt := 89) rfl (fun c50 => ?_) (fun c50 => (by exfalso; omega))
              refine lv_lload_n hx hb (eX12_part (89, .lload_n 1, 1) (List.mem_of_getElem? (i := 47) rfl)) rfl (lv_at hl 0 rfl) ?_
              have hfin : paG T sg = (xv.toInt, gj) := by rw [hfn, ← htn] <;> rfl
              exact W.lret hx hb hr (fun t ht hW => ⟨_, rfl, by rw [hfin], by rw [ht]; exact hh46.l0, by rw [ht]; exact kpl, by rw [ht, hfin]; exact jl⟩) hh46.2.2.1 (eX12_part (90, .lreturn, 1) (List.mem_of_getElem? (i := 48) rfl))
            | succ m0 ih2 =>
              intro j xv jv ls hj2 hjv hj9 hxv htn hl
              have hB7 := nB_8 (min j 9) (by omega)
              refine lv_iload_n hx hb (eX12_part (71, .iload_n 3, 1) (List.mem_of_getElem? (i := 38) rfl)) rfl (lv_at hl 1 rfl) ?_
              refine ff_bipush hx hb (eX12_part (72, .bipush 9, 2) (List.mem_of_getElem? (i := 39) rfl)) (by decide) (by decide) (fun v51 e51 => ?_)
              refine ff_icmp_ge hx hb (eX12_part (74, .if_icmp .ge 15, 3) (List.mem_of_getElem? (i := 40) rfl)) (tgt := 89) rfl (fun c52 => (by exfalso; omega)) (fun c52 => ?_)
              refine lv_lload_n hx hb (eX12_part (77, .lload_n 1, 1) (List.mem_of_getElem? (i := 41) rfl)) rfl (lv_at hl 0 rfl) ?_
              refine ff_ldc2 (n := 10) hx hb hown h2 (clX12_ok 373 10 (List.mem_of_getElem? (i := 32) rfl)) (eX12_part (78, .ldc2_w 373, 3) (List.mem_of_getElem? (i := 42) rfl)) (fun v53 e53 => ?_)
              refine ff_lmulR hx hb (eX12_part (81, .lmul, 1) (List.mem_of_getElem? (i := 43) rfl)) (e53) (by omega) (by omega) (fun v54 e54 => ?_)
              refine lv_lstore_n hx hb (eX12_part (82, .lstore_n 1, 1) (List.mem_of_getElem? (i := 44) rfl)) rfl hl (by decide) rfl (fun ls55 hl55 => ?_)
              refine ff_iinc (k := 1) hx hb (eX12_part (83, .iinc 3 1, 3) (List.mem_of_getElem? (i := 45) rfl)) hl55 rfl (by decide) (by decide) (by decide) (by omega) (by omega) (fun v56 e56 ls56 hl56 => ?_)
              refine lv_goto hx hb (eX12_part (86, .goto (-15), 3) (List.mem_of_getElem? (i := 46) rfl)) (tgt := 71) rfl ?_
              exact ih2 (j + 1) v54 v56 ls56 (by omega) (by omega) (by omega) ⟨by omega, by rw [show min (j + 1) 9 = min j 9 + 1 by omega]; show _ ≤ nB (min j 9) * 10 + 9; omega⟩ (by rw [← htn, show v54.toInt = xv.toInt * 10 by omega] <;> rfl) (lv_sub hl56 [1, 0, 2] rfl)
          exact lp2 (9 - i) i vv kv ls (by omega) (by omega) (by omega) hvv rfl (lv_sub hl [0, 1, 2] rfl)
        · have hfn : paG T sg = (tenF (9 - i) vv.toInt, flG gj) := by unfold paG; rw [hpt]; dsimp only; rw [if_pos (by omega), show ((i : Int)).toNat = i by omega]
          refine lv_aload_n hx hb (eX12_part (67, .aload_n 0, 1) (List.mem_of_getElem? (i := 36) rfl)) rfl (lv_at hl 2 rfl) ?_
          refine tz_rowV (As := []) (st := []) (b := a) (C := RX12) (Ts := gT) hx hb hml hown h2 (fun _ h => h) (hX12_fail l D cA ro sz H0 a T (gj) ha) ⟨rfl, rfl⟩ ⟨by decide, by decide⟩ ⟨by decide, by decide⟩ (tb_8 31 rfl rfl) (tb_1 12 rfl rfl) (tb_8 28 rfl rfl) (tb_8 30 rfl rfl) (tb_0 33 rfl rfl) (show yX12_fail.cls ≠ "java/lang/invoke/MethodHandle" ∧ yX12_fail.cls ≠ "java/lang/invoke/VarHandle" ∧ (parseMethodDescriptor yX12_fail.desc).map (fun d => d.parameters.length) = some 0 by decide +kernel) zs_blind (zs_ob hh46 ha (show RTg[11]? = some (0, 11, 0, fsX12) from rfl) (zCX12 hKn.1)) (fun U hU hW => ⟨rfl, by rw [hU]; exact hh46.l0, zKb s U hW.alike hKn, by rw [hU]; exact jl⟩) hh46.2.2.1 hl.1 (Nat.le_of_ble_eq_true rfl) (eX12_part (68, .invokevirtual 316, 3) (List.mem_of_getElem? (i := 37) rfl)) (fun r57 s57 t57 lo57 g57 f57 l57 => ?_)
          obtain ⟨q57, z57, c57, jv57⟩ := f57
          cases q57
          rw [g57] at c57
          have hh57 : zh_ok D cA RTg ro sz H0 t57.heap lo57 := ⟨z57.1, z57.2.1, l57, z57.2.2.2⟩
          have kp57 := kpl.trans (c57.mono (ms' := vM) (by decide))
          generalize hx57 : flG gj = x57 at jv57
          have uu57 := jv57.2.2
          unfold vOK at uu57
          have bb57 := byI_bd T x57.1
          refine W.eq (g2 := F0 m 71 ls []) rfl ?_
          have lp2 : ∀ (m0 j : Nat) (xv : Int64) (jv : Int32) (ls : Array Slot), (j + m0 = 9 ∨ (m0 = 0 ∧ 9 ≤ j)) → jv.toInt = (j : Int) → (j ≤ 200) → (0 ≤ xv.toInt ∧ xv.toInt ≤ nB (min j 9)) → tenF m0 xv.toInt = tenF (9 - i) vv.toInt → lv_has ls 4 [(1, .long xv), (3, .int jv), (0, .ref a)] → W p l e (headSpec (gW yX12_part cX12_part 4 (some .long)) { frames := 1, cells := 0, slots := 0, locals := 20 }).room s m ([.ref a] : List Value).toArray below meth c t57.heap lo57 0 0 (MQ below (fun _ st oc t => ∃ r : Int64, oc = .returned (some (.long r)) ∧ r.toInt = (paG T sg).1 ∧ zh_ok D cA RTg ro sz H0 t.heap [] ∧ zc_kept D RTg ro vM st.heap t.heap ∧ jV D cA ro t.heap a T (paG T sg).2) ([.ref a] : List Value).toArray s 0 0 (zy_fr sz)) (F0 m 71 ls []) := by
            intro m0
            induction m0 with
            | zero =>
              intro j xv jv ls hj2 hjv hj9 hxv htn hl
              refine lv_iload_n hx hb (eX12_part (71, .iload_n 3, 1) (List.mem_of_getElem? (i := 38) rfl)) rfl (lv_at hl 1 rfl) ?_
              refine ff_bipush hx hb (eX12_part (72, .bipush 9, 2) (List.mem_of_getElem? (i := 39) rfl)) (by decide) (by decide) (fun v58 e58 => ?_)
              refine ff_icmp_ge hx hb (eX12_part (74, .if_icmp .ge 15, 3) (List.mem_of_getElem? (i := 40) rfl)) (tgt := 89) rfl (fun c59 => ?_) (fun c59 => (by exfalso; omega))
              refine lv_lload_n hx hb (eX12_part (89, .lload_n 1, 1) (List.mem_of_getElem? (i := 47) rfl)) rfl (lv_at hl 0 rfl) ?_
              have hfin : paG T sg = (xv.toInt, x57) := by rw [hfn, ← htn, hx57] <;> rfl
              exact W.lret hx hb hr (fun t ht hW => ⟨_, rfl, by rw [hfin], by rw [ht]; exact hh57.l0, by rw [ht]; exact kp57, by rw [ht, hfin]; exact jv57⟩) hh57.2.2.1 (eX12_part (90, .lreturn, 1) (List.mem_of_getElem? (i := 48) rfl))
            | succ m0 ih2 =>
              intro j xv jv ls hj2 hjv hj9 hxv htn hl
              have hB7 := nB_8 (min j 9) (by omega)
              refine lv_iload_n hx hb (eX12_part (71, .iload_n 3, 1) (List.mem_of_getElem? (i := 38) rfl)) rfl (lv_at hl 1 rfl) ?_
              refine ff_bipush hx hb (eX12_part (72, .bipush 9, 2) (List.mem_of_getElem? (i := 39) rfl)) (by decide) (by decide) (fun v60 e60 => ?_)
              refine ff_icmp_ge hx hb (eX12_part (74, .if_icmp .ge 15, 3) (List.mem_of_getElem? (i := 40) rfl)) (tgt := 89) rfl (fun c61 => (by exfalso; omega)) (fun c61 => ?_)
              refine lv_lload_n hx hb (eX12_part (77, .lload_n 1, 1) (List.mem_of_getElem? (i := 41) rfl)) rfl (lv_at hl 0 rfl) ?_
              refine ff_ldc2 (n := 10) hx hb hown h2 (clX12_ok 373 10 (List.mem_of_getElem? (i := 32) rfl)) (eX12_part (78, .ldc2_w 373, 3) (List.mem_of_getElem? (i := 42) rfl)) (fun v62 e62 => ?_)
              refine ff_lmulR hx hb (eX12_part (81, .lmul, 1) (List.mem_of_getElem? (i := 43) rfl)) (e62) (by omega) (by omega) (fun v63 e63 => ?_)
              refine lv_lstore_n hx hb (eX12_part (82, .lstore_n 1, 1) (List.mem_of_getElem? (i := 44) rfl)) rfl hl (by decide) rfl (fun ls64 hl64 => ?_)
              refine ff_iinc (k := 1) hx hb (eX12_part (83, .iinc 3 1, 3) (List.mem_of_getElem? (i := 45) rfl)) hl64 rfl (by decide) (by decide) (by decide) (by omega) (by omega) (fun v65 e65 ls65 hl65 => ?_)
              refine lv_goto hx hb (eX12_part (86, .goto (-15), 3) (List.mem_of_getElem? (i := 46) rfl)) (tgt := 71) rfl ?_
              exact ih2 (j + 1) v63 v65 ls65 (by omega) (by omega) (by omega) ⟨by omega, by rw [show min (j + 1) 9 = min j 9 + 1 by omega]; show _ ≤ nB (min j 9) * 10 + 9; omega⟩ (by rw [← htn, show v63.toInt = xv.toInt * 10 by omega] <;> rfl) (lv_sub hl65 [1, 0, 2] rfl)
          exact lp2 (9 - i) i vv kv ls (by omega) (by omega) (by omega) hvv rfl (lv_sub hl [0, 1, 2] rfl)
      · skip
        refine lv_aload_n hx hb (eX12_part (11, .aload_n 0, 1) (List.mem_of_getElem? (i := 7) rfl)) rfl (lv_at hl 2 rfl) ?_
        refine tz_rowV (As := []) (st := []) (b := a) (C := RX12) (Ts := gT) hx hb hml hown h2 (fun _ h => h) (hX12_sign l D cA ro sz H0 a T (gj) ha) ⟨rfl, rfl⟩ ⟨by decide, by decide⟩ ⟨by decide, by decide⟩ (tb_8 21 rfl rfl) (tb_1 12 rfl rfl) (tb_8 18 rfl rfl) (tb_8 20 rfl rfl) (tb_0 32 rfl rfl) (show yX12_sign.cls ≠ "java/lang/invoke/MethodHandle" ∧ yX12_sign.cls ≠ "java/lang/invoke/VarHandle" ∧ (parseMethodDescriptor yX12_sign.desc).map (fun d => d.parameters.length) = some 0 by decide +kernel) zs_blind (zs_ob hh46 ha (show RTg[11]? = some (0, 11, 0, fsX12) from rfl) (zCX12 hKn.1)) (fun U hU hW => ⟨rfl, by rw [hU]; exact hh46.l0, zKb s U hW.alike hKn, by rw [hU]; exact jl⟩) hh46.2.2.1 hl.1 (Nat.le_of_ble_eq_true rfl) (eX12_part (12, .invokevirtual 309, 3) (List.mem_of_getElem? (i := 8) rfl)) (fun r66 s66 t66 lo66 g66 f66 l66 => ?_)
        obtain ⟨z66, v66, q66, e66⟩ := f66
        cases q66
        rw [z66, g66]
        have hh66 : zh_ok D cA RTg ro sz H0 H lo66 := ⟨hh46.1, hh46.2.1, l66, hh46.2.2.2⟩
        refine W.eq (g2 := F0 m 15 ls [.int v66]) rfl ?_
        refine zu_S (vs := [.int v66]) (rest := []) hx hb hml hown hts0 zu_BT (hX12_isDigit l v66) ⟨rfl, rfl⟩ ⟨by decide, by decide⟩ ⟨by decide, by decide⟩ (tb_8 27 rfl rfl) (tb_1 12 rfl rfl) (tb_8 25 rfl rfl) (tb_8 26 rfl rfl) (show yX12_isDigit.cls ≠ "java/lang/invoke/MethodHandle" ∧ yX12_isDigit.cls ≠ "java/lang/invoke/VarHandle" ∧ (parseMethodDescriptor yX12_isDigit.desc).map (fun d => d.parameters.length) = some 1 by decide +kernel) rfl (fun _ _ _ => trivial) hl.1 (Nat.le_of_ble_eq_true rfl) (eX12_part (15, .invokestatic 319, 3) (List.mem_of_getElem? (i := 9) rfl)) (fun w67 f67 => ?_)
        obtain ⟨v67, rfl, e67⟩ := f67
        refine ff_if_eq hx hb (eX12_part (18, .ifCond .eq 45, 3) (List.mem_of_getElem? (i := 10) rfl)) (tgt := 63) rfl (fun c68 => ?_) (fun c68 => ?_)
        · have hpt : paL T 120 0 0 sg = ((vv.toInt, (i : Int)), gj) := by rw [← htot]; show (if _ then _ else _ : (Int × Int) × uS) = _; rw [if_neg (by omega)]
          refine lv_iload_n hx hb (eX12_part (63, .iload_n 3, 1) (List.mem_of_getElem? (i := 34) rfl)) rfl (lv_at hl 1 rfl) ?_
          refine ff_if_ne hx hb (eX12_part (64, .ifCond .ne 7, 3) (List.mem_of_getElem? (i := 35) rfl)) (tgt := 71) rfl (fun c69 => ?_) (fun c69 => ?_)
          · have hfn : paG T sg = (tenF (9 - i) vv.toInt, gj) := by unfold paG; rw [hpt]; dsimp only; rw [if_neg (by omega), show ((i : Int)).toNat = i by omega]
            have lp2 : ∀ (m0 j : Nat) (xv : Int64) (jv : Int32) (ls : Array Slot), (j + m0 = 9 ∨ (m0 = 0 ∧ 9 ≤ j)) → jv.toInt = (j : Int) → (j ≤ 200) → (0 ≤ xv.toInt ∧ xv.toInt ≤ nB (min j 9)) → tenF m0 xv.toInt = tenF (9 - i) vv.toInt → lv_has ls 4 [(1, .long xv), (3, .int jv), (0, .ref a)] → W p l e (headSpec (gW yX12_part cX12_part 4 (some .long)) { frames := 1, cells := 0, slots := 0, locals := 20 }).room s m ([.ref a] : List Value).toArray below meth c H lo66 0 0 (MQ below (fun _ st oc t => ∃ r : Int64, oc = .returned (some (.long r)) ∧ r.toInt = (paG T sg).1 ∧ zh_ok D cA RTg ro sz H0 t.heap [] ∧ zc_kept D RTg ro vM st.heap t.heap ∧ jV D cA ro t.heap a T (paG T sg).2) ([.ref a] : List Value).toArray s 0 0 (zy_fr sz)) (F0 m 71 ls []) := by
              intro m0
              induction m0 with
              | zero =>
                intro j xv jv ls hj2 hjv hj9 hxv htn hl
                refine lv_iload_n hx hb (eX12_part (71, .iload_n 3, 1) (List.mem_of_getElem? (i := 38) rfl)) rfl (lv_at hl 1 rfl) ?_
                refine ff_bipush hx hb (eX12_part (72, .bipush 9, 2) (List.mem_of_getElem? (i := 39) rfl)) (by decide) (by decide) (fun v70 e70 => ?_)
                refine ff_icmp_ge hx hb (eX12_part (74, .if_icmp .ge 15, 3) (List.mem_of_getElem? (i := 40) rfl)) (tgt := 89) rfl (fun c71 => ?_) (fun c71 => (by exfalso; omega))
                refine lv_lload_n hx hb (eX12_part (89, .lload_n 1, 1) (List.mem_of_getElem? (i := 47) rfl)) rfl (lv_at hl 0 rfl) ?_
                have hfin : paG T sg = (xv.toInt, gj) := by rw [hfn, ← htn] <;> rfl
                exact W.lret hx hb hr (fun t ht hW => ⟨_, rfl, by rw [hfin], by rw [ht]; exact hh66.l0, by rw [ht]; exact kpl, by rw [ht, hfin]; exact jl⟩) hh66.2.2.1 (eX12_part (90, .lreturn, 1) (List.mem_of_getElem? (i := 48) rfl))
              | succ m0 ih2 =>
                intro j xv jv ls hj2 hjv hj9 hxv htn hl
                have hB7 := nB_8 (min j 9) (by omega)
                refine lv_iload_n hx hb (eX12_part (71, .iload_n 3, 1) (List.mem_of_getElem? (i := 38) rfl)) rfl (lv_at hl 1 rfl) ?_
                refine ff_bipush hx hb (eX12_part (72, .bipush 9, 2) (List.mem_of_getElem? (i := 39) rfl)) (by decide) (by decide) (fun v72 e72 => ?_)
                refine ff_icmp_ge hx hb (eX12_part (74, .if_icmp .ge 15, 3) (List.mem_of_getElem? (i := 40) rfl)) (tgt := 89) rfl (fun c73 => (by exfalso; omega)) (fun c73 => ?_)
                refine lv_lload_n hx hb (eX12_part (77, .lload_n 1, 1) (List.mem_of_getElem? (i := 41) rfl)) rfl (lv_at hl 0 rfl) ?_
                refine ff_ldc2 (n := 10) hx hb hown h2 (clX12_ok 373 10 (List.mem_of_getElem? (i := 32) rfl)) (eX12_part (78, .ldc2_w 373, 3) (List.mem_of_getElem? (i := 42) rfl)) (fun v74 e74 => ?_)
                refine ff_lmulR hx hb (eX12_part (81, .lmul, 1) (List.mem_of_getElem? (i := 43) rfl)) (e74) (by omega) (by omega) (fun v75 e75 => ?_)
                refine lv_lstore_n hx hb (eX12_part (82, .lstore_n 1, 1) (List.mem_of_getElem? (i := 44) rfl)) rfl hl (by decide) rfl (fun ls76 hl76 => ?_)
                refine ff_iinc (k := 1) hx hb (eX12_part (83, .iinc 3 1, 3) (List.mem_of_getElem? (i := 45) rfl)) hl76 rfl (by decide) (by decide) (by decide) (by omega) (by omega) (fun v77 e77 ls77 hl77 => ?_)
                refine lv_goto hx hb (eX12_part (86, .goto (-15), 3) (List.mem_of_getElem? (i := 46) rfl)) (tgt := 71) rfl ?_
                exact ih2 (j + 1) v75 v77 ls77 (by omega) (by omega) (by omega) ⟨by omega, by rw [show min (j + 1) 9 = min j 9 + 1 by omega]; show _ ≤ nB (min j 9) * 10 + 9; omega⟩ (by rw [← htn, show v75.toInt = xv.toInt * 10 by omega] <;> rfl) (lv_sub hl77 [1, 0, 2] rfl)
            exact lp2 (9 - i) i vv kv ls (by omega) (by omega) (by omega) hvv rfl (lv_sub hl [0, 1, 2] rfl)
          · have hfn : paG T sg = (tenF (9 - i) vv.toInt, flG gj) := by unfold paG; rw [hpt]; dsimp only; rw [if_pos (by omega), show ((i : Int)).toNat = i by omega]
            refine lv_aload_n hx hb (eX12_part (67, .aload_n 0, 1) (List.mem_of_getElem? (i := 36) rfl)) rfl (lv_at hl 2 rfl) ?_
            refine tz_rowV (As := []) (st := []) (b := a) (C := RX12) (Ts := gT) hx hb hml hown h2 (fun _ h => h) (hX12_fail l D cA ro sz H0 a T (gj) ha) ⟨rfl, rfl⟩ ⟨by decide, by decide⟩ ⟨by decide, by decide⟩ (tb_8 31 rfl rfl) (tb_1 12 rfl rfl) (tb_8 28 rfl rfl) (tb_8 30 rfl rfl) (tb_0 33 rfl rfl) (show yX12_fail.cls ≠ "java/lang/invoke/MethodHandle" ∧ yX12_fail.cls ≠ "java/lang/invoke/VarHandle" ∧ (parseMethodDescriptor yX12_fail.desc).map (fun d => d.parameters.length) = some 0 by decide +kernel) zs_blind (zs_ob hh66 ha (show RTg[11]? = some (0, 11, 0, fsX12) from rfl) (zCX12 hKn.1)) (fun U hU hW => ⟨rfl, by rw [hU]; exact hh66.l0, zKb s U hW.alike hKn, by rw [hU]; exact jl⟩) hh66.2.2.1 hl.1 (Nat.le_of_ble_eq_true rfl) (eX12_part (68, .invokevirtual 316, 3) (List.mem_of_getElem? (i := 37) rfl)) (fun r78 s78 t78 lo78 g78 f78 l78 => ?_)
            obtain ⟨q78, z78, c78, jv78⟩ := f78
            cases q78
            rw [g78] at c78
            have hh78 : zh_ok D cA RTg ro sz H0 t78.heap lo78 := ⟨z78.1, z78.2.1, l78, z78.2.2.2⟩
            have kp78 := kpl.trans (c78.mono (ms' := vM) (by decide))
            generalize hx78 : flG gj = x78 at jv78
            have uu78 := jv78.2.2
            unfold vOK at uu78
            have bb78 := byI_bd T x78.1
            refine W.eq (g2 := F0 m 71 ls []) rfl ?_
            have lp2 : ∀ (m0 j : Nat) (xv : Int64) (jv : Int32) (ls : Array Slot), (j + m0 = 9 ∨ (m0 = 0 ∧ 9 ≤ j)) → jv.toInt = (j : Int) → (j ≤ 200) → (0 ≤ xv.toInt ∧ xv.toInt ≤ nB (min j 9)) → tenF m0 xv.toInt = tenF (9 - i) vv.toInt → lv_has ls 4 [(1, .long xv), (3, .int jv), (0, .ref a)] → W p l e (headSpec (gW yX12_part cX12_part 4 (some .long)) { frames := 1, cells := 0, slots := 0, locals := 20 }).room s m ([.ref a] : List Value).toArray below meth c t78.heap lo78 0 0 (MQ below (fun _ st oc t => ∃ r : Int64, oc = .returned (some (.long r)) ∧ r.toInt = (paG T sg).1 ∧ zh_ok D cA RTg ro sz H0 t.heap [] ∧ zc_kept D RTg ro vM st.heap t.heap ∧ jV D cA ro t.heap a T (paG T sg).2) ([.ref a] : List Value).toArray s 0 0 (zy_fr sz)) (F0 m 71 ls []) := by
              intro m0
              induction m0 with
              | zero =>
                intro j xv jv ls hj2 hjv hj9 hxv htn hl
                refine lv_iload_n hx hb (eX12_part (71, .iload_n 3, 1) (List.mem_of_getElem? (i := 38) rfl)) rfl (lv_at hl 1 rfl) ?_
                refine ff_bipush hx hb (eX12_part (72, .bipush 9, 2) (List.mem_of_getElem? (i := 39) rfl)) (by decide) (by decide) (fun v79 e79 => ?_)
                refine ff_icmp_ge hx hb (eX12_part (74, .if_icmp .ge 15, 3) (List.mem_of_getElem? (i := 40) rfl)) (tgt := 89) rfl (fun c80 => ?_) (fun c80 => (by exfalso; omega))
                refine lv_lload_n hx hb (eX12_part (89, .lload_n 1, 1) (List.mem_of_getElem? (i := 47) rfl)) rfl (lv_at hl 0 rfl) ?_
                have hfin : paG T sg = (xv.toInt, x78) := by rw [hfn, ← htn, hx78] <;> rfl
                exact W.lret hx hb hr (fun t ht hW => ⟨_, rfl, by rw [hfin], by rw [ht]; exact hh78.l0, by rw [ht]; exact kp78, by rw [ht, hfin]; exact jv78⟩) hh78.2.2.1 (eX12_part (90, .lreturn, 1) (List.mem_of_getElem? (i := 48) rfl))
              | succ m0 ih2 =>
                intro j xv jv ls hj2 hjv hj9 hxv htn hl
                have hB7 := nB_8 (min j 9) (by omega)
                refine lv_iload_n hx hb (eX12_part (71, .iload_n 3, 1) (List.mem_of_getElem? (i := 38) rfl)) rfl (lv_at hl 1 rfl) ?_
                refine ff_bipush hx hb (eX12_part (72, .bipush 9, 2) (List.mem_of_getElem? (i := 39) rfl)) (by decide) (by decide) (fun v81 e81 => ?_)
                refine ff_icmp_ge hx hb (eX12_part (74, .if_icmp .ge 15, 3) (List.mem_of_getElem? (i := 40) rfl)) (tgt := 89) rfl (fun c82 => (by exfalso; omega)) (fun c82 => ?_)
                refine lv_lload_n hx hb (eX12_part (77, .lload_n 1, 1) (List.mem_of_getElem? (i := 41) rfl)) rfl (lv_at hl 0 rfl) ?_
                refine ff_ldc2 (n := 10) hx hb hown h2 (clX12_ok 373 10 (List.mem_of_getElem? (i := 32) rfl)) (eX12_part (78, .ldc2_w 373, 3) (List.mem_of_getElem? (i := 42) rfl)) (fun v83 e83 => ?_)
                refine ff_lmulR hx hb (eX12_part (81, .lmul, 1) (List.mem_of_getElem? (i := 43) rfl)) (e83) (by omega) (by omega) (fun v84 e84 => ?_)
                refine lv_lstore_n hx hb (eX12_part (82, .lstore_n 1, 1) (List.mem_of_getElem? (i := 44) rfl)) rfl hl (by decide) rfl (fun ls85 hl85 => ?_)
                refine ff_iinc (k := 1) hx hb (eX12_part (83, .iinc 3 1, 3) (List.mem_of_getElem? (i := 45) rfl)) hl85 rfl (by decide) (by decide) (by decide) (by omega) (by omega) (fun v86 e86 ls86 hl86 => ?_)
                refine lv_goto hx hb (eX12_part (86, .goto (-15), 3) (List.mem_of_getElem? (i := 46) rfl)) (tgt := 71) rfl ?_
                exact ih2 (j + 1) v84 v86 ls86 (by omega) (by omega) (by omega) ⟨by omega, by rw [show min (j + 1) 9 = min j 9 + 1 by omega]; show _ ≤ nB (min j 9) * 10 + 9; omega⟩ (by rw [← htn, show v84.toInt = xv.toInt * 10 by omega] <;> rfl) (lv_sub hl86 [1, 0, 2] rfl)
            exact lp2 (9 - i) i vv kv ls (by omega) (by omega) (by omega) hvv rfl (lv_sub hl [0, 1, 2] rfl)
        · have hdg : isD (byI T gj.1) := by omega
          have hdx := hdg.1
          have hdy := hdg.2
          refine lv_iload_n hx hb (eX12_part (21, .iload_n 3, 1) (List.mem_of_getElem? (i := 11) rfl)) rfl (lv_at hl 1 rfl) ?_
          refine ff_bipush hx hb (eX12_part (22, .bipush 9, 2) (List.mem_of_getElem? (i := 12) rfl)) (by decide) (by decide) (fun v87 e87 => ?_)
          refine ff_icmp_ge hx hb (eX12_part (24, .if_icmp .ge 21, 3) (List.mem_of_getElem? (i := 13) rfl)) (tgt := 45) rfl (fun c88 => ?_) (fun c88 => ?_)
          · skip
            refine lv_lload_n hx hb (eX12_part (45, .lload_n 1, 1) (List.mem_of_getElem? (i := 24) rfl)) rfl (lv_at hl 0 rfl) ?_
            refine lv_lstore_n hx hb (eX12_part (46, .lstore_n 1, 1) (List.mem_of_getElem? (i := 25) rfl)) rfl hl (by decide) rfl (fun ls89 hl89 => ?_)
            refine ff_iinc (k := 1) hx hb (eX12_part (47, .iinc 3 1, 3) (List.mem_of_getElem? (i := 26) rfl)) hl89 rfl (by decide) (by decide) (by decide) (by omega) (by omega) (fun v90 e90 ls90 hl90 => ?_)
            refine lv_aload_n hx hb (eX12_part (50, .aload_n 0, 1) (List.mem_of_getElem? (i := 27) rfl)) rfl (lv_at hl90 2 rfl) ?_
            refine lv_dup hx hb (eX12_part (51, .dup, 1) (List.mem_of_getElem? (i := 28) rfl)) rfl ?_
            obtain ⟨jt91, ⟨av91, fv91, bv91, f2991, f3091, f3191, hav91, hfv91, hbv91⟩, hu91⟩ := id jl
            refine tz_get (r := 11) (k := 29) (t := (0, 0, 120)) hx hb hh66 ha rfl rfl (hcl11 293 29 (0, 0, 120) (by decide) rfl).1 f2991 (eX12_part (52, .getfield 293, 3) (List.mem_of_getElem? (i := 29) rfl)) ?_
            refine ff_iconst hx hb (eX12_part (55, .iconst 1, 1) (List.mem_of_getElem? (i := 30) rfl)) (by decide) (by decide) (fun v92 e92 => ?_)
            have ha993 : av91.toInt + v92.toInt ≤ 121 ∧ 0 ≤ av91.toInt := by omega
            refine ff_iadd hx hb (eX12_part (56, .iadd, 1) (List.mem_of_getElem? (i := 31) rfl)) (by omega) (by omega) (fun v93 e93 => ?_)
            have hlt := byI_lt (T := T) (a := gj.1) (by omega) (by omega)
            refine tz_put (r := 11) (k := 29) (t := (0, 0, 120)) hx hb hD hh66 ha rfl rfl ((hcl11 293 29 (0, 0, 120) (by decide) rfl).2 (by decide)) (tz_i (by omega) (by omega)) (eX12_part (57, .putfield 293, 3) (List.mem_of_getElem? (i := 32) rfl)) (fun H94 lo94 hh94 hf94 hk94 _ hq94 => ?_)
            have mf94_a_30 := (hk94.1 a 11 30 11 0 fsX12 ha rfl (by decide) (by decide)).trans f3091
            have mf94_a_31 := (hk94.1 a 11 31 11 0 fsX12 ha rfl (by decide) (by decide)).trans f3191
            have kp94 := kpl.trans (hk94.mono (ms' := vM) (fun x hx => by cases List.mem_singleton.mp hx; decide))
            have jv94 : jV D cA ro H94 a T (gj.1 + 1, gj.2) := ⟨jl.1.kept ha hk94 (by decide) (by decide) (by decide), ⟨_, _, _, hf94, mf94_a_30, mf94_a_31, by show _ = gj.1 + 1; omega, hfv91, hbv91⟩, adG_ok jl.2.2 (by omega)⟩
            have uv94 := jv94.2.2
            unfold vOK at uv94
            have bb94 := byI_bd T (gj.1 + 1, gj.2).1
            refine lv_goto hx hb (eX12_part (60, .goto (-56), 3) (List.mem_of_getElem? (i := 33) rfl)) (tgt := 4) rfl ?_
            have hgd : gj.2.1 < 0 ∧ isD (byI T gj.1) := ⟨by omega, hdg⟩
            have hd8 := hdg.1
            have hd9 := hdg.2
            exact ih (i + 1) vv v90 (gj.1 + 1, gj.2) ls90 _ _ (by omega) (by omega) (by dsimp only; omega) ⟨by omega, by rw [show min (i + 1) 9 = min i 9 by omega]; omega⟩ (by rw [← htot]; show _ = (if _ then _ else _ : (Int × Int) × uS); rw [if_pos hgd, if_neg (by omega)] <;> rfl) hh94 kp94 jv94 (lv_sub hl90 [1, 0, 2] rfl)
          · have hB8 := nB_8 (min i 9) (by omega)
            refine ff_ldc2 (n := 10) hx hb hown h2 (clX12_ok 373 10 (List.mem_of_getElem? (i := 32) rfl)) (eX12_part (27, .ldc2_w 373, 3) (List.mem_of_getElem? (i := 14) rfl)) (fun v95 e95 => ?_)
            refine lv_lload_n hx hb (eX12_part (30, .lload_n 1, 1) (List.mem_of_getElem? (i := 15) rfl)) rfl (lv_at hl 0 rfl) ?_
            refine ff_lmulL hx hb (eX12_part (31, .lmul, 1) (List.mem_of_getElem? (i := 16) rfl)) (e95) (by omega) (by omega) (fun v96 e96 => ?_)
            refine lv_aload_n hx hb (eX12_part (32, .aload_n 0, 1) (List.mem_of_getElem? (i := 17) rfl)) rfl (lv_at hl 2 rfl) ?_
            refine tz_rowV (As := []) (st := [.long v96]) (b := a) (C := RX12) (Ts := gT) hx hb hml hown h2 (fun _ h => h) (hX12_sign l D cA ro sz H0 a T (gj) ha) ⟨rfl, rfl⟩ ⟨by decide, by decide⟩ ⟨by decide, by decide⟩ (tb_8 21 rfl rfl) (tb_1 12 rfl rfl) (tb_8 18 rfl rfl) (tb_8 20 rfl rfl) (tb_0 32 rfl rfl) (show yX12_sign.cls ≠ "java/lang/invoke/MethodHandle" ∧ yX12_sign.cls ≠ "java/lang/invoke/VarHandle" ∧ (parseMethodDescriptor yX12_sign.desc).map (fun d => d.parameters.length) = some 0 by decide +kernel) zs_blind (zs_ob hh66 ha (show RTg[11]? = some (0, 11, 0, fsX12) from rfl) (zCX12 hKn.1)) (fun U hU hW => ⟨rfl, by rw [hU]; exact hh66.l0, zKb s U hW.alike hKn, by rw [hU]; exact jl⟩) hh66.2.2.1 hl.1 (Nat.le_of_ble_eq_true rfl) (eX12_part (33, .invokevirtual 309, 3) (List.mem_of_getElem? (i := 18) rfl)) (fun r97 s97 t97 lo97 g97 f97 l97 => ?_)
            obtain ⟨z97, v97, q97, e97⟩ := f97
            cases q97
            rw [z97, g97]
            have hh97 : zh_ok D cA RTg ro sz H0 H lo97 := ⟨hh66.1, hh66.2.1, l97, hh66.2.2.2⟩
            refine W.eq (g2 := F0 m 36 ls [.int v97, .long v96]) rfl ?_
            refine ff_i2l hx hb (eX12_part (36, .i2l, 1) (List.mem_of_getElem? (i := 19) rfl)) (fun v98 e98 => ?_)
            refine ff_ladd hx hb (eX12_part (37, .ladd, 1) (List.mem_of_getElem? (i := 20) rfl)) (by omega) (by omega) (fun v99 e99 => ?_)
            refine ff_ldc2 (n := 48) hx hb hown h2 (clX12_ok 375 48 (List.mem_of_getElem? (i := 33) rfl)) (eX12_part (38, .ldc2_w 375, 3) (List.mem_of_getElem? (i := 21) rfl)) (fun v100 e100 => ?_)
            refine ff_lsub hx hb (eX12_part (41, .lsub, 1) (List.mem_of_getElem? (i := 22) rfl)) (by omega) (by omega) (fun v101 e101 => ?_)
            refine lv_goto hx hb (eX12_part (42, .goto 4, 3) (List.mem_of_getElem? (i := 23) rfl)) (tgt := 46) rfl ?_
            refine lv_lstore_n hx hb (eX12_part (46, .lstore_n 1, 1) (List.mem_of_getElem? (i := 25) rfl)) rfl hl (by decide) rfl (fun ls102 hl102 => ?_)
            refine ff_iinc (k := 1) hx hb (eX12_part (47, .iinc 3 1, 3) (List.mem_of_getElem? (i := 26) rfl)) hl102 rfl (by decide) (by decide) (by decide) (by omega) (by omega) (fun v103 e103 ls103 hl103 => ?_)
            refine lv_aload_n hx hb (eX12_part (50, .aload_n 0, 1) (List.mem_of_getElem? (i := 27) rfl)) rfl (lv_at hl103 2 rfl) ?_
            refine lv_dup hx hb (eX12_part (51, .dup, 1) (List.mem_of_getElem? (i := 28) rfl)) rfl ?_
            obtain ⟨jt104, ⟨av104, fv104, bv104, f29104, f30104, f31104, hav104, hfv104, hbv104⟩, hu104⟩ := id jl
            refine tz_get (r := 11) (k := 29) (t := (0, 0, 120)) hx hb hh97 ha rfl rfl (hcl11 293 29 (0, 0, 120) (by decide) rfl).1 f29104 (eX12_part (52, .getfield 293, 3) (List.mem_of_getElem? (i := 29) rfl)) ?_
            refine ff_iconst hx hb (eX12_part (55, .iconst 1, 1) (List.mem_of_getElem? (i := 30) rfl)) (by decide) (by decide) (fun v105 e105 => ?_)
            have ha9106 : av104.toInt + v105.toInt ≤ 121 ∧ 0 ≤ av104.toInt := by omega
            refine ff_iadd hx hb (eX12_part (56, .iadd, 1) (List.mem_of_getElem? (i := 31) rfl)) (by omega) (by omega) (fun v106 e106 => ?_)
            have hlt := byI_lt (T := T) (a := gj.1) (by omega) (by omega)
            refine tz_put (r := 11) (k := 29) (t := (0, 0, 120)) hx hb hD hh97 ha rfl rfl ((hcl11 293 29 (0, 0, 120) (by decide) rfl).2 (by decide)) (tz_i (by omega) (by omega)) (eX12_part (57, .putfield 293, 3) (List.mem_of_getElem? (i := 32) rfl)) (fun H107 lo107 hh107 hf107 hk107 _ hq107 => ?_)
            have mf107_a_30 := (hk107.1 a 11 30 11 0 fsX12 ha rfl (by decide) (by decide)).trans f30104
            have mf107_a_31 := (hk107.1 a 11 31 11 0 fsX12 ha rfl (by decide) (by decide)).trans f31104
            have kp107 := kpl.trans (hk107.mono (ms' := vM) (fun x hx => by cases List.mem_singleton.mp hx; decide))
            have jv107 : jV D cA ro H107 a T (gj.1 + 1, gj.2) := ⟨jl.1.kept ha hk107 (by decide) (by decide) (by decide), ⟨_, _, _, hf107, mf107_a_30, mf107_a_31, by show _ = gj.1 + 1; omega, hfv104, hbv104⟩, adG_ok jl.2.2 (by omega)⟩
            have uv107 := jv107.2.2
            unfold vOK at uv107
            have bb107 := byI_bd T (gj.1 + 1, gj.2).1
            refine lv_goto hx hb (eX12_part (60, .goto (-56), 3) (List.mem_of_getElem? (i := 33) rfl)) (tgt := 4) rfl ?_
            have hgd : gj.2.1 < 0 ∧ isD (byI T gj.1) := ⟨by omega, hdg⟩
            have hd8 := hdg.1
            have hd9 := hdg.2
            exact ih (i + 1) v101 v103 (gj.1 + 1, gj.2) ls103 _ _ (by omega) (by omega) (by dsimp only; omega) ⟨by omega, by rw [show min (i + 1) 9 = min i 9 + 1 by omega]; show _ ≤ nB (min i 9) * 10 + 9; omega⟩ (by rw [← htot]; show _ = (if _ then _ else _ : (Int × Int) × uS); rw [if_pos hgd, if_pos (by omega), ← show v101.toInt = 10 * vv.toInt + byI T gj.1 - 48 by omega] <;> rfl) hh107 kp107 jv107 (lv_sub hl103 [1, 0, 2] rfl)
  exact loop 120 0 v1 v3 sg ls4 _ _ (by omega) (by omega) (by omega) ⟨by omega, by show _ ≤ (0 : Int); omega⟩ (by rw [show v1.toInt = 0 by omega] <;> rfl) hh kp0 hJ (lv_sub hl4 [1, 0, 2] rfl)
set_option maxRecDepth 100000 in
set_option maxHeartbeats 4000000 in
theorem hX12_clearPart (l : Launch) (D : va_G) (cA : Nat → ClassId) (ro : Nat → Option Nat) (sz : Nat) (H0 : Heap) (a : Nat) (fv : Int32) (fo : Int) (T : List Int) (sg : uS) (n : Nat) (g h : fN) (ha : ro a = some 11) (hn1 : n ≤ 1) (hT : (T.length : Int) ≤ 120) (hfv : fv.toInt = fo) : Met l yX12_clearPart (gW yX12_clearPart cX12_clearPart 3 none) { frames := 1, cells := 0, slots := 0, locals := 23 } (zs_P D cA ro sz H0 (fun H => jV D cA ro H a T sg ∧ jG D cA ro H a n g h) [.ref a, .int fv]) (rg_V D cA ro sz H0 gM a n T h ((clG fo, sg) : gsS)) 0 0 (zy_fr sz) := by
  refine zy_ofW (cc := cX12_clearPart) (maxL := 3) (ret := none) (by decide +kernel) rfl ?_
  intro p e s m args below meth c s1 B hml hv
  obtain ⟨rfl, hh, hKn, hJ⟩ := hv
  have hx := B.exec
  have hb := B.bytes
  have hr := B.returns
  have hlk := B.notSynchronized
  have hts0 := atoms_spec (ws := gW yX12_clearPart cX12_clearPart 3 none) B.pre
  have h2 : ∀ w ∈ gT, w.before ([.ref a, .int fv] : List Value).toArray s = true := fun w hw => hts0 w (List.mem_cons_of_mem _ hw)
  have hown : s.vm.findClass RX12 = some m.cls := findClass_of_methodNamed B.named
  have hl := lv_entry [.ref a, .int fv] (n := 3) (Nat.le_of_ble_eq_true rfl)
  rw [lg_entry_eq]
  generalize (lg_sl [.ref a, .int fv] ++ List.replicate (3 - (lg_sl [.ref a, .int fv]).length) Slot.unset).toArray = ls at hl ⊢
  have b_fv := zn_i32 fv
  have hD := zD_all h2 hKn.1
  have hcl11 := fun (idx k : Nat) (t : zt_T) (h : (idx, 11, k) ∈ gfX12) (hk : fsX12[k]? = some t) => zf_clause (ro := ro) (ms := gM) h2 hown hKn.1 gfX12_ok (by decide +kernel) idx 11 k 11 0 fsX12 t h rfl hk
  have kp0 : zc_kept D RTg ro gM s.heap s.heap := zc_kept.refl
  obtain ⟨jv0, jg0⟩ := hJ
  have hu := jv0.2.2
  unfold vOK at hu
  have hbb := byI_bd T sg.1
  refine ff_iconst hx hb (eX12_clearPart (0, .iconst 0, 1) (List.mem_of_getElem? (i := 0) rfl)) (by decide) (by decide) (fun v1 e1 => ?_)
  refine lv_istore_n hx hb (eX12_clearPart (1, .istore_n 2, 1) (List.mem_of_getElem? (i := 1) rfl)) rfl hl (by decide) rfl (fun ls2 hl2 => ?_)
  have jn20 : ∀ (gg : fN) (ls : Array Slot) (H : Heap) (lo0 : List Loc), zh_ok D cA RTg ro sz H0 H lo0 → zc_kept D RTg ro gM s.heap H → jV D cA ro H a T sg → jG D cA ro H a n (fun _ => 0) h → lv_has ls 3 [(0, .ref a), (1, .int fv)] → W p l e (headSpec (gW yX12_clearPart cX12_clearPart 3 none) { frames := 1, cells := 0, slots := 0, locals := 23 }).room s m ([.ref a, .int fv] : List Value).toArray below meth c H lo0 0 0 (MQ below (rg_V D cA ro sz H0 gM a n T h ((clG fo, sg) : gsS)) ([.ref a, .int fv] : List Value).toArray s 0 0 (zy_fr sz)) (F0 m 20 ls []) := by
    intro gg ls H lo0 hh0 kpl jl jgl hl
    refine ff_iconst hx hb (eX12_clearPart (20, .iconst 0, 1) (List.mem_of_getElem? (i := 11) rfl)) (by decide) (by decide) (fun v3 e3 => ?_)
    refine lv_istore_n hx hb (eX12_clearPart (21, .istore_n 2, 1) (List.mem_of_getElem? (i := 12) rfl)) rfl hl (by decide) rfl (fun ls4 hl4 => ?_)
    have lp2 : ∀ (m0 i : Nat) (kv : Int32) (ls : Array Slot) (H : Heap) (lo0 : List Loc), i + m0 = 8 → kv.toInt = (i : Int) → zh_ok D cA RTg ro sz H0 H lo0 → zc_kept D RTg ro gM s.heap H → jV D cA ro H a T sg → jG D cA ro H a n (fun _ => 0) h → lv_has ls 3 [(2, .int kv), (0, .ref a), (1, .int fv)] → W p l e (headSpec (gW yX12_clearPart cX12_clearPart 3 none) { frames := 1, cells := 0, slots := 0, locals := 23 }).room s m ([.ref a, .int fv] : List Value).toArray below meth c H lo0 0 0 (MQ below (rg_V D cA ro sz H0 gM a n T h ((clG fo, sg) : gsS)) ([.ref a, .int fv] : List Value).toArray s 0 0 (zy_fr sz)) (F0 m 22 ls []) := by
      intro m0
      induction m0 with
      | zero =>
        intro i kv ls H lo0 hi hkv hh0 kpl jl jgl hl
        obtain ⟨ga, zg, nv, f34, rga, hcg, hzg, f36, hnv⟩ := id jgl
        refine lv_iload_n hx hb (eX12_clearPart (22, .iload_n 2, 1) (List.mem_of_getElem? (i := 13) rfl)) rfl (lv_at hl 0 rfl) ?_
        refine ff_bipush hx hb (eX12_clearPart (23, .bipush 8, 2) (List.mem_of_getElem? (i := 14) rfl)) (by decide) (by decide) (fun v5 e5 => ?_)
        refine ff_icmp_ge hx hb (eX12_clearPart (25, .if_icmp .ge 24, 3) (List.mem_of_getElem? (i := 15) rfl)) (tgt := 49) rfl (fun c6 => ?_) (fun c6 => (by exfalso; omega))
        refine lv_aload_n hx hb (eX12_clearPart (49, .aload_n 0, 1) (List.mem_of_getElem? (i := 28) rfl)) rfl (lv_at hl 1 rfl) ?_
        refine ff_iconst hx hb (eX12_clearPart (50, .iconst 0, 1) (List.mem_of_getElem? (i := 29) rfl)) (by decide) (by decide) (fun v7 e7 => ?_)
        refine lv_iload_n hx hb (eX12_clearPart (51, .iload_n 1, 1) (List.mem_of_getElem? (i := 30) rfl)) rfl (lv_at hl 2 rfl) ?_
        refine ff_i2l hx hb (eX12_clearPart (52, .i2l, 1) (List.mem_of_getElem? (i := 31) rfl)) (fun v8 e8 => ?_)
        refine tz_rowV (As := [.int v7, .long v8]) (st := []) (b := a) (C := RX12) (Ts := gT) hx hb hml hown h2 (fun _ h => h) (hX12_set l D cA ro sz H0 a v7 v8 0 n (fun _ => 0) h ha hn1 (by omega) (by decide)) ⟨rfl, rfl⟩ ⟨by decide, by decide⟩ ⟨by decide, by decide⟩ (tb_8 72 rfl rfl) (tb_1 12 rfl rfl) (tb_8 69 rfl rfl) (tb_8 71 rfl rfl) (tb_0 42 rfl rfl) (show yX12_set.cls ≠ "java/lang/invoke/MethodHandle" ∧ yX12_set.cls ≠ "java/lang/invoke/VarHandle" ∧ (parseMethodDescriptor yX12_set.desc).map (fun d => d.parameters.length) = some 2 by decide +kernel) zs_blind (zs_ob hh0 ha (show RTg[11]? = some (0, 11, 0, fsX12) from rfl) (zCX12 hKn.1)) (fun U hU hW => ⟨rfl, by rw [hU]; exact hh0.l0, zKb s U hW.alike hKn, by rw [hU]; exact jgl⟩) hh0.2.2.1 hl.1 (Nat.le_of_ble_eq_true rfl) (eX12_clearPart (53, .invokevirtual 357, 3) (List.mem_of_getElem? (i := 32) rfl)) (fun r9 s9 t9 lo9 g9 f9 l9 => ?_)
        obtain ⟨q9, z9, c9, jg9⟩ := f9
        cases q9
        rw [g9] at c9
        have hh9 : zh_ok D cA RTg ro sz H0 t9.heap lo9 := ⟨z9.1, z9.2.1, l9, z9.2.2.2⟩
        have kp9 := kpl.trans (c9.mono (ms' := gM) (by decide))
        have jg9 : jG D cA ro t9.heap a n (upF (fun _ => 0) 0 (fv.toInt)) h := by rw [← show v8.toInt = fv.toInt by omega]; exact jg9
        have jv9 := jl.kept ha c9 (by decide)
        refine W.eq (g2 := F0 m 56 ls []) rfl ?_
        refine lv_aload_n hx hb (eX12_clearPart (56, .aload_n 0, 1) (List.mem_of_getElem? (i := 33) rfl)) rfl (lv_at hl 1 rfl) ?_
        refine ff_iconst hx hb (eX12_clearPart (57, .iconst 1, 1) (List.mem_of_getElem? (i := 34) rfl)) (by decide) (by decide) (fun v10 e10 => ?_)
        refine ff_ldc2 (n := (-1)) hx hb hown h2 (clX12_ok 176 (-1) (List.mem_of_getElem? (i := 19) rfl)) (eX12_clearPart (58, .ldc2_w 176, 3) (List.mem_of_getElem? (i := 35) rfl)) (fun v11 e11 => ?_)
        refine tz_rowV (As := [.int v10, .long v11]) (st := []) (b := a) (C := RX12) (Ts := gT) hx hb hml hown h2 (fun _ h => h) (hX12_set l D cA ro sz H0 a v10 v11 1 n (upF (fun _ => 0) 0 (fv.toInt)) h ha hn1 (by omega) (by decide)) ⟨rfl, rfl⟩ ⟨by decide, by decide⟩ ⟨by decide, by decide⟩ (tb_8 72 rfl rfl) (tb_1 12 rfl rfl) (tb_8 69 rfl rfl) (tb_8 71 rfl rfl) (tb_0 42 rfl rfl) (show yX12_set.cls ≠ "java/lang/invoke/MethodHandle" ∧ yX12_set.cls ≠ "java/lang/invoke/VarHandle" ∧ (parseMethodDescriptor yX12_set.desc).map (fun d => d.parameters.length) = some 2 by decide +kernel) zs_blind (zs_ob hh9 ha (show RTg[11]? = some (0, 11, 0, fsX12) from rfl) (zCX12 hKn.1)) (fun U hU hW => ⟨rfl, by rw [hU]; exact hh9.l0, zKb s U hW.alike hKn, by rw [hU]; exact jg9⟩) hh9.2.2.1 hl.1 (Nat.le_of_ble_eq_true rfl) (eX12_clearPart (61, .invokevirtual 357, 3) (List.mem_of_getElem? (i := 36) rfl)) (fun r12 s12 t12 lo12 g12 f12 l12 => ?_)
        obtain ⟨q12, z12, c12, jg12⟩ := f12
        cases q12
        rw [g12] at c12
        have hh12 : zh_ok D cA RTg ro sz H0 t12.heap lo12 := ⟨z12.1, z12.2.1, l12, z12.2.2.2⟩
        have kp12 := kp9.trans (c12.mono (ms' := gM) (by decide))
        have jg12 : jG D cA ro t12.heap a n (upF (upF (fun _ => 0) 0 (fv.toInt)) 1 ((-1))) h := by rw [← show v11.toInt = (-1) by omega]; exact jg12
        have jv12 := jv9.kept ha c12 (by decide)
        refine W.eq (g2 := F0 m 64 ls []) rfl ?_
        exact W.vret hx hb hr (fun t ht hW => ⟨rfl, by rw [ht]; exact hh12.l0, by rw [ht]; exact kp12, by rw [ht]; exact jv12, by rw [ht]; exact jG.eqf (fun k _ => cl_up (show fv.toInt = fo by omega) k) jg12⟩) hh12.2.2.1 (eX12_clearPart (64, .return_, 1) (List.mem_of_getElem? (i := 37) rfl))
      | succ m0 ih2 =>
        intro i kv ls H lo0 hi hkv hh0 kpl jl jgl hl
        obtain ⟨ga, zg, nv, f34, rga, hcg, hzg, f36, hnv⟩ := id jgl
        refine lv_iload_n hx hb (eX12_clearPart (22, .iload_n 2, 1) (List.mem_of_getElem? (i := 13) rfl)) rfl (lv_at hl 0 rfl) ?_
        refine ff_bipush hx hb (eX12_clearPart (23, .bipush 8, 2) (List.mem_of_getElem? (i := 14) rfl)) (by decide) (by decide) (fun v13 e13 => ?_)
        refine ff_icmp_ge hx hb (eX12_clearPart (25, .if_icmp .ge 24, 3) (List.mem_of_getElem? (i := 15) rfl)) (tgt := 49) rfl (fun c14 => (by exfalso; omega)) (fun c14 => ?_)
        refine lv_aload_n hx hb (eX12_clearPart (28, .aload_n 0, 1) (List.mem_of_getElem? (i := 16) rfl)) rfl (lv_at hl 1 rfl) ?_
        obtain ⟨a15, fa15, ra15⟩ := tz_ref (k := 35) (rr := 37) hh0 ha (show RTg[11]? = some (0, 11, 0, fsX12) from rfl) rfl
        refine tz_get (r := 11) (k := 35) (t := (78, 0, 0)) hx hb hh0 ha rfl rfl (hcl11 62 35 (78, 0, 0) (by decide) rfl).1 fa15 (eX12_clearPart (29, .getfield 62, 3) (List.mem_of_getElem? (i := 17) rfl)) ?_
        refine ff_bipush hx hb (eX12_clearPart (32, .bipush 8, 2) (List.mem_of_getElem? (i := 18) rfl)) (by decide) (by decide) (fun v16 e16 => ?_)
        refine lv_aload_n hx hb (eX12_clearPart (34, .aload_n 0, 1) (List.mem_of_getElem? (i := 19) rfl)) rfl (lv_at hl 1 rfl) ?_
        refine tz_get (r := 11) (k := 36) (t := (0, 0, 3)) hx hb hh0 ha rfl rfl (hcl11 354 36 (0, 0, 3) (by decide) rfl).1 f36 (eX12_clearPart (35, .getfield 354, 3) (List.mem_of_getElem? (i := 20) rfl)) ?_
        refine ff_imulL hx hb (eX12_clearPart (38, .imul, 1) (List.mem_of_getElem? (i := 21) rfl)) (e16) (by omega) (by omega) (fun v17 e17 => ?_)
        refine lv_iload_n hx hb (eX12_clearPart (39, .iload_n 2, 1) (List.mem_of_getElem? (i := 22) rfl)) rfl (lv_at hl 0 rfl) ?_
        refine ff_iadd hx hb (eX12_clearPart (40, .iadd, 1) (List.mem_of_getElem? (i := 23) rfl)) (by omega) (by omega) (fun v18 e18 => ?_)
        refine ff_lconst hx hb (eX12_clearPart (41, .lconst 0, 1) (List.mem_of_getElem? (i := 24) rfl)) rfl (fun v19 e19 => ?_)
        obtain ⟨-, z20, hc20, hy20⟩ := zh_arr hh0 ra15 (show RTg[37]? = some (1, 1, 16, [(1, (-9223372036854775808), 9223372036854775807)]) from rfl)
        refine tz_last hx hb (zAr hKn.1 1 (by decide)) hh0 ra15 (show RTg[37]? = some (1, 1, 16, [(1, (-9223372036854775808), 9223372036854775807)]) from rfl) hc20 hy20 (by omega) (by omega) (tz_l (zn_i64 _).1 (zn_i64 _).2) (eX12_clearPart (42, .lastore, 1) (List.mem_of_getElem? (i := 25) rfl)) (fun H21 lo21 hh21 hc21 hk21 hq21 _ => ?_)
        have mf21_a_36 := (hk21.1 a 11 36 11 0 fsX12 ha rfl (by decide) (by decide)).trans f36
        have mf21_a_35 := (hk21.1 a 11 35 11 0 fsX12 ha rfl (by decide) (by decide)).trans fa15
        have kp21 := kpl.trans (hk21.mono (ms' := gM) (fun x hx => by cases List.mem_singleton.mp hx; decide))
        have jv21 := jl.kept ha hk21 (by decide)
        have jg21 := jgl.kept ha hk21 (by decide)
        refine ff_iinc (k := 0) hx hb (eX12_clearPart (43, .iinc 2 1, 3) (List.mem_of_getElem? (i := 26) rfl)) hl rfl (by decide) (by decide) (by decide) (by omega) (by omega) (fun v22 e22 ls22 hl22 => ?_)
        refine lv_goto hx hb (eX12_clearPart (46, .goto (-24), 3) (List.mem_of_getElem? (i := 27) rfl)) (tgt := 22) rfl ?_
        exact ih2 (i + 1) v22 ls22 _ _ (by omega) (by omega) hh21 kp21 jv21 jg21 (lv_sub hl22 [0, 1, 2] rfl)
    exact lp2 8 0 v3 ls4 _ _ (by omega) (by omega) hh0 kpl jl jgl (lv_sub hl4 [0, 1, 2] rfl)
  have loop : ∀ (m0 i : Nat) (gg : fN) (kv : Int32) (ls : Array Slot) (H : Heap) (lo0 : List Loc), i + m0 = 32 → kv.toInt = (i : Int) → (∀ j, j < i → gg j = 0) → zh_ok D cA RTg ro sz H0 H lo0 → zc_kept D RTg ro gM s.heap H → jV D cA ro H a T sg → jG D cA ro H a n gg h → lv_has ls 3 [(2, .int kv), (0, .ref a), (1, .int fv)] → W p l e (headSpec (gW yX12_clearPart cX12_clearPart 3 none) { frames := 1, cells := 0, slots := 0, locals := 23 }).room s m ([.ref a, .int fv] : List Value).toArray below meth c H lo0 0 0 (MQ below (rg_V D cA ro sz H0 gM a n T h ((clG fo, sg) : gsS)) ([.ref a, .int fv] : List Value).toArray s 0 0 (zy_fr sz)) (F0 m 2 ls []) := by
    intro m0
    induction m0 with
    | zero =>
      intro i gg kv ls H lo0 hi hkv hgg hh0 kpl jl jgl hl
      refine lv_iload_n hx hb (eX12_clearPart (2, .iload_n 2, 1) (List.mem_of_getElem? (i := 2) rfl)) rfl (lv_at hl 0 rfl) ?_
      refine ff_bipush hx hb (eX12_clearPart (3, .bipush 32, 2) (List.mem_of_getElem? (i := 3) rfl)) (by decide) (by decide) (fun v23 e23 => ?_)
      refine ff_icmp_ge hx hb (eX12_clearPart (5, .if_icmp .ge 15, 3) (List.mem_of_getElem? (i := 4) rfl)) (tgt := 20) rfl (fun c24 => ?_) (fun c24 => (by exfalso; omega))
      exact jn20 gg ls _ _ hh0 kpl jl (jG.eqf (fun j hj => (hgg j (by omega)).symm) jgl) (lv_sub hl [1, 2] rfl)
    | succ m0 ih =>
      intro i gg kv ls H lo0 hi hkv hgg hh0 kpl jl jgl hl
      refine lv_iload_n hx hb (eX12_clearPart (2, .iload_n 2, 1) (List.mem_of_getElem? (i := 2) rfl)) rfl (lv_at hl 0 rfl) ?_
      refine ff_bipush hx hb (eX12_clearPart (3, .bipush 32, 2) (List.mem_of_getElem? (i := 3) rfl)) (by decide) (by decide) (fun v25 e25 => ?_)
      refine ff_icmp_ge hx hb (eX12_clearPart (5, .if_icmp .ge 15, 3) (List.mem_of_getElem? (i := 4) rfl)) (tgt := 20) rfl (fun c26 => (by exfalso; omega)) (fun c26 => ?_)
      refine lv_aload_n hx hb (eX12_clearPart (8, .aload_n 0, 1) (List.mem_of_getElem? (i := 5) rfl)) rfl (lv_at hl 1 rfl) ?_
      refine lv_iload_n hx hb (eX12_clearPart (9, .iload_n 2, 1) (List.mem_of_getElem? (i := 6) rfl)) rfl (lv_at hl 0 rfl) ?_
      refine ff_lconst hx hb (eX12_clearPart (10, .lconst 0, 1) (List.mem_of_getElem? (i := 7) rfl)) rfl (fun v27 e27 => ?_)
      refine tz_rowV (As := [.int kv, .long v27]) (st := []) (b := a) (C := RX12) (Ts := gT) hx hb hml hown h2 (fun _ h => h) (hX12_set l D cA ro sz H0 a kv v27 i n gg h ha hn1 (by omega) (by omega)) ⟨rfl, rfl⟩ ⟨by decide, by decide⟩ ⟨by decide, by decide⟩ (tb_8 72 rfl rfl) (tb_1 12 rfl rfl) (tb_8 69 rfl rfl) (tb_8 71 rfl rfl) (tb_0 42 rfl rfl) (show yX12_set.cls ≠ "java/lang/invoke/MethodHandle" ∧ yX12_set.cls ≠ "java/lang/invoke/VarHandle" ∧ (parseMethodDescriptor yX12_set.desc).map (fun d => d.parameters.length) = some 2 by decide +kernel) zs_blind (zs_ob hh0 ha (show RTg[11]? = some (0, 11, 0, fsX12) from rfl) (zCX12 hKn.1)) (fun U hU hW => ⟨rfl, by rw [hU]; exact hh0.l0, zKb s U hW.alike hKn, by rw [hU]; exact jgl⟩) hh0.2.2.1 hl.1 (Nat.le_of_ble_eq_true rfl) (eX12_clearPart (11, .invokevirtual 357, 3) (List.mem_of_getElem? (i := 8) rfl)) (fun r28 s28 t28 lo28 g28 f28 l28 => ?_)
      obtain ⟨q28, z28, c28, jg28⟩ := f28
      cases q28
      rw [g28] at c28
      have hh28 : zh_ok D cA RTg ro sz H0 t28.heap lo28 := ⟨z28.1, z28.2.1, l28, z28.2.2.2⟩
      have kp28 := kpl.trans (c28.mono (ms' := gM) (by decide))
      have jg28 : jG D cA ro t28.heap a n (upF gg i 0) h := by rw [← show v27.toInt = 0 by omega]; exact jg28
      have jv28 := jl.kept ha c28 (by decide)
      refine W.eq (g2 := F0 m 14 ls []) rfl ?_
      refine ff_iinc (k := 0) hx hb (eX12_clearPart (14, .iinc 2 1, 3) (List.mem_of_getElem? (i := 9) rfl)) hl rfl (by decide) (by decide) (by decide) (by omega) (by omega) (fun v29 e29 ls29 hl29 => ?_)
      refine lv_goto hx hb (eX12_clearPart (17, .goto (-15), 3) (List.mem_of_getElem? (i := 10) rfl)) (tgt := 2) rfl ?_
      exact ih (i + 1) _ v29 ls29 _ _ (by omega) (by omega) (fun j hj => by by_cases e9 : j = i; (rw [e9, up_eq]); (rw [up_ne e9]; exact hgg j (by omega))) hh28 kp28 jv28 jg28 (lv_sub hl29 [0, 1, 2] rfl)
  exact loop 32 0 g v1 ls2 _ _ (by omega) (by omega) (fun j hj => absurd hj (Nat.not_lt_zero _)) hh kp0 jv0 jg0 (lv_sub hl2 [0, 1, 2] rfl)
