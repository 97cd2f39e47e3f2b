/-! p19: the reference: got[], by its two parts -/
def jG (D : va_G) (cA : Nat → ClassId) (ro : Nat → Option Nat) (H : Heap) (a n : Nat) (g h : fN) : Prop := ∃ (ga : Nat) (z : Nat → Value) (nv : Int32), zh_f D H a 11 34 = .ref ga ∧ ro ga = some 36 ∧ H[ga]? = some (arrV (cA 1) 64 z) ∧ (∀ k, k < 32 → (∃ v : Int64, z (32 * n + k) = .long v ∧ v.toInt = g k) ∧ ∃ w : Int64, z (32 * (1 - n) + k) = .long w ∧ w.toInt = h k) ∧ zh_f D H a 11 36 = .int nv ∧ nv.toInt = (n : Int)
theorem jG.kept {D : va_G} {cA : Nat → ClassId} {ro : Nat → Option Nat} {H H' : Heap} {ms : List (Nat × Nat)} {a n : Nat} {g h : fN} (ha : ro a = some 11) (hk : zc_kept D RTg ro ms H H') (hm : ∀ y ∈ [(11, 34), (11, 36), (36, 0)], y ∉ ms) (j : jG D cA ro H a n g h) : jG D cA ro H' a n g h := by
  obtain ⟨ga, z, nv, j1, j2, j3, j4, j5, j6⟩ := j
  exact ⟨ga, z, nv, (hk.1 a 11 34 11 0 fsX12 ha rfl (by decide) (hm _ (by decide))).trans j1, j2, (hk.2 ga 36 0 1 64 _ j2 rfl (hm _ (by decide))).trans j3, j4, (hk.1 a 11 36 11 0 fsX12 ha rfl (by decide) (hm _ (by decide))).trans j5, j6⟩
theorem jG.eqf {D : va_G} {cA : Nat → ClassId} {ro : Nat → Option Nat} {H : Heap} {a n : Nat} {g g' h : fN} (e : ∀ k, k < 32 → g' k = g k) (j : jG D cA ro H a n g h) : jG D cA ro H a n g' h := by
  obtain ⟨ga, z, nv, j1, j2, j3, j4, j5, j6⟩ := j
  refine ⟨ga, z, nv, j1, j2, j3, fun k hk => ?_, j5, j6⟩
  obtain ⟨⟨v, v1, v2⟩, w⟩ := j4 k hk
  exact ⟨⟨v, v1, by rw [e k hk]; exact v2⟩, w⟩
def gM : List (Nat × Nat) := [(11, 29), (11, 30), (11, 31), (11, 37), (36, 0), (37, 0)]
def gN : List (Nat × Nat) := [(11, 29), (11, 30), (11, 31), (36, 0)]
def rg_V (D : va_G) (cA : Nat → ClassId) (ro : Nat → Option Nat) (sz : Nat) (H0 : Heap) (ms : List (Nat × Nat)) (a n : Nat) (T : List Int) (h : fN) (x : gsS) : Array Value → State → Outcome → State → Prop := fun _ st oc t => oc = .returned none ∧ zh_ok D cA RTg ro sz H0 t.heap [] ∧ zc_kept D RTg ro ms st.heap t.heap ∧ jV D cA ro t.heap a T x.2 ∧ jG D cA ro t.heap a n x.1 h
theorem dgG_w {T : List Int} {n : Nat} {r : uS} {M : Int} (h : (10 : Int) ^ n - 1 = M) : 0 ≤ (dgG T n 0 r).1 ∧ (dgG T n 0 r).1 ≤ M := by
  have := dgG_up (T := T) n (v := 0) (M := 0) (r := r) (by decide) (by decide)
  omega
theorem dgG_hi {T : List Int} (n : Nat) : ∀ {v : Int} {r : uS} {k : Nat}, 0 ≤ v → v ≤ nB k → 0 ≤ (dgG T n v r).1 := by
  induction n with
  | zero => intro v r k h0 _; exact h0
  | succ n ih =>
    intro v r k h0 h
    show 0 ≤ (if _ then (if _ then _ else _) else _ : Int × uS).1
    split
    · split
      · rename_i q
        exact ih (k := k + 1) (by have := q.1; omega) (by show _ ≤ nB k * 10 + 9; have := q.2; omega)
      · exact ih (k := k) h0 h
    · exact h0
set_option maxRecDepth 100000 in
set_option maxHeartbeats 4000000 in
theorem hX12_digitsW (l : Launch) (D : va_G) (cA : Nat → ClassId) (ro : Nat → Option Nat) (sz : Nat) (H0 : Heap) (a : Nat) (nd : Int32) (m0 : Nat) (T : List Int) (sg : uS) (ha : ro a = some 11) (hm0 : nd.toInt = (m0 : Int)) (hm2 : m0 ≤ 6) : Met l yX12_digits (gW yX12_digits cX12_digits 4 (some .int)) { frames := 1, cells := 0, slots := 0, locals := 20 } (zs_P D cA ro sz H0 (fun H => jV D cA ro H a T sg) [.ref a, .int nd]) (kv_Q D cA ro sz H0 vM a T (dgG T m0 0 sg)) 0 0 (zy_fr sz) := by
  refine zy_ofW (cc := cX12_digits) (maxL := 4) (ret := (some .int)) (by decide +kernel) rfl ?_
  intro p e s m args below meth c s1 B hml hv
  obtain ⟨rfl, hh, hKn, hJ⟩ := hv
  have hx := B.exec
  have hb := B.bytes
  have hr := B.returns
  have hlk := B.notSynchronized
  have hts0 := atoms_spec (ws := gW yX12_digits cX12_digits 4 (some .int)) B.pre
  have h2 : ∀ w ∈ gT, w.before ([.ref a, .int nd] : List Value).toArray s = true := fun w hw => hts0 w (List.mem_cons_of_mem _ hw)
  have hown : s.vm.findClass RX12 = some m.cls := findClass_of_methodNamed B.named
  have hl := lv_entry [.ref a, .int nd] (n := 4) (Nat.le_of_ble_eq_true rfl)
  rw [lg_entry_eq]
  generalize (lg_sl [.ref a, .int nd] ++ List.replicate (4 - (lg_sl [.ref a, .int nd]).length) Slot.unset).toArray = ls at hl ⊢
  have b_nd := zn_i32 nd
  have hD := zD_all h2 hKn.1
  have hcl11 := fun (idx k : Nat) (t : zt_T) (h : (idx, 11, k) ∈ gfX12) (hk : fsX12[k]? = some t) => zf_clause (ro := ro) (ms := vM) h2 hown hKn.1 gfX12_ok (by decide +kernel) idx 11 k 11 0 fsX12 t h rfl hk
  have kp0 : zc_kept D RTg ro vM s.heap s.heap := zc_kept.refl
  obtain ⟨hjt, ⟨av, fv, bv, f29, f30, f31, hav, hfv, hbv⟩, hu⟩ := id hJ
  obtain ⟨tb, n, z, f12, r0, f13, hn, hc, hz⟩ := id hjt
  obtain ⟨n9, g9, n1, n2⟩ := zh_fT (k := 13) (t := (0, 0, 120)) hh ha (show RTg[11]? = some (0, 11, 0, fsX12) from rfl) rfl
  cases f13.symm.trans g9
  dsimp only at n1 n2
  clear g9
  obtain ⟨-, z9, c9, hy9⟩ := zh_arr hh r0 (show RTg[30]? = some (1, 2, 120, [(0, (-128), 127)]) from rfl)
  have hy : ∀ i, i < 120 → zt_ok ro (z i) (0, (-128), 127) := zs_arr (hc.symm.trans c9) hy9
  obtain ⟨u1, u2, u3, u4⟩ := id hu
  refine ff_iconst hx hb (eX12_digits (0, .iconst 0, 1) (List.mem_of_getElem? (i := 0) rfl)) (by decide) (by decide) (fun v1 e1 => ?_)
  refine lv_istore_n hx hb (eX12_digits (1, .istore_n 2, 1) (List.mem_of_getElem? (i := 1) rfl)) rfl hl (by decide) rfl (fun ls2 hl2 => ?_)
  refine ff_iconst hx hb (eX12_digits (2, .iconst 0, 1) (List.mem_of_getElem? (i := 2) rfl)) (by decide) (by decide) (fun v3 e3 => ?_)
  refine lv_istore_n hx hb (eX12_digits (3, .istore_n 3, 1) (List.mem_of_getElem? (i := 3) rfl)) rfl hl2 (by decide) rfl (fun ls4 hl4 => ?_)
  have loop : ∀ (n0 i : Nat) (iv vv : Int32) (g : uS) (ls : Array Slot) (H : Heap) (lo0 : List Loc), i + n0 = m0 → iv.toInt = (i : Int) → (0 ≤ vv.toInt ∧ vv.toInt ≤ nB i) → dgG T n0 vv.toInt g = dgG T m0 0 sg → zh_ok D cA RTg ro sz H0 H lo0 → zc_kept D RTg ro vM s.heap H → jV D cA ro H a T g → lv_has ls 4 [(2, .int vv), (3, .int iv), (0, .ref a), (1, .int nd)] → W p l e (headSpec (gW yX12_digits cX12_digits 4 (some .int)) { frames := 1, cells := 0, slots := 0, locals := 20 }).room s m ([.ref a, .int nd] : List Value).toArray below meth c H lo0 0 0 (MQ below (kv_Q D cA ro sz H0 vM a T (dgG T m0 0 sg)) ([.ref a, .int nd] : List Value).toArray s 0 0 (zy_fr sz)) (F0 m 4 ls []) := by
    intro n0
    induction n0 with
    | zero =>
      intro i iv vv g ls H lo0 hi hiv hvv htot hh0 kpl jl hl
      have hul := jl.2.2
      unfold vOK at hul
      have hbb := byI_bd T g.1
      refine lv_iload_n hx hb (eX12_digits (4, .iload_n 3, 1) (List.mem_of_getElem? (i := 4) rfl)) rfl (lv_at hl 1 rfl) ?_
      refine lv_iload_n hx hb (eX12_digits (5, .iload_n 1, 1) (List.mem_of_getElem? (i := 5) rfl)) rfl (lv_at hl 3 rfl) ?_
      refine ff_icmp_ge hx hb (eX12_digits (6, .if_icmp .ge 56, 3) (List.mem_of_getElem? (i := 6) rfl)) (tgt := 62) rfl (fun c5 => ?_) (fun c5 => (by exfalso; omega))
      refine lv_iload_n hx hb (eX12_digits (62, .iload_n 2, 1) (List.mem_of_getElem? (i := 34) rfl)) rfl (lv_at hl 0 rfl) ?_
      have hfin : dgG T m0 0 sg = (vv.toInt, g) := by rw [← htot] <;> rfl
      exact W.zret hx hb hr rfl (fun t ht hW => ⟨_, rfl, by rw [hfin] <;> exact rfl, by rw [ht]; exact hh0.l0, by rw [ht]; exact kpl, by rw [ht, hfin]; exact jl⟩) hh0.2.2.1 (eX12_digits (63, .ireturn, 1) (List.mem_of_getElem? (i := 35) rfl))
    | succ n0 ih =>
      intro i iv vv g ls H lo0 hi hiv hvv htot hh0 kpl jl hl
      have hul := jl.2.2
      unfold vOK at hul
      have hB8 := nB_8 i (by omega)
      have hbb := byI_bd T g.1
      refine lv_iload_n hx hb (eX12_digits (4, .iload_n 3, 1) (List.mem_of_getElem? (i := 4) rfl)) rfl (lv_at hl 1 rfl) ?_
      refine lv_iload_n hx hb (eX12_digits (5, .iload_n 1, 1) (List.mem_of_getElem? (i := 5) rfl)) rfl (lv_at hl 3 rfl) ?_
      refine ff_icmp_ge hx hb (eX12_digits (6, .if_icmp .ge 56, 3) (List.mem_of_getElem? (i := 6) rfl)) (tgt := 62) rfl (fun c6 => (by exfalso; omega)) (fun c6 => ?_)
      refine lv_aload_n hx hb (eX12_digits (9, .aload_n 0, 1) (List.mem_of_getElem? (i := 7) rfl)) rfl (lv_at hl 2 rfl) ?_
      refine tz_rowV (As := []) (st := []) (b := a) (C := RX12) (Ts := gT) hx hb hml hown h2 (fun _ h => h) (hX12_isGood l D cA ro sz H0 a T (g) ha) ⟨rfl, rfl⟩ ⟨by decide, by decide⟩ ⟨by decide, by decide⟩ (tb_8 17 rfl rfl) (tb_1 12 rfl rfl) (tb_8 14 rfl rfl) (tb_8 16 rfl rfl) (tb_0 31 rfl rfl) (show yX12_isGood.cls ≠ "java/lang/invoke/MethodHandle" ∧ yX12_isGood.cls ≠ "java/lang/invoke/VarHandle" ∧ (parseMethodDescriptor yX12_isGood.desc).map (fun d => d.parameters.length) = some 0 by decide +kernel) zs_blind (zs_ob hh0 ha (show RTg[11]? = some (0, 11, 0, fsX12) from rfl) (zCX12 hKn.1)) (fun U hU hW => ⟨rfl, by rw [hU]; exact hh0.l0, zKb s U hW.alike hKn, by rw [hU]; exact jl⟩) hh0.2.2.1 hl.1 (Nat.le_of_ble_eq_true rfl) (eX12_digits (10, .invokevirtual 305, 3) (List.mem_of_getElem? (i := 8) rfl)) (fun r7 s7 t7 lo7 g7 f7 l7 => ?_)
      obtain ⟨z7, v7, q7, e7⟩ := f7
      cases q7
      rw [z7, g7]
      have hh7 : zh_ok D cA RTg ro sz H0 H lo7 := ⟨hh0.1, hh0.2.1, l7, hh0.2.2.2⟩
      refine W.eq (g2 := F0 m 13 ls [.int v7]) rfl ?_
      refine ff_if_eq hx hb (eX12_digits (13, .ifCond .eq 49, 3) (List.mem_of_getElem? (i := 9) rfl)) (tgt := 62) rfl (fun c8 => ?_) (fun c8 => ?_)
      · skip
        refine lv_iload_n hx hb (eX12_digits (62, .iload_n 2, 1) (List.mem_of_getElem? (i := 34) rfl)) rfl (lv_at hl 0 rfl) ?_
        have hfin : dgG T m0 0 sg = (vv.toInt, g) := by rw [← htot]; show (if _ then (if _ then _ else _) else _ : Int × uS) = _; rw [if_neg (by omega)]
        exact W.zret hx hb hr rfl (fun t ht hW => ⟨_, rfl, by rw [hfin] <;> exact rfl, by rw [ht]; exact hh7.l0, by rw [ht]; exact kpl, by rw [ht, hfin]; exact jl⟩) hh7.2.2.1 (eX12_digits (63, .ireturn, 1) (List.mem_of_getElem? (i := 35) rfl))
      · skip
        refine lv_aload_n hx hb (eX12_digits (16, .aload_n 0, 1) (List.mem_of_getElem? (i := 10) rfl)) rfl (lv_at hl 2 rfl) ?_
        refine tz_rowV (As := []) (st := []) (b := a) (C := RX12) (Ts := gT) hx hb hml hown h2 (fun _ h => h) (hX12_sign l D cA ro sz H0 a T (g) ha) ⟨rfl, rfl⟩ ⟨by decide, by decide⟩ ⟨by decide, by decide⟩ (tb_8 21 rfl rfl) (tb_1 12 rfl rfl) (tb_8 18 rfl rfl) (tb_8 20 rfl rfl) (tb_0 32 rfl rfl) (show yX12_sign.cls ≠ "java/lang/invoke/MethodHandle" ∧ yX12_sign.cls ≠ "java/lang/invoke/VarHandle" ∧ (parseMethodDescriptor yX12_sign.desc).map (fun d => d.parameters.length) = some 0 by decide +kernel) zs_blind (zs_ob hh7 ha (show RTg[11]? = some (0, 11, 0, fsX12) from rfl) (zCX12 hKn.1)) (fun U hU hW => ⟨rfl, by rw [hU]; exact hh7.l0, zKb s U hW.alike hKn, by rw [hU]; exact jl⟩) hh7.2.2.1 hl.1 (Nat.le_of_ble_eq_true rfl) (eX12_digits (17, .invokevirtual 309, 3) (List.mem_of_getElem? (i := 11) rfl)) (fun r9 s9 t9 lo9 g9 f9 l9 => ?_)
        obtain ⟨z9, v9, q9, e9⟩ := f9
        cases q9
        rw [z9, g9]
        have hh9 : zh_ok D cA RTg ro sz H0 H lo9 := ⟨hh7.1, hh7.2.1, l9, hh7.2.2.2⟩
        refine W.eq (g2 := F0 m 20 ls [.int v9]) rfl ?_
        refine zu_S (vs := [.int v9]) (rest := []) hx hb hml hown hts0 zu_BT (hX12_isDigit l v9) ⟨rfl, rfl⟩ ⟨by decide, by decide⟩ ⟨by decide, by decide⟩ (tb_8 27 rfl rfl) (tb_1 12 rfl rfl) (tb_8 25 rfl rfl) (tb_8 26 rfl rfl) (show yX12_isDigit.cls ≠ "java/lang/invoke/MethodHandle" ∧ yX12_isDigit.cls ≠ "java/lang/invoke/VarHandle" ∧ (parseMethodDescriptor yX12_isDigit.desc).map (fun d => d.parameters.length) = some 1 by decide +kernel) rfl (fun _ _ _ => trivial) hl.1 (Nat.le_of_ble_eq_true rfl) (eX12_digits (20, .invokestatic 319, 3) (List.mem_of_getElem? (i := 12) rfl)) (fun w10 f10 => ?_)
        obtain ⟨v10, rfl, e10⟩ := f10
        refine ff_if_eq hx hb (eX12_digits (23, .ifCond .eq 29, 3) (List.mem_of_getElem? (i := 13) rfl)) (tgt := 52) rfl (fun c11 => ?_) (fun c11 => ?_)
        · have hdn : ¬ isD (byI T g.1) := by rcases e10 with h | h; exfalso; omega; rw [← e9]; exact h.2
          refine lv_aload_n hx hb (eX12_digits (52, .aload_n 0, 1) (List.mem_of_getElem? (i := 30) rfl)) rfl (lv_at hl 2 rfl) ?_
          refine tz_rowV (As := []) (st := []) (b := a) (C := RX12) (Ts := gT) hx hb hml hown h2 (fun _ h => h) (hX12_fail l D cA ro sz H0 a T (g) ha) ⟨rfl, rfl⟩ ⟨by decide, by decide⟩ ⟨by decide, by decide⟩ (tb_8 31 rfl rfl) (tb_1 12 rfl rfl) (tb_8 28 rfl rfl) (tb_8 30 rfl rfl) (tb_0 33 rfl rfl) (show yX12_fail.cls ≠ "java/lang/invoke/MethodHandle" ∧ yX12_fail.cls ≠ "java/lang/invoke/VarHandle" ∧ (parseMethodDescriptor yX12_fail.desc).map (fun d => d.parameters.length) = some 0 by decide +kernel) zs_blind (zs_ob hh9 ha (show RTg[11]? = some (0, 11, 0, fsX12) from rfl) (zCX12 hKn.1)) (fun U hU hW => ⟨rfl, by rw [hU]; exact hh9.l0, zKb s U hW.alike hKn, by rw [hU]; exact jl⟩) hh9.2.2.1 hl.1 (Nat.le_of_ble_eq_true rfl) (eX12_digits (53, .invokevirtual 316, 3) (List.mem_of_getElem? (i := 31) rfl)) (fun r12 s12 t12 lo12 g12 f12 l12 => ?_)
          obtain ⟨q12, z12, c12, j12⟩ := f12
          cases q12
          rw [g12] at c12
          have hh12 : zh_ok D cA RTg ro sz H0 t12.heap lo12 := ⟨z12.1, z12.2.1, l12, z12.2.2.2⟩
          have kp12 := kpl.trans (c12.mono (ms' := vM) (by decide))
          generalize hx12 : flG g = x12 at j12
          have uu12 := j12.2.2
          unfold vOK at uu12
          refine W.eq (g2 := F0 m 56 ls []) rfl ?_
          refine ff_iinc (k := 1) hx hb (eX12_digits (56, .iinc 3 1, 3) (List.mem_of_getElem? (i := 32) rfl)) hl rfl (by decide) (by decide) (by decide) (by omega) (by omega) (fun v13 e13 ls13 hl13 => ?_)
          refine lv_goto hx hb (eX12_digits (59, .goto (-55), 3) (List.mem_of_getElem? (i := 33) rfl)) (tgt := 4) rfl ?_
          exact ih (i + 1) v13 vv x12 ls13 _ _ (by omega) (by omega) ⟨by omega, by show _ ≤ nB i * 10 + 9; omega⟩ (by rw [← htot]; show _ = (if _ then (if _ then _ else _) else _ : Int × uS); rw [if_pos (by omega), if_neg hdn, hx12]) hh12 kp12 j12 (lv_sub hl13 [1, 0, 2, 3] rfl)
        · have hdg : isD (byI T g.1) := by rcases e10 with h | h; rw [← e9]; exact h.2; exfalso; omega
          have hd8 := hdg.1
          have hd9 := hdg.2
          refine ff_bipush hx hb (eX12_digits (26, .bipush 10, 2) (List.mem_of_getElem? (i := 14) rfl)) (by decide) (by decide) (fun v14 e14 => ?_)
          refine lv_iload_n hx hb (eX12_digits (28, .iload_n 2, 1) (List.mem_of_getElem? (i := 15) rfl)) rfl (lv_at hl 0 rfl) ?_
          refine ff_imulL hx hb (eX12_digits (29, .imul, 1) (List.mem_of_getElem? (i := 16) rfl)) (e14) (by omega) (by omega) (fun v15 e15 => ?_)
          refine lv_aload_n hx hb (eX12_digits (30, .aload_n 0, 1) (List.mem_of_getElem? (i := 17) rfl)) rfl (lv_at hl 2 rfl) ?_
          refine tz_rowV (As := []) (st := [.int v15]) (b := a) (C := RX12) (Ts := gT) hx hb hml hown h2 (fun _ h => h) (hX12_sign l D cA ro sz H0 a T (g) ha) ⟨rfl, rfl⟩ ⟨by decide, by decide⟩ ⟨by decide, by decide⟩ (tb_8 21 rfl rfl) (tb_1 12 rfl rfl) (tb_8 18 rfl rfl) (tb_8 20 rfl rfl) (tb_0 32 rfl rfl) (show yX12_sign.cls ≠ "java/lang/invoke/MethodHandle" ∧ yX12_sign.cls ≠ "java/lang/invoke/VarHandle" ∧ (parseMethodDescriptor yX12_sign.desc).map (fun d => d.parameters.length) = some 0 by decide +kernel) zs_blind (zs_ob hh9 ha (show RTg[11]? = some (0, 11, 0, fsX12) from rfl) (zCX12 hKn.1)) (fun U hU hW => ⟨rfl, by rw [hU]; exact hh9.l0, zKb s U hW.alike hKn, by rw [hU]; exact jl⟩) hh9.2.2.1 hl.1 (Nat.le_of_ble_eq_true rfl) (eX12_digits (31, .invokevirtual 309, 3) (List.mem_of_getElem? (i := 18) rfl)) (fun r16 s16 t16 lo16 g16 f16 l16 => ?_)
          obtain ⟨z16, v16, q16, e16⟩ := f16
          cases q16
          rw [z16, g16]
          have hh16 : zh_ok D cA RTg ro sz H0 H lo16 := ⟨hh9.1, hh9.2.1, l16, hh9.2.2.2⟩
          refine W.eq (g2 := F0 m 34 ls [.int v16, .int v15]) rfl ?_
          refine ff_iadd hx hb (eX12_digits (34, .iadd, 1) (List.mem_of_getElem? (i := 19) rfl)) (by omega) (by omega) (fun v17 e17 => ?_)
          refine ff_bipush hx hb (eX12_digits (35, .bipush 48, 2) (List.mem_of_getElem? (i := 20) rfl)) (by decide) (by decide) (fun v18 e18 => ?_)
          refine ff_isub hx hb (eX12_digits (37, .isub, 1) (List.mem_of_getElem? (i := 21) rfl)) (by omega) (by omega) (fun v19 e19 => ?_)
          refine lv_istore_n hx hb (eX12_digits (38, .istore_n 2, 1) (List.mem_of_getElem? (i := 22) rfl)) rfl hl (by decide) rfl (fun ls20 hl20 => ?_)
          refine lv_aload_n hx hb (eX12_digits (39, .aload_n 0, 1) (List.mem_of_getElem? (i := 23) rfl)) rfl (lv_at hl20 2 rfl) ?_
          refine lv_dup hx hb (eX12_digits (40, .dup, 1) (List.mem_of_getElem? (i := 24) rfl)) rfl ?_
          obtain ⟨jt21, ⟨av21, fv21, bv21, f2921, f3021, f3121, hav21, hfv21, hbv21⟩, hu21⟩ := id jl
          have hw21 := hu21
          unfold vOK at hw21
          obtain ⟨tb21, n21, z21, f1221, r021, f1321, hn21, hc21, hz21⟩ := id jt21
          refine tz_get (r := 11) (k := 29) (t := (0, 0, 120)) hx hb hh16 ha rfl rfl (hcl11 293 29 (0, 0, 120) (by decide) rfl).1 f2921 (eX12_digits (41, .getfield 293, 3) (List.mem_of_getElem? (i := 25) rfl)) ?_
          refine ff_iconst hx hb (eX12_digits (44, .iconst 1, 1) (List.mem_of_getElem? (i := 26) rfl)) (by decide) (by decide) (fun v22 e22 => ?_)
          refine ff_iadd hx hb (eX12_digits (45, .iadd, 1) (List.mem_of_getElem? (i := 27) rfl)) (by omega) (by omega) (fun v23 e23 => ?_)
          have hlt24 : 0 ≤ v23.toInt ∧ v23.toInt ≤ 120 := by first | omega | (have h9 := byI_lt (T := T) (a := g.1) (by omega) (by first | omega | exact isD_nn hdg | exact isN_nn hN); omega)
          refine tz_put (r := 11) (k := 29) (t := (0, 0, 120)) hx hb hD hh16 ha rfl rfl ((hcl11 293 29 (0, 0, 120) (by decide) rfl).2 (by decide)) (tz_i (by omega) (by omega)) (eX12_digits (46, .putfield 293, 3) (List.mem_of_getElem? (i := 28) rfl)) (fun H25 lo25 hh25 hf25 hk25 _ hq25 => ?_)
          have mf25_a_30 := (hk25.1 a 11 30 11 0 fsX12 ha rfl (by decide) (by decide)).trans f3021
          have mf25_a_31 := (hk25.1 a 11 31 11 0 fsX12 ha rfl (by decide) (by decide)).trans f3121
          have mf25_a_13 := (hk25.1 a 11 13 11 0 fsX12 ha rfl (by decide) (by decide)).trans f1321
          have kp25 := kpl.trans (hk25.mono (ms' := vM) (fun x hx => by cases List.mem_singleton.mp hx; decide))
          have jm25 := (jl.1).kept ha hk25 (by decide) (by decide) (by decide)
          refine lv_goto hx hb (eX12_digits (49, .goto 7, 3) (List.mem_of_getElem? (i := 29) rfl)) (tgt := 56) rfl ?_
          refine ff_iinc (k := 1) hx hb (eX12_digits (56, .iinc 3 1, 3) (List.mem_of_getElem? (i := 32) rfl)) hl20 rfl (by decide) (by decide) (by decide) (by omega) (by omega) (fun v26 e26 ls26 hl26 => ?_)
          refine lv_goto hx hb (eX12_digits (59, .goto (-55), 3) (List.mem_of_getElem? (i := 33) rfl)) (tgt := 4) rfl ?_
          exact ih (i + 1) v26 v19 (g.1 + 1, g.2) ls26 _ _ (by omega) (by omega) ⟨by have h8 := hdg.1; have h9 := hdg.2; omega, by show _ ≤ nB i * 10 + 9; have h8 := hdg.1; have h9 := hdg.2; omega⟩ (by rw [← htot]; show _ = (if _ then (if _ then _ else _) else _ : Int × uS); rw [if_pos (by omega), if_pos hdg, show v19.toInt = 10 * vv.toInt + byI T g.1 - 48 by omega]) hh25 kp25 ⟨jm25, ⟨_, _, _, hf25, mf25_a_30, mf25_a_31, by show _ = g.1 + 1; omega, by first | assumption | omega, by first | assumption | omega⟩, adG_ok jl.2.2 (isD_nn hdg)⟩ (lv_sub hl26 [1, 0, 2, 3] rfl)
  exact loop m0 0 v3 v1 sg ls4 _ _ (by omega) (by omega) ⟨by omega, by show _ ≤ (0 : Int); omega⟩ (by rw [show v1.toInt = 0 by omega]) hh kp0 hJ (lv_sub hl4 [1, 0, 2, 3] rfl)
theorem gset_z {z : Nat → Value} {n k : Nat} {g h : fN} {vv : Int64} (hn : n ≤ 1) (hk : k < 32) (hz : ∀ k, k < 32 → (∃ v : Int64, z (32 * n + k) = .long v ∧ v.toInt = g k) ∧ ∃ w : Int64, z (32 * (1 - n) + k) = .long w ∧ w.toInt = h k) : ∀ j, j < 32 → (∃ v : Int64, updV z (32 * n + k) (.long vv) (32 * n + j) = .long v ∧ v.toInt = upF g k vv.toInt j) ∧ ∃ w : Int64, updV z (32 * n + k) (.long vv) (32 * (1 - n) + j) = .long w ∧ w.toInt = h j := by
  intro j hj
  obtain ⟨⟨v, v1, v2⟩, w, w1, w2⟩ := hz j hj
  refine ⟨?_, w, ?_, w2⟩
  · by_cases e : j = k
    · subst e
      exact ⟨vv, by simp [updV], by rw [up_eq]⟩
    · refine ⟨v, ?_, by rw [up_ne e]; exact v2⟩
      rw [← v1]
      unfold updV
      rw [if_neg (by omega)]
  · rw [← w1]
    unfold updV
    rw [if_neg (by omega)]
set_option maxRecDepth 100000 in
set_option maxHeartbeats 4000000 in
theorem hX12_set (l : Launch) (D : va_G) (cA : Nat → ClassId) (ro : Nat → Option Nat) (sz : Nat) (H0 : Heap) (a : Nat) (wv : Int32) (vv : Int64) (k : Nat) (n : Nat) (g h : fN) (ha : ro a = some 11) (hn1 : n ≤ 1) (hk1 : wv.toInt = (k : Int)) (hk2 : k < 32) : Met l yX12_set (gW yX12_set cX12_set 4 none) { frames := 0, cells := 0, slots := 0, locals := 0 } (zs_P D cA ro sz H0 (fun H => jG D cA ro H a n g h) [.ref a, .int wv, .long vv]) (fun _ st oc t => oc = .returned none ∧ zh_ok D cA RTg ro sz H0 t.heap [] ∧ zc_kept D RTg ro [(36, 0)] st.heap t.heap ∧ jG D cA ro t.heap a n (upF g k vv.toInt) h) 0 0 (zy_fr sz) := by
  refine zy_ofW (cc := cX12_set) (maxL := 4) (ret := none) (by decide +kernel) rfl ?_
  intro p e s m args below meth c s1 B hml hv
  obtain ⟨rfl, hh, hKn, hJ⟩ := hv
  have hx := B.exec
  have hb := B.bytes
  have hr := B.returns
  have hlk := B.notSynchronized
  have hts0 := atoms_spec (ws := gW yX12_set cX12_set 4 none) B.pre
  have h2 : ∀ w ∈ gT, w.before ([.ref a, .int wv, .long vv] : List Value).toArray s = true := fun w hw => hts0 w (List.mem_cons_of_mem _ hw)
  have hown : s.vm.findClass RX12 = some m.cls := findClass_of_methodNamed B.named
  have hl := lv_entry [.ref a, .int wv, .long vv] (n := 4) (Nat.le_of_ble_eq_true rfl)
  rw [lg_entry_eq]
  generalize (lg_sl [.ref a, .int wv, .long vv] ++ List.replicate (4 - (lg_sl [.ref a, .int wv, .long vv]).length) Slot.unset).toArray = ls at hl ⊢
  have b_wv := zn_i32 wv
  have b_vv := zn_i64 vv
  have hD := zD_all h2 hKn.1
  have hcl11 := fun (idx k : Nat) (t : zt_T) (h : (idx, 11, k) ∈ gfX12) (hk : fsX12[k]? = some t) => zf_clause (ro := ro) (ms := [(36, 0)]) h2 hown hKn.1 gfX12_ok (by decide +kernel) idx 11 k 11 0 fsX12 t h rfl hk
  have kp0 : zc_kept D RTg ro [(36, 0)] s.heap s.heap := zc_kept.refl
  obtain ⟨ga, z, nv, f34, rga, hc, hz, f36, hnv⟩ := id hJ
  obtain ⟨-, z9, c9, hy9⟩ := zh_arr hh rga (show RTg[36]? = some (1, 1, 64, [(1, (-9223372036854775808), 9223372036854775807)]) from rfl)
  have hy : ∀ i, i < 64 → zt_ok ro (z i) (1, (-9223372036854775808), 9223372036854775807) := zs_arr (hc.symm.trans c9) hy9
  refine lv_aload_n hx hb (eX12_set (0, .aload_n 0, 1) (List.mem_of_getElem? (i := 0) rfl)) rfl (lv_at hl 0 rfl) ?_
  refine tz_get (r := 11) (k := 34) (t := (76, 0, 0)) hx hb hh ha rfl rfl (hcl11 59 34 (76, 0, 0) (by decide) rfl).1 f34 (eX12_set (1, .getfield 59, 3) (List.mem_of_getElem? (i := 1) rfl)) ?_
  refine ff_bipush hx hb (eX12_set (4, .bipush 32, 2) (List.mem_of_getElem? (i := 2) rfl)) (by decide) (by decide) (fun v1 e1 => ?_)
  refine lv_aload_n hx hb (eX12_set (6, .aload_n 0, 1) (List.mem_of_getElem? (i := 3) rfl)) rfl (lv_at hl 0 rfl) ?_
  refine tz_get (r := 11) (k := 36) (t := (0, 0, 3)) hx hb hh ha rfl rfl (hcl11 354 36 (0, 0, 3) (by decide) rfl).1 f36 (eX12_set (7, .getfield 354, 3) (List.mem_of_getElem? (i := 4) rfl)) ?_
  refine ff_imulL hx hb (eX12_set (10, .imul, 1) (List.mem_of_getElem? (i := 5) rfl)) (e1) (by omega) (by omega) (fun v2 e2 => ?_)
  refine lv_iload_n hx hb (eX12_set (11, .iload_n 1, 1) (List.mem_of_getElem? (i := 6) rfl)) rfl (lv_at hl 1 rfl) ?_
  refine ff_iadd hx hb (eX12_set (12, .iadd, 1) (List.mem_of_getElem? (i := 7) rfl)) (by omega) (by omega) (fun v3 e3 => ?_)
  refine lv_lload_n hx hb (eX12_set (13, .lload_n 2, 1) (List.mem_of_getElem? (i := 8) rfl)) rfl (lv_at hl 2 rfl) ?_
  refine tz_last hx hb (zAr hKn.1 1 (by decide)) hh rga (show RTg[36]? = some (1, 1, 64, [(1, (-9223372036854775808), 9223372036854775807)]) from rfl) hc hy (by omega) (by omega) (tz_l (zn_i64 _).1 (zn_i64 _).2) (eX12_set (14, .lastore, 1) (List.mem_of_getElem? (i := 9) rfl)) (fun H4 lo4 hh4 hc4 hk4 hq4 _ => ?_)
  have mf4_a_34 := (hk4.1 a 11 34 11 0 fsX12 ha rfl (by decide) (by decide)).trans f34
  have mf4_a_36 := (hk4.1 a 11 36 11 0 fsX12 ha rfl (by decide) (by decide)).trans f36
  have kp4 := kp0.trans (hk4.mono (ms' := [(36, 0)]) (fun x hx => by cases List.mem_singleton.mp hx; decide))
  have hix : v3.toNatClampNeg = 32 * n + k := by show v3.toInt.toNat = _; omega
  rw [hix] at hc4
  exact W.vret hx hb hr (fun t ht hW => ⟨rfl, by rw [ht]; exact hh4.l0, by rw [ht]; exact kp4, by rw [ht]; exact ⟨ga, _, nv, mf4_a_34, rga, hc4, gset_z hn1 hk2 hz, mf4_a_36, hnv⟩⟩) hh4.2.2.1 (eX12_set (15, .return_, 1) (List.mem_of_getElem? (i := 10) rfl))
set_option maxRecDepth 100000 in
set_option maxHeartbeats 4000000 in
theorem hX12_get (l : Launch) (D : va_G) (cA : Nat → ClassId) (ro : Nat → Option Nat) (sz : Nat) (H0 : Heap) (a : Nat) (wv : Int32) (k : Nat) (n : Nat) (g h : fN) (ha : ro a = some 11) (hn1 : n ≤ 1) (hk1 : wv.toInt = (k : Int)) (hk2 : k < 32) : Met l yX12_get (gW yX12_get cX12_get 2 (some .long)) { frames := 0, cells := 0, slots := 0, locals := 0 } (zs_P D cA ro sz H0 (fun H => jG D cA ro H a n g h) [.ref a, .int wv]) (fun _ st oc t => t.heap = st.heap ∧ ∃ r : Int64, oc = .returned (some (.long r)) ∧ r.toInt = g k) 0 0 (zy_fr sz) := by
  refine zy_ofW (cc := cX12_get) (maxL := 2) (ret := (some .long)) (by decide +kernel) rfl ?_
  intro p e s m args below meth c s1 B hml hv
  obtain ⟨rfl, hh, hKn, hJ⟩ := hv
  have hx := B.exec
  have hb := B.bytes
  have hr := B.returns
  have hlk := B.notSynchronized
  have hts0 := atoms_spec (ws := gW yX12_get cX12_get 2 (some .long)) B.pre
  have h2 : ∀ w ∈ gT, w.before ([.ref a, .int wv] : List Value).toArray s = true := fun w hw => hts0 w (List.mem_cons_of_mem _ hw)
  have hown : s.vm.findClass RX12 = some m.cls := findClass_of_methodNamed B.named
  have hl := lv_entry [.ref a, .int wv] (n := 2) (Nat.le_of_ble_eq_true rfl)
  rw [lg_entry_eq]
  generalize (lg_sl [.ref a, .int wv] ++ List.replicate (2 - (lg_sl [.ref a, .int wv]).length) Slot.unset).toArray = ls at hl ⊢
  have b_wv := zn_i32 wv
  have hD := zD_all h2 hKn.1
  have hcl11 := fun (idx k : Nat) (t : zt_T) (h : (idx, 11, k) ∈ gfX12) (hk : fsX12[k]? = some t) => zf_clause (ro := ro) (ms := []) h2 hown hKn.1 gfX12_ok (by decide +kernel) idx 11 k 11 0 fsX12 t h rfl hk
  have kp0 : zc_kept D RTg ro [] s.heap s.heap := zc_kept.refl
  obtain ⟨ga, z, nv, f34, rga, hc, hz, f36, hnv⟩ := id hJ
  obtain ⟨-, z9, c9, hy9⟩ := zh_arr hh rga (show RTg[36]? = some (1, 1, 64, [(1, (-9223372036854775808), 9223372036854775807)]) from rfl)
  have hy : ∀ i, i < 64 → zt_ok ro (z i) (1, (-9223372036854775808), 9223372036854775807) := zs_arr (hc.symm.trans c9) hy9
  refine lv_aload_n hx hb (eX12_get (0, .aload_n 0, 1) (List.mem_of_getElem? (i := 0) rfl)) rfl (lv_at hl 0 rfl) ?_
  refine tz_get (r := 11) (k := 34) (t := (76, 0, 0)) hx hb hh ha rfl rfl (hcl11 59 34 (76, 0, 0) (by decide) rfl).1 f34 (eX12_get (1, .getfield 59, 3) (List.mem_of_getElem? (i := 1) rfl)) ?_
  refine ff_bipush hx hb (eX12_get (4, .bipush 32, 2) (List.mem_of_getElem? (i := 2) rfl)) (by decide) (by decide) (fun v1 e1 => ?_)
  refine lv_aload_n hx hb (eX12_get (6, .aload_n 0, 1) (List.mem_of_getElem? (i := 3) rfl)) rfl (lv_at hl 0 rfl) ?_
  refine tz_get (r := 11) (k := 36) (t := (0, 0, 3)) hx hb hh ha rfl rfl (hcl11 354 36 (0, 0, 3) (by decide) rfl).1 f36 (eX12_get (7, .getfield 354, 3) (List.mem_of_getElem? (i := 4) rfl)) ?_
  refine ff_imulL hx hb (eX12_get (10, .imul, 1) (List.mem_of_getElem? (i := 5) rfl)) (e1) (by omega) (by omega) (fun v2 e2 => ?_)
  refine lv_iload_n hx hb (eX12_get (11, .iload_n 1, 1) (List.mem_of_getElem? (i := 6) rfl)) rfl (lv_at hl 1 rfl) ?_
  refine ff_iadd hx hb (eX12_get (12, .iadd, 1) (List.mem_of_getElem? (i := 7) rfl)) (by omega) (by omega) (fun v3 e3 => ?_)
  refine tz_lald hx hb (zAr hKn.1 1 (by decide)) hc (by omega) (by omega) (eX12_get (13, .laload, 1) (List.mem_of_getElem? (i := 8) rfl)) ?_
  obtain ⟨⟨v4, hz4, e4⟩, -⟩ := hz k hk2
  rw [show v3.toNatClampNeg = 32 * n + k by show v3.toInt.toNat = _; omega, hz4]
  exact W.lret hx hb hr (fun t ht hW => ⟨ht, _, rfl, by omega⟩) hh.2.2.1 (eX12_get (14, .lreturn, 1) (List.mem_of_getElem? (i := 9) rfl))
set_option maxRecDepth 100000 in
set_option maxHeartbeats 4000000 in
theorem hX12_dateNumber (l : Launch) (D : va_G) (cA : Nat → ClassId) (ro : Nat → Option Nat) (sz : Nat) (H0 : Heap) (a : Nat) (wv : Int32) (dv : Int32) (k m0 : Nat) (T : List Int) (sg : uS) (n : Nat) (g h : fN) (ha : ro a = some 11) (hn1 : n ≤ 1) (hT : (T.length : Int) ≤ 120) (hk1 : wv.toInt = (k : Int)) (hm0 : dv.toInt = (m0 : Int)) (hk2 : k < 31) (hm3 : m0 ≤ 3) : Met l yX12_dateNumber (gW yX12_dateNumber cX12_dateNumber 3 none) { frames := 2, cells := 0, slots := 0, locals := 43 } (zs_P D cA ro sz H0 (fun H => jV D cA ro H a T sg ∧ jG D cA ro H a n g h) [.ref a, .int wv, .int dv]) (rg_V D cA ro sz H0 gN a n T h (nuG T k m0 (g, sg))) 0 0 (zy_fr sz) := by
  refine zy_ofW (cc := cX12_dateNumber) (maxL := 3) (ret := none) (by decide +kernel) rfl ?_
  intro p e s m args below meth c s1 B hml hv
  obtain ⟨rfl, hh, hKn, hJ⟩ := hv
  have hx := B.exec
  have hb := B.bytes
  have hr := B.returns
  have hlk := B.notSynchronized
  have hts0 := atoms_spec (ws := gW yX12_dateNumber cX12_dateNumber 3 none) B.pre
  have h2 : ∀ w ∈ gT, w.before ([.ref a, .int wv, .int dv] : List Value).toArray s = true := fun w hw => hts0 w (List.mem_cons_of_mem _ hw)
  have hown : s.vm.findClass RX12 = some m.cls := findClass_of_methodNamed B.named
  have hl := lv_entry [.ref a, .int wv, .int dv] (n := 3) (Nat.le_of_ble_eq_true rfl)
  rw [lg_entry_eq]
  generalize (lg_sl [.ref a, .int wv, .int dv] ++ List.replicate (3 - (lg_sl [.ref a, .int wv, .int dv]).length) Slot.unset).toArray = ls at hl ⊢
  have b_wv := zn_i32 wv
  have b_dv := zn_i32 dv
  have hD := zD_all h2 hKn.1
  have hcl11 := fun (idx k : Nat) (t : zt_T) (h : (idx, 11, k) ∈ gfX12) (hk : fsX12[k]? = some t) => zf_clause (ro := ro) (ms := gN) h2 hown hKn.1 gfX12_ok (by decide +kernel) idx 11 k 11 0 fsX12 t h rfl hk
  have kp0 : zc_kept D RTg ro gN s.heap s.heap := zc_kept.refl
  obtain ⟨jv0, jg0⟩ := hJ
  have hu := jv0.2.2
  unfold vOK at hu
  have hbb := byI_bd T sg.1
  refine lv_aload_n hx hb (eX12_dateNumber (0, .aload_n 0, 1) (List.mem_of_getElem? (i := 0) rfl)) rfl (lv_at hl 0 rfl) ?_
  refine lv_iload_n hx hb (eX12_dateNumber (1, .iload_n 1, 1) (List.mem_of_getElem? (i := 1) rfl)) rfl (lv_at hl 1 rfl) ?_
  refine ff_iconst hx hb (eX12_dateNumber (2, .iconst 1, 1) (List.mem_of_getElem? (i := 2) rfl)) (by decide) (by decide) (fun v1 e1 => ?_)
  refine ff_iadd hx hb (eX12_dateNumber (3, .iadd, 1) (List.mem_of_getElem? (i := 3) rfl)) (by omega) (by omega) (fun v2 e2 => ?_)
  refine lv_aload_n hx hb (eX12_dateNumber (4, .aload_n 0, 1) (List.mem_of_getElem? (i := 4) rfl)) rfl (lv_at hl 0 rfl) ?_
  obtain ⟨jt3, ⟨av3, fv3, bv3, f293, f303, f313, hav3, hfv3, hbv3⟩, hu3⟩ := id jv0
  refine tz_get (r := 11) (k := 29) (t := (0, 0, 120)) hx hb hh ha rfl rfl (hcl11 293 29 (0, 0, 120) (by decide) rfl).1 f293 (eX12_dateNumber (5, .getfield 293, 3) (List.mem_of_getElem? (i := 5) rfl)) ?_
  refine ff_i2l hx hb (eX12_dateNumber (8, .i2l, 1) (List.mem_of_getElem? (i := 6) rfl)) (fun v4 e4 => ?_)
  refine tz_rowV (As := [.int v2, .long v4]) (st := []) (b := a) (C := RX12) (Ts := gT) hx hb hml hown h2 (fun _ h => h) (hX12_set l D cA ro sz H0 a v2 v4 (k + 1) n g h ha hn1 (by omega) (by omega)) ⟨rfl, rfl⟩ ⟨by decide, by decide⟩ ⟨by decide, by decide⟩ (tb_8 72 rfl rfl) (tb_1 12 rfl rfl) (tb_8 69 rfl rfl) (tb_8 71 rfl rfl) (tb_0 42 rfl rfl) (show yX12_set.cls ≠ "java/lang/invoke/MethodHandle" ∧ yX12_set.cls ≠ "java/lang/invoke/VarHandle" ∧ (parseMethodDescriptor yX12_set.desc).map (fun d => d.parameters.length) = some 2 by decide +kernel) zs_blind (zs_ob hh ha (show RTg[11]? = some (0, 11, 0, fsX12) from rfl) (zCX12 hKn.1)) (fun U hU hW => ⟨rfl, by rw [hU]; exact hh.l0, zKb s U hW.alike hKn, by rw [hU]; exact jg0⟩) hh.2.2.1 hl.1 (Nat.le_of_ble_eq_true rfl) (eX12_dateNumber (9, .invokevirtual 357, 3) (List.mem_of_getElem? (i := 7) rfl)) (fun r5 s5 t5 lo5 g5 f5 l5 => ?_)
  obtain ⟨q5, z5, c5, jg5⟩ := f5
  cases q5
  rw [g5] at c5
  have hh5 : zh_ok D cA RTg ro sz H0 t5.heap lo5 := ⟨z5.1, z5.2.1, l5, z5.2.2.2⟩
  have kp5 := kp0.trans (c5.mono (ms' := gN) (by decide))
  have jg5 : jG D cA ro t5.heap a n (upF g (k + 1) (sg.1)) h := by rw [← show v4.toInt = sg.1 by omega]; exact jg5
  have jv5 := jv0.kept ha c5 (by decide)
  refine W.eq (g2 := F0 m 12 ls []) rfl ?_
  refine lv_aload_n hx hb (eX12_dateNumber (12, .aload_n 0, 1) (List.mem_of_getElem? (i := 8) rfl)) rfl (lv_at hl 0 rfl) ?_
  refine lv_iload_n hx hb (eX12_dateNumber (13, .iload_n 1, 1) (List.mem_of_getElem? (i := 9) rfl)) rfl (lv_at hl 1 rfl) ?_
  refine lv_aload_n hx hb (eX12_dateNumber (14, .aload_n 0, 1) (List.mem_of_getElem? (i := 10) rfl)) rfl (lv_at hl 0 rfl) ?_
  refine lv_iload_n hx hb (eX12_dateNumber (15, .iload_n 2, 1) (List.mem_of_getElem? (i := 11) rfl)) rfl (lv_at hl 2 rfl) ?_
  refine tz_rowV (As := [.int dv]) (st := [.int wv, .ref a]) (b := a) (C := RX12) (Ts := gT) hx hb hml hown h2 (fun _ h => h) (hX12_digitsW l D cA ro sz H0 a dv m0 T (sg) ha (by omega) (by omega)) ⟨rfl, rfl⟩ ⟨by decide, by decide⟩ ⟨by decide, by decide⟩ (tb_8 43 rfl rfl) (tb_1 12 rfl rfl) (tb_8 40 rfl rfl) (tb_8 42 rfl rfl) (tb_0 36 rfl rfl) (show yX12_digits.cls ≠ "java/lang/invoke/MethodHandle" ∧ yX12_digits.cls ≠ "java/lang/invoke/VarHandle" ∧ (parseMethodDescriptor yX12_digits.desc).map (fun d => d.parameters.length) = some 1 by decide +kernel) zs_blind (zs_ob hh5 ha (show RTg[11]? = some (0, 11, 0, fsX12) from rfl) (zCX12 hKn.1)) (fun U hU hW => ⟨rfl, by rw [hU]; exact hh5.l0, zKb s U hW.alike hKn, by rw [hU]; exact jv5⟩) hh5.2.2.1 hl.1 (Nat.le_of_ble_eq_true rfl) (eX12_dateNumber (16, .invokevirtual 331, 3) (List.mem_of_getElem? (i := 12) rfl)) (fun r6 s6 t6 lo6 g6 f6 l6 => ?_)
  obtain ⟨v6, q6, e6, z6, c6, jv6⟩ := f6
  cases q6
  rw [g6] at c6
  have hh6 : zh_ok D cA RTg ro sz H0 t6.heap lo6 := ⟨z6.1, z6.2.1, l6, z6.2.2.2⟩
  have kp6 := kp5.trans (c6.mono (ms' := gN) (by decide))
  generalize hx6 : dgG T m0 0 sg = x6 at jv6 e6
  have uu6 := jv6.2.2
  unfold vOK at uu6
  have bb6 := byI_bd T x6.2.1
  have jg6 := jg5.kept ha c6 (by decide)
  refine W.eq (g2 := F0 m 19 ls [.int v6, .int wv, .ref a]) rfl ?_
  refine ff_i2l hx hb (eX12_dateNumber (19, .i2l, 1) (List.mem_of_getElem? (i := 13) rfl)) (fun v7 e7 => ?_)
  refine tz_rowV (As := [.int wv, .long v7]) (st := []) (b := a) (C := RX12) (Ts := gT) hx hb hml hown h2 (fun _ h => h) (hX12_set l D cA ro sz H0 a wv v7 k n (upF g (k + 1) (sg.1)) h ha hn1 (by omega) (by omega)) ⟨rfl, rfl⟩ ⟨by decide, by decide⟩ ⟨by decide, by decide⟩ (tb_8 72 rfl rfl) (tb_1 12 rfl rfl) (tb_8 69 rfl rfl) (tb_8 71 rfl rfl) (tb_0 42 rfl rfl) (show yX12_set.cls ≠ "java/lang/invoke/MethodHandle" ∧ yX12_set.cls ≠ "java/lang/invoke/VarHandle" ∧ (parseMethodDescriptor yX12_set.desc).map (fun d => d.parameters.length) = some 2 by decide +kernel) zs_blind (zs_ob hh6 ha (show RTg[11]? = some (0, 11, 0, fsX12) from rfl) (zCX12 hKn.1)) (fun U hU hW => ⟨rfl, by rw [hU]; exact hh6.l0, zKb s U hW.alike hKn, by rw [hU]; exact jg6⟩) hh6.2.2.1 hl.1 (Nat.le_of_ble_eq_true rfl) (eX12_dateNumber (20, .invokevirtual 357, 3) (List.mem_of_getElem? (i := 14) rfl)) (fun r8 s8 t8 lo8 g8 f8 l8 => ?_)
  obtain ⟨q8, z8, c8, jg8⟩ := f8
  cases q8
  rw [g8] at c8
  have hh8 : zh_ok D cA RTg ro sz H0 t8.heap lo8 := ⟨z8.1, z8.2.1, l8, z8.2.2.2⟩
  have kp8 := kp6.trans (c8.mono (ms' := gN) (by decide))
  have jg8 : jG D cA ro t8.heap a n (upF (upF g (k + 1) (sg.1)) k (x6.1)) h := by rw [← show v7.toInt = x6.1 by omega]; exact jg8
  have jv8 := jv6.kept ha c8 (by decide)
  refine W.eq (g2 := F0 m 23 ls []) rfl ?_
  have hfin : nuG T k m0 (g, sg) = ((upF (upF g (k + 1) (sg.1)) k (x6.1)), x6.2) := by first | (simp only [nuG, hx6, up_eq]; done) | (simp only [nuG, hx6, up_eq] <;> rfl) | rfl
  exact W.vret hx hb hr (fun t ht hW => ⟨rfl, by rw [ht]; exact hh8.l0, by rw [ht]; exact kp8, by rw [ht, hfin]; exact jv8, by rw [ht, hfin]; exact jg8⟩) hh8.2.2.1 (eX12_dateNumber (23, .return_, 1) (List.mem_of_getElem? (i := 15) rfl))
set_option maxRecDepth 100000 in
set_option maxHeartbeats 4000000 in
theorem hX12_timeNumber (l : Launch) (D : va_G) (cA : Nat → ClassId) (ro : Nat → Option Nat) (sz : Nat) (H0 : Heap) (a : Nat) (wv : Int32) (k : Nat) (T : List Int) (sg : uS) (n : Nat) (g h : fN) (ha : ro a = some 11) (hn1 : n ≤ 1) (hT : (T.length : Int) ≤ 120) (hk1 : wv.toInt = (k : Int)) (hk2 : k < 31) : Met l yX12_timeNumber (gW yX12_timeNumber cX12_timeNumber 2 none) { frames := 2, cells := 0, slots := 0, locals := 43 } (zs_P D cA ro sz H0 (fun H => jV D cA ro H a T sg ∧ jG D cA ro H a n g h) [.ref a, .int wv]) (rg_V D cA ro sz H0 gN a n T h (nuG T k 2 (g, sg))) 0 0 (zy_fr sz) := by
  refine zy_ofW (cc := cX12_timeNumber) (maxL := 2) (ret := none) (by decide +kernel) rfl ?_
  intro p e s m args below meth c s1 B hml hv
  obtain ⟨rfl, hh, hKn, hJ⟩ := hv
  have hx := B.exec
  have hb := B.bytes
  have hr := B.returns
  have hlk := B.notSynchronized
  have hts0 := atoms_spec (ws := gW yX12_timeNumber cX12_timeNumber 2 none) B.pre
  have h2 : ∀ w ∈ gT, w.before ([.ref a, .int wv] : List Value).toArray s = true := fun w hw => hts0 w (List.mem_cons_of_mem _ hw)
  have hown : s.vm.findClass RX12 = some m.cls := findClass_of_methodNamed B.named
  have hl := lv_entry [.ref a, .int wv] (n := 2) (Nat.le_of_ble_eq_true rfl)
  rw [lg_entry_eq]
  generalize (lg_sl [.ref a, .int wv] ++ List.replicate (2 - (lg_sl [.ref a, .int wv]).length) Slot.unset).toArray = ls at hl ⊢
  have b_wv := zn_i32 wv
  have hD := zD_all h2 hKn.1
  have hcl11 := fun (idx k : Nat) (t : zt_T) (h : (idx, 11, k) ∈ gfX12) (hk : fsX12[k]? = some t) => zf_clause (ro := ro) (ms := gN) h2 hown hKn.1 gfX12_ok (by decide +kernel) idx 11 k 11 0 fsX12 t h rfl hk
  have kp0 : zc_kept D RTg ro gN s.heap s.heap := zc_kept.refl
  obtain ⟨jv0, jg0⟩ := hJ
  have hu := jv0.2.2
  unfold vOK at hu
  have hbb := byI_bd T sg.1
  refine lv_aload_n hx hb (eX12_timeNumber (0, .aload_n 0, 1) (List.mem_of_getElem? (i := 0) rfl)) rfl (lv_at hl 0 rfl) ?_
  refine lv_iload_n hx hb (eX12_timeNumber (1, .iload_n 1, 1) (List.mem_of_getElem? (i := 1) rfl)) rfl (lv_at hl 1 rfl) ?_
  refine ff_iconst hx hb (eX12_timeNumber (2, .iconst 1, 1) (List.mem_of_getElem? (i := 2) rfl)) (by decide) (by decide) (fun v1 e1 => ?_)
  refine ff_iadd hx hb (eX12_timeNumber (3, .iadd, 1) (List.mem_of_getElem? (i := 3) rfl)) (by omega) (by omega) (fun v2 e2 => ?_)
  refine lv_aload_n hx hb (eX12_timeNumber (4, .aload_n 0, 1) (List.mem_of_getElem? (i := 4) rfl)) rfl (lv_at hl 0 rfl) ?_
  obtain ⟨jt3, ⟨av3, fv3, bv3, f293, f303, f313, hav3, hfv3, hbv3⟩, hu3⟩ := id jv0
  refine tz_get (r := 11) (k := 29) (t := (0, 0, 120)) hx hb hh ha rfl rfl (hcl11 293 29 (0, 0, 120) (by decide) rfl).1 f293 (eX12_timeNumber (5, .getfield 293, 3) (List.mem_of_getElem? (i := 5) rfl)) ?_
  refine ff_i2l hx hb (eX12_timeNumber (8, .i2l, 1) (List.mem_of_getElem? (i := 6) rfl)) (fun v4 e4 => ?_)
  refine tz_rowV (As := [.int v2, .long v4]) (st := []) (b := a) (C := RX12) (Ts := gT) hx hb hml hown h2 (fun _ h => h) (hX12_set l D cA ro sz H0 a v2 v4 (k + 1) n g h ha hn1 (by omega) (by omega)) ⟨rfl, rfl⟩ ⟨by decide, by decide⟩ ⟨by decide, by decide⟩ (tb_8 72 rfl rfl) (tb_1 12 rfl rfl) (tb_8 69 rfl rfl) (tb_8 71 rfl rfl) (tb_0 42 rfl rfl) (show yX12_set.cls ≠ "java/lang/invoke/MethodHandle" ∧ yX12_set.cls ≠ "java/lang/invoke/VarHandle" ∧ (parseMethodDescriptor yX12_set.desc).map (fun d => d.parameters.length) = some 2 by decide +kernel) zs_blind (zs_ob hh ha (show RTg[11]? = some (0, 11, 0, fsX12) from rfl) (zCX12 hKn.1)) (fun U hU hW => ⟨rfl, by rw [hU]; exact hh.l0, zKb s U hW.alike hKn, by rw [hU]; exact jg0⟩) hh.2.2.1 hl.1 (Nat.le_of_ble_eq_true rfl) (eX12_timeNumber (9, .invokevirtual 357, 3) (List.mem_of_getElem? (i := 7) rfl)) (fun r5 s5 t5 lo5 g5 f5 l5 => ?_)
  obtain ⟨q5, z5, c5, jg5⟩ := f5
  cases q5
  rw [g5] at c5
  have hh5 : zh_ok D cA RTg ro sz H0 t5.heap lo5 := ⟨z5.1, z5.2.1, l5, z5.2.2.2⟩
  have kp5 := kp0.trans (c5.mono (ms' := gN) (by decide))
  have jg5 : jG D cA ro t5.heap a n (upF g (k + 1) (sg.1)) h := by rw [← show v4.toInt = sg.1 by omega]; exact jg5
  have jv5 := jv0.kept ha c5 (by decide)
  refine W.eq (g2 := F0 m 12 ls []) rfl ?_
  refine lv_aload_n hx hb (eX12_timeNumber (12, .aload_n 0, 1) (List.mem_of_getElem? (i := 8) rfl)) rfl (lv_at hl 0 rfl) ?_
  refine lv_iload_n hx hb (eX12_timeNumber (13, .iload_n 1, 1) (List.mem_of_getElem? (i := 9) rfl)) rfl (lv_at hl 1 rfl) ?_
  refine lv_aload_n hx hb (eX12_timeNumber (14, .aload_n 0, 1) (List.mem_of_getElem? (i := 10) rfl)) rfl (lv_at hl 0 rfl) ?_
  refine ff_iconst hx hb (eX12_timeNumber (15, .iconst 2, 1) (List.mem_of_getElem? (i := 11) rfl)) (by decide) (by decide) (fun v6 e6 => ?_)
  refine tz_rowV (As := [.int v6]) (st := [.int wv, .ref a]) (b := a) (C := RX12) (Ts := gT) hx hb hml hown h2 (fun _ h => h) (hX12_digitsW l D cA ro sz H0 a v6 2 T (sg) ha (by omega) (by decide)) ⟨rfl, rfl⟩ ⟨by decide, by decide⟩ ⟨by decide, by decide⟩ (tb_8 43 rfl rfl) (tb_1 12 rfl rfl) (tb_8 40 rfl rfl) (tb_8 42 rfl rfl) (tb_0 36 rfl rfl) (show yX12_digits.cls ≠ "java/lang/invoke/MethodHandle" ∧ yX12_digits.cls ≠ "java/lang/invoke/VarHandle" ∧ (parseMethodDescriptor yX12_digits.desc).map (fun d => d.parameters.length) = some 1 by decide +kernel) zs_blind (zs_ob hh5 ha (show RTg[11]? = some (0, 11, 0, fsX12) from rfl) (zCX12 hKn.1)) (fun U hU hW => ⟨rfl, by rw [hU]; exact hh5.l0, zKb s U hW.alike hKn, by rw [hU]; exact jv5⟩) hh5.2.2.1 hl.1 (Nat.le_of_ble_eq_true rfl) (eX12_timeNumber (16, .invokevirtual 331, 3) (List.mem_of_getElem? (i := 12) rfl)) (fun r7 s7 t7 lo7 g7 f7 l7 => ?_)
  obtain ⟨v7, q7, e7, z7, c7, jv7⟩ := f7
  cases q7
  rw [g7] at c7
  have hh7 : zh_ok D cA RTg ro sz H0 t7.heap lo7 := ⟨z7.1, z7.2.1, l7, z7.2.2.2⟩
  have kp7 := kp5.trans (c7.mono (ms' := gN) (by decide))
  have kf7 := dgG_w (T := T) (n := 2) (r := sg) (M := 99) (by decide)
  generalize hx7 : dgG T 2 0 sg = x7 at jv7 e7 kf7
  have uu7 := jv7.2.2
  unfold vOK at uu7
  have bb7 := byI_bd T x7.2.1
  have jg7 := jg5.kept ha c7 (by decide)
  refine W.eq (g2 := F0 m 19 ls [.int v7, .int wv, .ref a]) rfl ?_
  refine ff_i2l hx hb (eX12_timeNumber (19, .i2l, 1) (List.mem_of_getElem? (i := 13) rfl)) (fun v8 e8 => ?_)
  refine tz_rowV (As := [.int wv, .long v8]) (st := []) (b := a) (C := RX12) (Ts := gT) hx hb hml hown h2 (fun _ h => h) (hX12_set l D cA ro sz H0 a wv v8 k n (upF g (k + 1) (sg.1)) h ha hn1 (by omega) (by omega)) ⟨rfl, rfl⟩ ⟨by decide, by decide⟩ ⟨by decide, by decide⟩ (tb_8 72 rfl rfl) (tb_1 12 rfl rfl) (tb_8 69 rfl rfl) (tb_8 71 rfl rfl) (tb_0 42 rfl rfl) (show yX12_set.cls ≠ "java/lang/invoke/MethodHandle" ∧ yX12_set.cls ≠ "java/lang/invoke/VarHandle" ∧ (parseMethodDescriptor yX12_set.desc).map (fun d => d.parameters.length) = some 2 by decide +kernel) zs_blind (zs_ob hh7 ha (show RTg[11]? = some (0, 11, 0, fsX12) from rfl) (zCX12 hKn.1)) (fun U hU hW => ⟨rfl, by rw [hU]; exact hh7.l0, zKb s U hW.alike hKn, by rw [hU]; exact jg7⟩) hh7.2.2.1 hl.1 (Nat.le_of_ble_eq_true rfl) (eX12_timeNumber (20, .invokevirtual 357, 3) (List.mem_of_getElem? (i := 14) rfl)) (fun r9 s9 t9 lo9 g9 f9 l9 => ?_)
  obtain ⟨q9, z9, c9, jg9⟩ := f9
  cases q9
  rw [g9] at c9
  have hh9 : zh_ok D cA RTg ro sz H0 t9.heap lo9 := ⟨z9.1, z9.2.1, l9, z9.2.2.2⟩
  have kp9 := kp7.trans (c9.mono (ms' := gN) (by decide))
  have jg9 : jG D cA ro t9.heap a n (upF (upF g (k + 1) (sg.1)) k (x7.1)) h := by rw [← show v8.toInt = x7.1 by omega]; exact jg9
  have jv9 := jv7.kept ha c9 (by decide)
  refine W.eq (g2 := F0 m 23 ls []) rfl ?_
  have hfin : nuG T k 2 (g, sg) = ((upF (upF g (k + 1) (sg.1)) k (x7.1)), x7.2) := by first | (simp only [nuG, hx7, up_eq]; done) | (simp only [nuG, hx7, up_eq] <;> rfl) | rfl
  exact W.vret hx hb hr (fun t ht hW => ⟨rfl, by rw [ht]; exact hh9.l0, by rw [ht]; exact kp9, by rw [ht, hfin]; exact jv9, by rw [ht, hfin]; exact jg9⟩) hh9.2.2.1 (eX12_timeNumber (23, .return_, 1) (List.mem_of_getElem? (i := 15) rfl))
