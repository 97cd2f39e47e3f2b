theorem nameF_eq (T : List Int) (g : uS) : nameF T g = if (tkF T 60 g).1 = 1 then ndF T 62 (f3F (nlF T (tkF T 60 g).1 8 0 (tkF T 60 g).2)) else f3F (nlF T (tkF T 60 g).1 8 0 (tkF T 60 g).2) := by
  unfold nameF
  rcases tkF_01 T 60 g with h | h
  · rw [if_pos h, if_pos h, h]
  · rw [if_neg (by omega), if_neg (by omega), h.1]
def dM : List (Nat × Nat) := [(0, 2), (0, 3), (0, 4), (6, 0), (6, 1), (6, 2), (6, 3), (6, 4)]
def sM : List (Nat × Nat) := [(0, 2), (0, 3), (0, 4), (5, 2)]
def eqD (d d' : rD) : Prop := d.1 = d'.1 ∧ d.2.1 = d'.2.1 ∧ d.2.2.2.2 = d'.2.2.2.2 ∧ (d.1 = 0 → d.2.2.1 = d'.2.2.1 ∧ d.2.2.2.1 = d'.2.2.2.1)
def jRd (D : va_G) (H : Heap) (rd : Nat) (d : rD) : Prop := ∃ k n w v m : Int32, zh_f D H rd 6 0 = .int k ∧ zh_f D H rd 6 1 = .int n ∧ zh_f D H rd 6 2 = .int w ∧ zh_f D H rd 6 3 = .int v ∧ zh_f D H rd 6 4 = .int m ∧ eqD (k.toInt, n.toInt, w.toInt, v.toInt, m.toInt) d
theorem jRd.same {D : va_G} {H H' : Heap} {rd : Nat} {d : rD} (h : H'[rd]? = H[rd]?) (j : jRd D H rd d) : jRd D H' rd d := by
  obtain ⟨k, n, w, v, m, a, b, c, e, f, g⟩ := j
  exact ⟨k, n, w, v, m, zh_fq h a, zh_fq h b, zh_fq h c, zh_fq h e, zh_fq h f, g⟩
theorem jRd.kept {D : va_G} {ro : Nat → Option Nat} {H H' : Heap} {ms : List (Nat × Nat)} {rd : Nat} {d : rD} (hr : ro rd = some 6) (h : zc_kept D RTg ro ms H H') (hm : ∀ y ∈ [(6, 0), (6, 1), (6, 2), (6, 3), (6, 4)], y ∉ ms) (j : jRd D H rd d) : jRd D H' rd d := by
  obtain ⟨k, n, w, v, m, a, b, c, e, f, g⟩ := j
  exact ⟨k, n, w, v, m, (h.1 rd 6 0 6 0 fsX7 hr rfl (by decide) (hm _ (by decide))).trans a, (h.1 rd 6 1 6 0 fsX7 hr rfl (by decide) (hm _ (by decide))).trans b, (h.1 rd 6 2 6 0 fsX7 hr rfl (by decide) (hm _ (by decide))).trans c, (h.1 rd 6 3 6 0 fsX7 hr rfl (by decide) (hm _ (by decide))).trans e, (h.1 rd 6 4 6 0 fsX7 hr rfl (by decide) (hm _ (by decide))).trans f, g⟩
def rM : List (Nat × Nat) := [(0, 2), (0, 3), (0, 4), (5, 0), (5, 1), (5, 2), (6, 0), (6, 1), (6, 2), (6, 3), (6, 4)]
set_option maxRecDepth 100000 in
set_option maxHeartbeats 4000000 in
theorem hX6_scanSign (l : Launch) (D : va_G) (cA : Nat → ClassId) (ro : Nat → Option Nat) (sz : Nat) (H0 : Heap) (tx : Nat)  (T : List Int) (sg : uS) (htx : ro tx = some 0)  : Met l yX6_scanSign (gW yX6_scanSign cX6_scanSign 1 (some .int)) { frames := 2, cells := 0, slots := 0, locals := 41 } (zs_P D cA ro sz H0 (fun H => jU D cA ro H tx T sg) [.ref tx]) (ku_Q D cA ro sz H0 uM [tx] tx T (sgnF T sg)) 0 0 (zy_fr sz) := by
  refine zy_ofW (cc := cX6_scanSign) (maxL := 1) (ret := (some .int)) (by decide +kernel) rfl ?_
  intro p e s m args below meth c s1 B hml hv
  obtain ⟨rfl, hh, hKn, hJ⟩ := hv
  have hx := B.exec
  have hb := B.bytes
  have hr := B.returns
  have hlk := B.notSynchronized
  have hts0 := atoms_spec (ws := gW yX6_scanSign cX6_scanSign 1 (some .int)) B.pre
  have h2 : ∀ w ∈ gT, w.before ([.ref tx] : List Value).toArray s = true := fun w hw => hts0 w (List.mem_cons_of_mem _ hw)
  have hown : s.vm.findClass RX6 = some m.cls := findClass_of_methodNamed B.named
  have hl := lv_entry [.ref tx] (n := 1) (Nat.le_of_ble_eq_true rfl)
  rw [lg_entry_eq]
  generalize (lg_sl [.ref tx] ++ List.replicate (1 - (lg_sl [.ref tx]).length) Slot.unset).toArray = ls at hl ⊢
  have hD := zD_all h2 hKn.1
  have hcl0 := fun (idx k : Nat) (t : zt_T) (h : (idx, 0, k) ∈ gfX6) (hk : fsX0[k]? = some t) => zf_clause (ro := ro) (ms := uM) h2 hown hKn.1 gfX6_ok (by decide +kernel) idx 0 k 0 0 fsX0 t h rfl hk
  have kp0 : zc_kept D RTg ro uM s.heap s.heap := zc_kept.refl
  obtain ⟨hjt, ⟨av, bv, wv, f2, f3, f4, hav, hbv, hwv⟩, hu⟩ := id hJ
  obtain ⟨tb, n, z, f0, r0, f1, hn, hc, hz⟩ := id hjt
  obtain ⟨n9, g9, n1, n2⟩ := zh_fT (k := 1) (t := (0, 0, 120)) hh htx (show RTg[0]? = some (0, 0, 0, fsX0) from rfl) rfl
  cases f1.symm.trans g9
  dsimp only at n1 n2
  clear g9
  obtain ⟨-, z9, c9, hy9⟩ := zh_arr hh r0 (show RTg[12]? = some (1, 2, 120, [(0, (-128), 127)]) from rfl)
  have hy : ∀ i, i < 120 → zt_ok ro (z i) (0, (-128), 127) := zs_arr (hc.symm.trans c9) hy9
  obtain ⟨u1, u2, u3⟩ := id hu
  have fr0 : ∀ p9 : Nat, p9 ∉ [tx] → s.heap[p9]? = s.heap[p9]? := fun _ _ => rfl
  refine lv_aload_n hx hb (eX6_scanSign (0, .aload_n 0, 1) (List.mem_of_getElem? (i := 0) rfl)) rfl (lv_at hl 0 rfl) ?_
  refine ff_bipush hx hb (eX6_scanSign (1, .bipush 45, 2) (List.mem_of_getElem? (i := 1) rfl)) (by decide) (by decide) (fun v1 e1 => ?_)
  refine tz_rowV (As := [.int v1]) (st := []) (b := tx) (C := RX0) (Ts := gT) hx hb hml hown h2 (fun _ h => h) (hX0_take l D cA ro sz H0 tx v1 45 T (sg) htx (by omega) (by decide)) ⟨rfl, rfl⟩ ⟨by decide, by decide⟩ ⟨by decide, by decide⟩ (tb_4 8 rfl rfl) (tb_1 5 rfl rfl) (tb_4 5 rfl rfl) (tb_4 6 rfl rfl) (tb_4 7 rfl rfl) (show yX0_take.cls ≠ "java/lang/invoke/MethodHandle" ∧ yX0_take.cls ≠ "java/lang/invoke/VarHandle" ∧ (parseMethodDescriptor yX0_take.desc).map (fun d => d.parameters.length) = some 1 by decide +kernel) zs_blind (zs_ob hh htx (show RTg[0]? = some (0, 0, 0, fsX0) from rfl) (zCX0 hKn.1)) (fun U hU hW => ⟨rfl, by rw [hU]; exact hh.l0, zKb s U hW.alike hKn, by rw [hU]; exact hJ⟩) hh.2.2.1 hl.1 (Nat.le_of_ble_eq_true rfl) (eX6_scanSign (3, .invokevirtual 97, 3) (List.mem_of_getElem? (i := 2) rfl)) (fun r2 s2 t2 lo2 g2 f2 l2 => ?_)
  obtain ⟨v2, q2, e2, z2, c2, j2, fx2⟩ := f2
  cases q2
  rw [g2] at c2 fx2
  have fr2 : ∀ p9 : Nat, p9 ∉ [tx] → t2.heap[p9]? = s.heap[p9]? := fun p9 h9 => (fx2 p9 (fun q => h9 (by rw [List.mem_singleton.mp q]; exact List.mem_cons_self))).trans (fr0 p9 h9)
  have hh2 : zh_ok D cA RTg ro sz H0 t2.heap lo2 := ⟨z2.1, z2.2.1, l2, z2.2.2.2⟩
  have kp2 := kp0.trans (c2.mono (ms' := uM) (by decide))
  have kf2 := tkF_01 T 45 sg
  generalize hx2 : tkF T 45 sg = x2 at j2 e2 kf2
  have uu2 := j2.2.2
  unfold uOK at uu2
  have mf2_tx_0 := (c2.1 tx 0 0 0 0 fsX0 htx rfl (by decide) (by decide)).trans f0
  have mf2_tx_1 := (c2.1 tx 0 1 0 0 fsX0 htx rfl (by decide) (by decide)).trans f1
  refine W.eq (g2 := F0 m 6 ls [.int v2]) rfl ?_
  refine ff_if_eq hx hb (eX6_scanSign (6, .ifCond .eq 5, 3) (List.mem_of_getElem? (i := 3) rfl)) (tgt := 11) rfl (fun c3 => ?_) (fun c3 => ?_)
  · skip
    refine lv_aload_n hx hb (eX6_scanSign (11, .aload_n 0, 1) (List.mem_of_getElem? (i := 6) rfl)) rfl (lv_at hl 0 rfl) ?_
    refine ff_bipush hx hb (eX6_scanSign (12, .bipush 43, 2) (List.mem_of_getElem? (i := 7) rfl)) (by decide) (by decide) (fun v4 e4 => ?_)
    refine tz_rowV (As := [.int v4]) (st := []) (b := tx) (C := RX0) (Ts := gT) hx hb hml hown h2 (fun _ h => h) (hX0_take l D cA ro sz H0 tx v4 43 T (x2.2) htx (by omega) (by decide)) ⟨rfl, rfl⟩ ⟨by decide, by decide⟩ ⟨by decide, by decide⟩ (tb_4 8 rfl rfl) (tb_1 5 rfl rfl) (tb_4 5 rfl rfl) (tb_4 6 rfl rfl) (tb_4 7 rfl rfl) (show yX0_take.cls ≠ "java/lang/invoke/MethodHandle" ∧ yX0_take.cls ≠ "java/lang/invoke/VarHandle" ∧ (parseMethodDescriptor yX0_take.desc).map (fun d => d.parameters.length) = some 1 by decide +kernel) zs_blind (zs_ob hh2 htx (show RTg[0]? = some (0, 0, 0, fsX0) from rfl) (zCX0 hKn.1)) (fun U hU hW => ⟨rfl, by rw [hU]; exact hh2.l0, zKb s U hW.alike hKn, by rw [hU]; exact j2⟩) hh2.2.2.1 hl.1 (Nat.le_of_ble_eq_true rfl) (eX6_scanSign (14, .invokevirtual 97, 3) (List.mem_of_getElem? (i := 8) rfl)) (fun r5 s5 t5 lo5 g5 f5 l5 => ?_)
    obtain ⟨v5, q5, e5, z5, c5, j5, fx5⟩ := f5
    cases q5
    rw [g5] at c5 fx5
    have fr5 : ∀ p9 : Nat, p9 ∉ [tx] → t5.heap[p9]? = s.heap[p9]? := fun p9 h9 => (fx5 p9 (fun q => h9 (by rw [List.mem_singleton.mp q]; exact List.mem_cons_self))).trans (fr2 p9 h9)
    have hh5 : zh_ok D cA RTg ro sz H0 t5.heap lo5 := ⟨z5.1, z5.2.1, l5, z5.2.2.2⟩
    have kp5 := kp2.trans (c5.mono (ms' := uM) (by decide))
    have kf5 := tkF_01 T 43 x2.2
    generalize hx5 : tkF T 43 x2.2 = x5 at j5 e5 kf5
    have uu5 := j5.2.2
    unfold uOK at uu5
    have mf5_tx_0 := (c5.1 tx 0 0 0 0 fsX0 htx rfl (by decide) (by decide)).trans mf2_tx_0
    have mf5_tx_1 := (c5.1 tx 0 1 0 0 fsX0 htx rfl (by decide) (by decide)).trans mf2_tx_1
    refine W.eq (g2 := F0 m 17 ls [.int v5]) rfl ?_
    refine lv_pop hx hb (eX6_scanSign (17, .pop, 1) (List.mem_of_getElem? (i := 9) rfl)) rfl ?_
    refine ff_iconst hx hb (eX6_scanSign (18, .iconst 1, 1) (List.mem_of_getElem? (i := 10) rfl)) (by decide) (by decide) (fun v6 e6 => ?_)
    have hfin : sgnF T sg = (1, x5.2) := by unfold sgnF; rw [hx2, if_neg (by omega), hx5]
    exact W.zret hx hb hr rfl (fun t ht hW => ⟨_, rfl, by rw [hfin] <;> exact by show _ = (1 : Int); omega, by rw [ht]; exact hh5.l0, by rw [ht]; exact kp5, by rw [ht, hfin]; exact j5, by rw [ht]; exact fr5⟩) hh5.2.2.1 (eX6_scanSign (19, .ireturn, 1) (List.mem_of_getElem? (i := 11) rfl))
  · skip
    refine ff_iconst hx hb (eX6_scanSign (9, .iconst (-1), 1) (List.mem_of_getElem? (i := 4) rfl)) (by decide) (by decide) (fun v7 e7 => ?_)
    have hfin : sgnF T sg = (-1, x2.2) := by unfold sgnF; rw [hx2, if_pos (by omega)]
    exact W.zret hx hb hr rfl (fun t ht hW => ⟨_, rfl, by rw [hfin] <;> exact by show _ = (-1 : Int); omega, by rw [ht]; exact hh2.l0, by rw [ht]; exact kp2, by rw [ht, hfin]; exact j2, by rw [ht]; exact fr2⟩) hh2.2.2.1 (eX6_scanSign (10, .ireturn, 1) (List.mem_of_getElem? (i := 5) rfl))
set_option maxRecDepth 100000 in
set_option maxHeartbeats 4000000 in
theorem hX6_scanName (l : Launch) (D : va_G) (cA : Nat → ClassId) (ro : Nat → Option Nat) (sz : Nat) (H0 : Heap) (tx : Nat)  (T : List Int) (sg : uS) (htx : ro tx = some 0)  : Met l yX6_scanName (gW yX6_scanName cX6_scanName 4 none) { frames := 3, cells := 0, slots := 0, locals := 62 } (zs_P D cA ro sz H0 (fun H => jU D cA ro H tx T sg) [.ref tx]) (ku_V D cA ro sz H0 uM [tx] tx T (nameF T sg)) 0 0 (zy_fr sz) := by
  refine zy_ofW (cc := cX6_scanName) (maxL := 4) (ret := none) (by decide +kernel) rfl ?_
  intro p e s m args below meth c s1 B hml hv
  obtain ⟨rfl, hh, hKn, hJ⟩ := hv
  have hx := B.exec
  have hb := B.bytes
  have hr := B.returns
  have hlk := B.notSynchronized
  have hts0 := atoms_spec (ws := gW yX6_scanName cX6_scanName 4 none) B.pre
  have h2 : ∀ w ∈ gT, w.before ([.ref tx] : List Value).toArray s = true := fun w hw => hts0 w (List.mem_cons_of_mem _ hw)
  have hown : s.vm.findClass RX6 = some m.cls := findClass_of_methodNamed B.named
  have hl := lv_entry [.ref tx] (n := 4) (Nat.le_of_ble_eq_true rfl)
  rw [lg_entry_eq]
  generalize (lg_sl [.ref tx] ++ List.replicate (4 - (lg_sl [.ref tx]).length) Slot.unset).toArray = ls at hl ⊢
  have hD := zD_all h2 hKn.1
  have hcl0 := fun (idx k : Nat) (t : zt_T) (h : (idx, 0, k) ∈ gfX6) (hk : fsX0[k]? = some t) => zf_clause (ro := ro) (ms := uM) h2 hown hKn.1 gfX6_ok (by decide +kernel) idx 0 k 0 0 fsX0 t h rfl hk
  have kp0 : zc_kept D RTg ro uM s.heap s.heap := zc_kept.refl
  obtain ⟨hjt, ⟨av, bv, wv, f2, f3, f4, hav, hbv, hwv⟩, hu⟩ := id hJ
  obtain ⟨tb, n, z, f0, r0, f1, hn, hc, hz⟩ := id hjt
  obtain ⟨n9, g9, n1, n2⟩ := zh_fT (k := 1) (t := (0, 0, 120)) hh htx (show RTg[0]? = some (0, 0, 0, fsX0) from rfl) rfl
  cases f1.symm.trans g9
  dsimp only at n1 n2
  clear g9
  obtain ⟨-, z9, c9, hy9⟩ := zh_arr hh r0 (show RTg[12]? = some (1, 2, 120, [(0, (-128), 127)]) from rfl)
  have hy : ∀ i, i < 120 → zt_ok ro (z i) (0, (-128), 127) := zs_arr (hc.symm.trans c9) hy9
  obtain ⟨u1, u2, u3⟩ := id hu
  have fr0 : ∀ p9 : Nat, p9 ∉ [tx] → s.heap[p9]? = s.heap[p9]? := fun _ _ => rfl
  refine lv_aload_n hx hb (eX6_scanName (0, .aload_n 0, 1) (List.mem_of_getElem? (i := 0) rfl)) rfl (lv_at hl 0 rfl) ?_
  refine ff_bipush hx hb (eX6_scanName (1, .bipush 60, 2) (List.mem_of_getElem? (i := 1) rfl)) (by decide) (by decide) (fun v1 e1 => ?_)
  refine tz_rowV (As := [.int v1]) (st := []) (b := tx) (C := RX0) (Ts := gT) hx hb hml hown h2 (fun _ h => h) (hX0_take l D cA ro sz H0 tx v1 60 T (sg) htx (by omega) (by decide)) ⟨rfl, rfl⟩ ⟨by decide, by decide⟩ ⟨by decide, by decide⟩ (tb_4 8 rfl rfl) (tb_1 5 rfl rfl) (tb_4 5 rfl rfl) (tb_4 6 rfl rfl) (tb_4 7 rfl rfl) (show yX0_take.cls ≠ "java/lang/invoke/MethodHandle" ∧ yX0_take.cls ≠ "java/lang/invoke/VarHandle" ∧ (parseMethodDescriptor yX0_take.desc).map (fun d => d.parameters.length) = some 1 by decide +kernel) zs_blind (zs_ob hh htx (show RTg[0]? = some (0, 0, 0, fsX0) from rfl) (zCX0 hKn.1)) (fun U hU hW => ⟨rfl, by rw [hU]; exact hh.l0, zKb s U hW.alike hKn, by rw [hU]; exact hJ⟩) hh.2.2.1 hl.1 (Nat.le_of_ble_eq_true rfl) (eX6_scanName (3, .invokevirtual 97, 3) (List.mem_of_getElem? (i := 2) rfl)) (fun r2 s2 t2 lo2 g2 f2 l2 => ?_)
  obtain ⟨v2, q2, e2, z2, c2, j2, fx2⟩ := f2
  cases q2
  rw [g2] at c2 fx2
  have fr2 : ∀ p9 : Nat, p9 ∉ [tx] → t2.heap[p9]? = s.heap[p9]? := fun p9 h9 => (fx2 p9 (fun q => h9 (by rw [List.mem_singleton.mp q]; exact List.mem_cons_self))).trans (fr0 p9 h9)
  have hh2 : zh_ok D cA RTg ro sz H0 t2.heap lo2 := ⟨z2.1, z2.2.1, l2, z2.2.2.2⟩
  have kp2 := kp0.trans (c2.mono (ms' := uM) (by decide))
  have kf2 := tkF_01 T 60 sg
  generalize hx2 : tkF T 60 sg = x2 at j2 e2 kf2
  have uu2 := j2.2.2
  unfold uOK at uu2
  have mf2_tx_0 := (c2.1 tx 0 0 0 0 fsX0 htx rfl (by decide) (by decide)).trans f0
  have mf2_tx_1 := (c2.1 tx 0 1 0 0 fsX0 htx rfl (by decide) (by decide)).trans f1
  refine W.eq (g2 := F0 m 6 ls [.int v2]) rfl ?_
  refine lv_istore_n hx hb (eX6_scanName (6, .istore_n 1, 1) (List.mem_of_getElem? (i := 3) rfl)) rfl hl (by decide) rfl (fun ls3 hl3 => ?_)
  refine ff_iconst hx hb (eX6_scanName (7, .iconst 0, 1) (List.mem_of_getElem? (i := 4) rfl)) (by decide) (by decide) (fun v4 e4 => ?_)
  refine lv_istore_n hx hb (eX6_scanName (8, .istore_n 2, 1) (List.mem_of_getElem? (i := 5) rfl)) rfl hl3 (by decide) rfl (fun ls5 hl5 => ?_)
  refine ff_iconst hx hb (eX6_scanName (9, .iconst 0, 1) (List.mem_of_getElem? (i := 6) rfl)) (by decide) (by decide) (fun v6 e6 => ?_)
  refine lv_istore_n hx hb (eX6_scanName (10, .istore_n 3, 1) (List.mem_of_getElem? (i := 7) rfl)) rfl hl5 (by decide) rfl (fun ls7 hl7 => ?_)
  have loop : ∀ (n0 : Nat) (i : Int) (iv sv : Int32) (g : uS) (ls : Array Slot) (H : Heap) (lo0 : List Loc), i + n0 = 8 → iv.toInt = i → sv.toInt = i → 0 ≤ i → nlF T x2.1 n0 sv.toInt g = nlF T x2.1 8 0 x2.2 → zh_ok D cA RTg ro sz H0 H lo0 → zc_kept D RTg ro uM s.heap H → jU D cA ro H tx T g → (∀ p9 : Nat, p9 ∉ [tx] → H[p9]? = s.heap[p9]?) → lv_has ls 4 [(2, .int sv), (3, .int iv), (0, .ref tx), (1, .int v2)] → W p l e (headSpec (gW yX6_scanName cX6_scanName 4 none) { frames := 3, cells := 0, slots := 0, locals := 62 }).room s m ([.ref tx] : List Value).toArray below meth c H lo0 0 0 (MQ below (ku_V D cA ro sz H0 uM [tx] tx T (nameF T sg)) ([.ref tx] : List Value).toArray s 0 0 (zy_fr sz)) (F0 m 11 ls []) := by
    intro n0
    induction n0 with
    | zero =>
      intro i iv sv g ls H lo0 hi hiv hsv hi0 htot hh0 kpl jl frl hl
      have hul := jl.2.2
      refine lv_iload_n hx hb (eX6_scanName (11, .iload_n 3, 1) (List.mem_of_getElem? (i := 8) rfl)) rfl (lv_at hl 1 rfl) ?_
      refine ff_bipush hx hb (eX6_scanName (12, .bipush 8, 2) (List.mem_of_getElem? (i := 9) rfl)) (by decide) (by decide) (fun v8 e8 => ?_)
      refine ff_icmp_ge hx hb (eX6_scanName (14, .if_icmp .ge 34, 3) (List.mem_of_getElem? (i := 10) rfl)) (tgt := 48) rfl (fun c9 => ?_) (fun c9 => (by exfalso; omega))
      have hy : nlF T x2.1 8 0 x2.2 = (sv.toInt, g) := by rw [← htot]; rfl
      refine lv_iload_n hx hb (eX6_scanName (48, .iload_n 2, 1) (List.mem_of_getElem? (i := 24) rfl)) rfl (lv_at hl 0 rfl) ?_
      refine ff_iconst hx hb (eX6_scanName (49, .iconst 3, 1) (List.mem_of_getElem? (i := 25) rfl)) (by decide) (by decide) (fun v10 e10 => ?_)
      refine ff_icmp_ge hx hb (eX6_scanName (50, .if_icmp .ge 7, 3) (List.mem_of_getElem? (i := 26) rfl)) (tgt := 57) rfl (fun c11 => ?_) (fun c11 => ?_)
      · skip
        have h3 : ¬ sv.toInt < 3 := by omega
        refine lv_iload_n hx hb (eX6_scanName (57, .iload_n 1, 1) (List.mem_of_getElem? (i := 29) rfl)) rfl (lv_at hl 3 rfl) ?_
        refine ff_if_eq hx hb (eX6_scanName (58, .ifCond .eq 9, 3) (List.mem_of_getElem? (i := 30) rfl)) (tgt := 67) rfl (fun c12 => ?_) (fun c12 => ?_)
        · skip
          have hq : ¬ x2.1 = 1 := by omega
          have hfin : nameF T sg = g := by rw [nameF_eq, hx2, hy]; simp only [f3F, if_neg hq, if_neg h3]
          exact W.vret hx hb hr (fun t ht hW => ⟨rfl, by rw [ht]; exact hh0.l0, by rw [ht]; exact kpl, by rw [ht, hfin]; exact jl, by rw [ht]; exact frl⟩) hh0.2.2.1 (eX6_scanName (67, .return_, 1) (List.mem_of_getElem? (i := 34) rfl))
        · skip
          have hq : x2.1 = 1 := by omega
          refine lv_aload_n hx hb (eX6_scanName (61, .aload_n 0, 1) (List.mem_of_getElem? (i := 31) rfl)) rfl (lv_at hl 2 rfl) ?_
          refine ff_bipush hx hb (eX6_scanName (62, .bipush 62, 2) (List.mem_of_getElem? (i := 32) rfl)) (by decide) (by decide) (fun v13 e13 => ?_)
          refine tz_rowV (As := [.int v13]) (st := []) (b := tx) (C := RX0) (Ts := gT) hx hb hml hown h2 (fun _ h => h) (hX0_need l D cA ro sz H0 tx v13 62 T (g) htx (by omega) (by decide)) ⟨rfl, rfl⟩ ⟨by decide, by decide⟩ ⟨by decide, by decide⟩ (tb_4 44 rfl rfl) (tb_1 5 rfl rfl) (tb_4 41 rfl rfl) (tb_4 42 rfl rfl) (tb_4 43 rfl rfl) (show yX0_need.cls ≠ "java/lang/invoke/MethodHandle" ∧ yX0_need.cls ≠ "java/lang/invoke/VarHandle" ∧ (parseMethodDescriptor yX0_need.desc).map (fun d => d.parameters.length) = some 1 by decide +kernel) zs_blind (zs_ob hh0 htx (show RTg[0]? = some (0, 0, 0, fsX0) from rfl) (zCX0 hKn.1)) (fun U hU hW => ⟨rfl, by rw [hU]; exact hh0.l0, zKb s U hW.alike hKn, by rw [hU]; exact jl⟩) hh0.2.2.1 hl.1 (Nat.le_of_ble_eq_true rfl) (eX6_scanName (64, .invokevirtual 83, 3) (List.mem_of_getElem? (i := 33) rfl)) (fun r14 s14 t14 lo14 g14 f14 l14 => ?_)
          obtain ⟨q14, z14, c14, j14, fx14⟩ := f14
          cases q14
          rw [g14] at c14 fx14
          have fr14 : ∀ p9 : Nat, p9 ∉ [tx] → t14.heap[p9]? = s.heap[p9]? := fun p9 h9 => (fx14 p9 (fun q => h9 (by rw [List.mem_singleton.mp q]; exact List.mem_cons_self))).trans (frl p9 h9)
          have hh14 : zh_ok D cA RTg ro sz H0 t14.heap lo14 := ⟨z14.1, z14.2.1, l14, z14.2.2.2⟩
          have kp14 := kpl.trans (c14.mono (ms' := uM) (by decide))
          generalize hx14 : ndF T 62 g = x14 at j14
          have uu14 := j14.2.2
          unfold uOK at uu14
          refine W.eq (g2 := F0 m 67 ls []) rfl ?_
          have hfin : nameF T sg = x14 := by rw [nameF_eq, hx2, hy]; simp only [f3F, if_pos hq, if_neg h3, hx14]
          exact W.vret hx hb hr (fun t ht hW => ⟨rfl, by rw [ht]; exact hh14.l0, by rw [ht]; exact kp14, by rw [ht, hfin]; exact j14, by rw [ht]; exact fr14⟩) hh14.2.2.1 (eX6_scanName (67, .return_, 1) (List.mem_of_getElem? (i := 34) rfl))
      · skip
        have h3 : sv.toInt < 3 := by omega
        refine lv_aload_n hx hb (eX6_scanName (53, .aload_n 0, 1) (List.mem_of_getElem? (i := 27) rfl)) rfl (lv_at hl 2 rfl) ?_
        refine tz_rowV (As := []) (st := []) (b := tx) (C := RX0) (Ts := gT) hx hb hml hown h2 (fun _ h => h) (hX0_fail l D cA ro sz H0 tx T (g) htx) ⟨rfl, rfl⟩ ⟨by decide, by decide⟩ ⟨by decide, by decide⟩ (tb_4 40 rfl rfl) (tb_1 5 rfl rfl) (tb_4 37 rfl rfl) (tb_4 38 rfl rfl) (tb_4 39 rfl rfl) (show yX0_fail.cls ≠ "java/lang/invoke/MethodHandle" ∧ yX0_fail.cls ≠ "java/lang/invoke/VarHandle" ∧ (parseMethodDescriptor yX0_fail.desc).map (fun d => d.parameters.length) = some 0 by decide +kernel) zs_blind (zs_ob hh0 htx (show RTg[0]? = some (0, 0, 0, fsX0) from rfl) (zCX0 hKn.1)) (fun U hU hW => ⟨rfl, by rw [hU]; exact hh0.l0, zKb s U hW.alike hKn, by rw [hU]; exact jl⟩) hh0.2.2.1 hl.1 (Nat.le_of_ble_eq_true rfl) (eX6_scanName (54, .invokevirtual 110, 3) (List.mem_of_getElem? (i := 28) rfl)) (fun r15 s15 t15 lo15 g15 f15 l15 => ?_)
        obtain ⟨q15, z15, c15, j15, fx15⟩ := f15
        cases q15
        rw [g15] at c15 fx15
        have fr15 : ∀ p9 : Nat, p9 ∉ [tx] → t15.heap[p9]? = s.heap[p9]? := fun p9 h9 => (fx15 p9 (fun q => h9 (by rw [List.mem_singleton.mp q]; exact List.mem_cons_self))).trans (frl p9 h9)
        have hh15 : zh_ok D cA RTg ro sz H0 t15.heap lo15 := ⟨z15.1, z15.2.1, l15, z15.2.2.2⟩
        have kp15 := kpl.trans (c15.mono (ms' := uM) (by decide))
        generalize hx15 : flF g = x15 at j15
        have uu15 := j15.2.2
        unfold uOK at uu15
        refine W.eq (g2 := F0 m 57 ls []) rfl ?_
        refine lv_iload_n hx hb (eX6_scanName (57, .iload_n 1, 1) (List.mem_of_getElem? (i := 29) rfl)) rfl (lv_at hl 3 rfl) ?_
        refine ff_if_eq hx hb (eX6_scanName (58, .ifCond .eq 9, 3) (List.mem_of_getElem? (i := 30) rfl)) (tgt := 67) rfl (fun c16 => ?_) (fun c16 => ?_)
        · skip
          have hq : ¬ x2.1 = 1 := by omega
          have hfin : nameF T sg = x15 := by rw [nameF_eq, hx2, hy]; simp only [f3F, if_neg hq, if_pos h3, hx15]
          exact W.vret hx hb hr (fun t ht hW => ⟨rfl, by rw [ht]; exact hh15.l0, by rw [ht]; exact kp15, by rw [ht, hfin]; exact j15, by rw [ht]; exact fr15⟩) hh15.2.2.1 (eX6_scanName (67, .return_, 1) (List.mem_of_getElem? (i := 34) rfl))
        · skip
          have hq : x2.1 = 1 := by omega
          refine lv_aload_n hx hb (eX6_scanName (61, .aload_n 0, 1) (List.mem_of_getElem? (i := 31) rfl)) rfl (lv_at hl 2 rfl) ?_
          refine ff_bipush hx hb (eX6_scanName (62, .bipush 62, 2) (List.mem_of_getElem? (i := 32) rfl)) (by decide) (by decide) (fun v17 e17 => ?_)
          refine tz_rowV (As := [.int v17]) (st := []) (b := tx) (C := RX0) (Ts := gT) hx hb hml hown h2 (fun _ h => h) (hX0_need l D cA ro sz H0 tx v17 62 T (x15) htx (by omega) (by decide)) ⟨rfl, rfl⟩ ⟨by decide, by decide⟩ ⟨by decide, by decide⟩ (tb_4 44 rfl rfl) (tb_1 5 rfl rfl) (tb_4 41 rfl rfl) (tb_4 42 rfl rfl) (tb_4 43 rfl rfl) (show yX0_need.cls ≠ "java/lang/invoke/MethodHandle" ∧ yX0_need.cls ≠ "java/lang/invoke/VarHandle" ∧ (parseMethodDescriptor yX0_need.desc).map (fun d => d.parameters.length) = some 1 by decide +kernel) zs_blind (zs_ob hh15 htx (show RTg[0]? = some (0, 0, 0, fsX0) from rfl) (zCX0 hKn.1)) (fun U hU hW => ⟨rfl, by rw [hU]; exact hh15.l0, zKb s U hW.alike hKn, by rw [hU]; exact j15⟩) hh15.2.2.1 hl.1 (Nat.le_of_ble_eq_true rfl) (eX6_scanName (64, .invokevirtual 83, 3) (List.mem_of_getElem? (i := 33) rfl)) (fun r18 s18 t18 lo18 g18 f18 l18 => ?_)
          obtain ⟨q18, z18, c18, j18, fx18⟩ := f18
          cases q18
          rw [g18] at c18 fx18
          have fr18 : ∀ p9 : Nat, p9 ∉ [tx] → t18.heap[p9]? = s.heap[p9]? := fun p9 h9 => (fx18 p9 (fun q => h9 (by rw [List.mem_singleton.mp q]; exact List.mem_cons_self))).trans (fr15 p9 h9)
          have hh18 : zh_ok D cA RTg ro sz H0 t18.heap lo18 := ⟨z18.1, z18.2.1, l18, z18.2.2.2⟩
          have kp18 := kp15.trans (c18.mono (ms' := uM) (by decide))
          generalize hx18 : ndF T 62 x15 = x18 at j18
          have uu18 := j18.2.2
          unfold uOK at uu18
          refine W.eq (g2 := F0 m 67 ls []) rfl ?_
          have hfin : nameF T sg = x18 := by rw [nameF_eq, hx2, hy]; simp only [f3F, if_pos hq, if_pos h3, hx15, hx18]
          exact W.vret hx hb hr (fun t ht hW => ⟨rfl, by rw [ht]; exact hh18.l0, by rw [ht]; exact kp18, by rw [ht, hfin]; exact j18, by rw [ht]; exact fr18⟩) hh18.2.2.1 (eX6_scanName (67, .return_, 1) (List.mem_of_getElem? (i := 34) rfl))
    | succ n0 ih =>
      intro i iv sv g ls H lo0 hi hiv hsv hi0 htot hh0 kpl jl frl hl
      have hul := jl.2.2
      refine lv_iload_n hx hb (eX6_scanName (11, .iload_n 3, 1) (List.mem_of_getElem? (i := 8) rfl)) rfl (lv_at hl 1 rfl) ?_
      refine ff_bipush hx hb (eX6_scanName (12, .bipush 8, 2) (List.mem_of_getElem? (i := 9) rfl)) (by decide) (by decide) (fun v19 e19 => ?_)
      refine ff_icmp_ge hx hb (eX6_scanName (14, .if_icmp .ge 34, 3) (List.mem_of_getElem? (i := 10) rfl)) (tgt := 48) rfl (fun c20 => (by exfalso; omega)) (fun c20 => ?_)
      refine lv_aload_n hx hb (eX6_scanName (17, .aload_n 0, 1) (List.mem_of_getElem? (i := 11) rfl)) rfl (lv_at hl 2 rfl) ?_
      refine tz_rowV (As := []) (st := []) (b := tx) (C := RX0) (Ts := gT) hx hb hml hown h2 (fun _ h => h) (hX0_atLetter l D cA ro sz H0 tx T (g) htx) ⟨rfl, rfl⟩ ⟨by decide, by decide⟩ ⟨by decide, by decide⟩ (tb_4 16 rfl rfl) (tb_1 5 rfl rfl) (tb_4 13 rfl rfl) (tb_4 14 rfl rfl) (tb_4 15 rfl rfl) (show yX0_atLetter.cls ≠ "java/lang/invoke/MethodHandle" ∧ yX0_atLetter.cls ≠ "java/lang/invoke/VarHandle" ∧ (parseMethodDescriptor yX0_atLetter.desc).map (fun d => d.parameters.length) = some 0 by decide +kernel) zs_blind (zs_ob hh0 htx (show RTg[0]? = some (0, 0, 0, fsX0) from rfl) (zCX0 hKn.1)) (fun U hU hW => ⟨rfl, by rw [hU]; exact hh0.l0, zKb s U hW.alike hKn, by rw [hU]; exact jl⟩) hh0.2.2.1 hl.1 (Nat.le_of_ble_eq_true rfl) (eX6_scanName (18, .invokevirtual 101, 3) (List.mem_of_getElem? (i := 12) rfl)) (fun r21 s21 t21 lo21 g21 f21 l21 => ?_)
      obtain ⟨z21, v21, q21, e21⟩ := f21
      cases q21
      rw [z21, g21]
      have hh21 : zh_ok D cA RTg ro sz H0 H lo21 := ⟨hh0.1, hh0.2.1, l21, hh0.2.2.2⟩
      refine W.eq (g2 := F0 m 21 ls [.int v21]) rfl ?_
      refine ff_if_ne hx hb (eX6_scanName (21, .ifCond .ne 14, 3) (List.mem_of_getElem? (i := 13) rfl)) (tgt := 35) rfl (fun c22 => ?_) (fun c22 => ?_)
      · skip
        have hN : isN x2.1 (lk T g) := by rcases e21 with h | h; exact Or.inl h.2; exfalso; omega
        have hat := isN_at hul hN
        refine lv_aload_n hx hb (eX6_scanName (35, .aload_n 0, 1) (List.mem_of_getElem? (i := 19) rfl)) rfl (lv_at hl 2 rfl) ?_
        refine tz_rowV (As := []) (st := []) (b := tx) (C := RX0) (Ts := gT) hx hb hml hown h2 (fun _ h => h) (hX0_skip l D cA ro sz H0 tx T g htx hat.2) ⟨rfl, rfl⟩ ⟨by decide, by decide⟩ ⟨by decide, by decide⟩ (tb_4 36 rfl rfl) (tb_1 5 rfl rfl) (tb_4 33 rfl rfl) (tb_4 34 rfl rfl) (tb_4 35 rfl rfl) (show yX0_skip.cls ≠ "java/lang/invoke/MethodHandle" ∧ yX0_skip.cls ≠ "java/lang/invoke/VarHandle" ∧ (parseMethodDescriptor yX0_skip.desc).map (fun d => d.parameters.length) = some 0 by decide +kernel) zs_blind (zs_ob hh21 htx (show RTg[0]? = some (0, 0, 0, fsX0) from rfl) (zCX0 hKn.1)) (fun U hU hW => ⟨rfl, by rw [hU]; exact hh21.l0, zKb s U hW.alike hKn, by rw [hU]; exact jl⟩) hh21.2.2.1 hl.1 (Nat.le_of_ble_eq_true rfl) (eX6_scanName (36, .invokevirtual 107, 3) (List.mem_of_getElem? (i := 20) rfl)) (fun r23 s23 t23 lo23 g23 f23 l23 => ?_)
        obtain ⟨q23, z23, c23, j23, fx23⟩ := f23
        cases q23
        rw [g23] at c23 fx23
        have fr23 : ∀ p9 : Nat, p9 ∉ [tx] → t23.heap[p9]? = s.heap[p9]? := fun p9 h9 => (fx23 p9 (fun q => h9 (by rw [List.mem_singleton.mp q]; exact List.mem_cons_self))).trans (frl p9 h9)
        have hh23 : zh_ok D cA RTg ro sz H0 t23.heap lo23 := ⟨z23.1, z23.2.1, l23, z23.2.2.2⟩
        have kp23 := kpl.trans (c23.mono (ms' := uM) (by decide))
        refine W.eq (g2 := F0 m 39 ls []) rfl ?_
        refine ff_iinc (k := 0) hx hb (eX6_scanName (39, .iinc 2 1, 3) (List.mem_of_getElem? (i := 21) rfl)) hl rfl (by decide) (by decide) (by decide) (by omega) (by omega) (fun v24 e24 ls24 hl24 => ?_)
        refine ff_iinc (k := 1) hx hb (eX6_scanName (42, .iinc 3 1, 3) (List.mem_of_getElem? (i := 22) rfl)) hl24 rfl (by decide) (by decide) (by decide) (by omega) (by omega) (fun v25 e25 ls25 hl25 => ?_)
        refine lv_goto hx hb (eX6_scanName (45, .goto (-34), 3) (List.mem_of_getElem? (i := 23) rfl)) (tgt := 11) rfl ?_
        exact ih (i + 1) v25 v24 (g.1 + 1, g.2) ls25 _ _ (by omega) (by omega) (by omega) (by omega) (by rw [← htot]; show _ = (if _ then _ else _ : Int × uS); rw [if_pos hN, show v24.toInt = sv.toInt + 1 by omega]) hh23 kp23 j23 fr23 (lv_sub hl25 [1, 0, 2, 3] rfl)
      · skip
        refine lv_iload_n hx hb (eX6_scanName (24, .iload_n 1, 1) (List.mem_of_getElem? (i := 14) rfl)) rfl (lv_at hl 3 rfl) ?_
        refine ff_if_eq hx hb (eX6_scanName (25, .ifCond .eq 23, 3) (List.mem_of_getElem? (i := 15) rfl)) (tgt := 48) rfl (fun c26 => ?_) (fun c26 => ?_)
        · skip
          have hN : ¬ isN x2.1 (lk T g) := fun q => by rcases q with q | ⟨q1, q2⟩; (rcases e21 with h | h; exfalso; omega; exact h.2 q); (exfalso; omega)
          have hy : nlF T x2.1 8 0 x2.2 = (sv.toInt, g) := by rw [← htot]; show (if _ then _ else _ : Int × uS) = _; rw [if_neg hN]
          refine lv_iload_n hx hb (eX6_scanName (48, .iload_n 2, 1) (List.mem_of_getElem? (i := 24) rfl)) rfl (lv_at hl 0 rfl) ?_
          refine ff_iconst hx hb (eX6_scanName (49, .iconst 3, 1) (List.mem_of_getElem? (i := 25) rfl)) (by decide) (by decide) (fun v27 e27 => ?_)
          refine ff_icmp_ge hx hb (eX6_scanName (50, .if_icmp .ge 7, 3) (List.mem_of_getElem? (i := 26) rfl)) (tgt := 57) rfl (fun c28 => ?_) (fun c28 => ?_)
          · skip
            have h3 : ¬ sv.toInt < 3 := by omega
            refine lv_iload_n hx hb (eX6_scanName (57, .iload_n 1, 1) (List.mem_of_getElem? (i := 29) rfl)) rfl (lv_at hl 3 rfl) ?_
            refine ff_if_eq hx hb (eX6_scanName (58, .ifCond .eq 9, 3) (List.mem_of_getElem? (i := 30) rfl)) (tgt := 67) rfl (fun c29 => ?_) (fun c29 => ?_)
            · skip
              have hq : ¬ x2.1 = 1 := by omega
              have hfin : nameF T sg = g := by rw [nameF_eq, hx2, hy]; simp only [f3F, if_neg hq, if_neg h3]
              exact W.vret hx hb hr (fun t ht hW => ⟨rfl, by rw [ht]; exact hh21.l0, by rw [ht]; exact kpl, by rw [ht, hfin]; exact jl, by rw [ht]; exact frl⟩) hh21.2.2.1 (eX6_scanName (67, .return_, 1) (List.mem_of_getElem? (i := 34) rfl))
            · skip
              have hq : x2.1 = 1 := by omega
              refine lv_aload_n hx hb (eX6_scanName (61, .aload_n 0, 1) (List.mem_of_getElem? (i := 31) rfl)) rfl (lv_at hl 2 rfl) ?_
              refine ff_bipush hx hb (eX6_scanName (62, .bipush 62, 2) (List.mem_of_getElem? (i := 32) rfl)) (by decide) (by decide) (fun v30 e30 => ?_)
              refine tz_rowV (As := [.int v30]) (st := []) (b := tx) (C := RX0) (Ts := gT) hx hb hml hown h2 (fun _ h => h) (hX0_need l D cA ro sz H0 tx v30 62 T (g) htx (by omega) (by decide)) ⟨rfl, rfl⟩ ⟨by decide, by decide⟩ ⟨by decide, by decide⟩ (tb_4 44 rfl rfl) (tb_1 5 rfl rfl) (tb_4 41 rfl rfl) (tb_4 42 rfl rfl) (tb_4 43 rfl rfl) (show yX0_need.cls ≠ "java/lang/invoke/MethodHandle" ∧ yX0_need.cls ≠ "java/lang/invoke/VarHandle" ∧ (parseMethodDescriptor yX0_need.desc).map (fun d => d.parameters.length) = some 1 by decide +kernel) zs_blind (zs_ob hh21 htx (show RTg[0]? = some (0, 0, 0, fsX0) from rfl) (zCX0 hKn.1)) (fun U hU hW => ⟨rfl, by rw [hU]; exact hh21.l0, zKb s U hW.alike hKn, by rw [hU]; exact jl⟩) hh21.2.2.1 hl.1 (Nat.le_of_ble_eq_true rfl) (eX6_scanName (64, .invokevirtual 83, 3) (List.mem_of_getElem? (i := 33) rfl)) (fun r31 s31 t31 lo31 g31 f31 l31 => ?_)
              obtain ⟨q31, z31, c31, j31, fx31⟩ := f31
              cases q31
              rw [g31] at c31 fx31
              have fr31 : ∀ p9 : Nat, p9 ∉ [tx] → t31.heap[p9]? = s.heap[p9]? := fun p9 h9 => (fx31 p9 (fun q => h9 (by rw [List.mem_singleton.mp q]; exact List.mem_cons_self))).trans (frl p9 h9)
              have hh31 : zh_ok D cA RTg ro sz H0 t31.heap lo31 := ⟨z31.1, z31.2.1, l31, z31.2.2.2⟩
              have kp31 := kpl.trans (c31.mono (ms' := uM) (by decide))
              generalize hx31 : ndF T 62 g = x31 at j31
              have uu31 := j31.2.2
              unfold uOK at uu31
              refine W.eq (g2 := F0 m 67 ls []) rfl ?_
              have hfin : nameF T sg = x31 := by rw [nameF_eq, hx2, hy]; simp only [f3F, if_pos hq, if_neg h3, hx31]
              exact W.vret hx hb hr (fun t ht hW => ⟨rfl, by rw [ht]; exact hh31.l0, by rw [ht]; exact kp31, by rw [ht, hfin]; exact j31, by rw [ht]; exact fr31⟩) hh31.2.2.1 (eX6_scanName (67, .return_, 1) (List.mem_of_getElem? (i := 34) rfl))
          · skip
            have h3 : sv.toInt < 3 := by omega
            refine lv_aload_n hx hb (eX6_scanName (53, .aload_n 0, 1) (List.mem_of_getElem? (i := 27) rfl)) rfl (lv_at hl 2 rfl) ?_
            refine tz_rowV (As := []) (st := []) (b := tx) (C := RX0) (Ts := gT) hx hb hml hown h2 (fun _ h => h) (hX0_fail l D cA ro sz H0 tx T (g) htx) ⟨rfl, rfl⟩ ⟨by decide, by decide⟩ ⟨by decide, by decide⟩ (tb_4 40 rfl rfl) (tb_1 5 rfl rfl) (tb_4 37 rfl rfl) (tb_4 38 rfl rfl) (tb_4 39 rfl rfl) (show yX0_fail.cls ≠ "java/lang/invoke/MethodHandle" ∧ yX0_fail.cls ≠ "java/lang/invoke/VarHandle" ∧ (parseMethodDescriptor yX0_fail.desc).map (fun d => d.parameters.length) = some 0 by decide +kernel) zs_blind (zs_ob hh21 htx (show RTg[0]? = some (0, 0, 0, fsX0) from rfl) (zCX0 hKn.1)) (fun U hU hW => ⟨rfl, by rw [hU]; exact hh21.l0, zKb s U hW.alike hKn, by rw [hU]; exact jl⟩) hh21.2.2.1 hl.1 (Nat.le_of_ble_eq_true rfl) (eX6_scanName (54, .invokevirtual 110, 3) (List.mem_of_getElem? (i := 28) rfl)) (fun r32 s32 t32 lo32 g32 f32 l32 => ?_)
            obtain ⟨q32, z32, c32, j32, fx32⟩ := f32
            cases q32
            rw [g32] at c32 fx32
            have fr32 : ∀ p9 : Nat, p9 ∉ [tx] → t32.heap[p9]? = s.heap[p9]? := fun p9 h9 => (fx32 p9 (fun q => h9 (by rw [List.mem_singleton.mp q]; exact List.mem_cons_self))).trans (frl p9 h9)
            have hh32 : zh_ok D cA RTg ro sz H0 t32.heap lo32 := ⟨z32.1, z32.2.1, l32, z32.2.2.2⟩
            have kp32 := kpl.trans (c32.mono (ms' := uM) (by decide))
            generalize hx32 : flF g = x32 at j32
            have uu32 := j32.2.2
            unfold uOK at uu32
            refine W.eq (g2 := F0 m 57 ls []) rfl ?_
            refine lv_iload_n hx hb (eX6_scanName (57, .iload_n 1, 1) (List.mem_of_getElem? (i := 29) rfl)) rfl (lv_at hl 3 rfl) ?_
            refine ff_if_eq hx hb (eX6_scanName (58, .ifCond .eq 9, 3) (List.mem_of_getElem? (i := 30) rfl)) (tgt := 67) rfl (fun c33 => ?_) (fun c33 => ?_)
            · skip
              have hq : ¬ x2.1 = 1 := by omega
              have hfin : nameF T sg = x32 := by rw [nameF_eq, hx2, hy]; simp only [f3F, if_neg hq, if_pos h3, hx32]
              exact W.vret hx hb hr (fun t ht hW => ⟨rfl, by rw [ht]; exact hh32.l0, by rw [ht]; exact kp32, by rw [ht, hfin]; exact j32, by rw [ht]; exact fr32⟩) hh32.2.2.1 (eX6_scanName (67, .return_, 1) (List.mem_of_getElem? (i := 34) rfl))
            · skip
              have hq : x2.1 = 1 := by omega
              refine lv_aload_n hx hb (eX6_scanName (61, .aload_n 0, 1) (List.mem_of_getElem? (i := 31) rfl)) rfl (lv_at hl 2 rfl) ?_
              refine ff_bipush hx hb (eX6_scanName (62, .bipush 62, 2) (List.mem_of_getElem? (i := 32) rfl)) (by decide) (by decide) (fun v34 e34 => ?_)
              refine tz_rowV (As := [.int v34]) (st := []) (b := tx) (C := RX0) (Ts := gT) hx hb hml hown h2 (fun _ h => h) (hX0_need l D cA ro sz H0 tx v34 62 T (x32) htx (by omega) (by decide)) ⟨rfl, rfl⟩ ⟨by decide, by decide⟩ ⟨by decide, by decide⟩ (tb_4 44 rfl rfl) (tb_1 5 rfl rfl) (tb_4 41 rfl rfl) (tb_4 42 rfl rfl) (tb_4 43 rfl rfl) (show yX0_need.cls ≠ "java/lang/invoke/MethodHandle" ∧ yX0_need.cls ≠ "java/lang/invoke/VarHandle" ∧ (parseMethodDescriptor yX0_need.desc).map (fun d => d.parameters.length) = some 1 by decide +kernel) zs_blind (zs_ob hh32 htx (show RTg[0]? = some (0, 0, 0, fsX0) from rfl) (zCX0 hKn.1)) (fun U hU hW => ⟨rfl, by rw [hU]; exact hh32.l0, zKb s U hW.alike hKn, by rw [hU]; exact j32⟩) hh32.2.2.1 hl.1 (Nat.le_of_ble_eq_true rfl) (eX6_scanName (64, .invokevirtual 83, 3) (List.mem_of_getElem? (i := 33) rfl)) (fun r35 s35 t35 lo35 g35 f35 l35 => ?_)
              obtain ⟨q35, z35, c35, j35, fx35⟩ := f35
              cases q35
              rw [g35] at c35 fx35
              have fr35 : ∀ p9 : Nat, p9 ∉ [tx] → t35.heap[p9]? = s.heap[p9]? := fun p9 h9 => (fx35 p9 (fun q => h9 (by rw [List.mem_singleton.mp q]; exact List.mem_cons_self))).trans (fr32 p9 h9)
              have hh35 : zh_ok D cA RTg ro sz H0 t35.heap lo35 := ⟨z35.1, z35.2.1, l35, z35.2.2.2⟩
              have kp35 := kp32.trans (c35.mono (ms' := uM) (by decide))
              generalize hx35 : ndF T 62 x32 = x35 at j35
              have uu35 := j35.2.2
              unfold uOK at uu35
              refine W.eq (g2 := F0 m 67 ls []) rfl ?_
              have hfin : nameF T sg = x35 := by rw [nameF_eq, hx2, hy]; simp only [f3F, if_pos hq, if_pos h3, hx32, hx35]
              exact W.vret hx hb hr (fun t ht hW => ⟨rfl, by rw [ht]; exact hh35.l0, by rw [ht]; exact kp35, by rw [ht, hfin]; exact j35, by rw [ht]; exact fr35⟩) hh35.2.2.1 (eX6_scanName (67, .return_, 1) (List.mem_of_getElem? (i := 34) rfl))
        · skip
          refine lv_aload_n hx hb (eX6_scanName (28, .aload_n 0, 1) (List.mem_of_getElem? (i := 16) rfl)) rfl (lv_at hl 2 rfl) ?_
          refine tz_rowV (As := []) (st := []) (b := tx) (C := RX0) (Ts := gT) hx hb hml hown h2 (fun _ h => h) (hX0_atNameSign l D cA ro sz H0 tx T (g) htx) ⟨rfl, rfl⟩ ⟨by decide, by decide⟩ ⟨by decide, by decide⟩ (tb_4 20 rfl rfl) (tb_1 5 rfl rfl) (tb_4 17 rfl rfl) (tb_4 18 rfl rfl) (tb_4 19 rfl rfl) (show yX0_atNameSign.cls ≠ "java/lang/invoke/MethodHandle" ∧ yX0_atNameSign.cls ≠ "java/lang/invoke/VarHandle" ∧ (parseMethodDescriptor yX0_atNameSign.desc).map (fun d => d.parameters.length) = some 0 by decide +kernel) zs_blind (zs_ob hh21 htx (show RTg[0]? = some (0, 0, 0, fsX0) from rfl) (zCX0 hKn.1)) (fun U hU hW => ⟨rfl, by rw [hU]; exact hh21.l0, zKb s U hW.alike hKn, by rw [hU]; exact jl⟩) hh21.2.2.1 hl.1 (Nat.le_of_ble_eq_true rfl) (eX6_scanName (29, .invokevirtual 104, 3) (List.mem_of_getElem? (i := 17) rfl)) (fun r36 s36 t36 lo36 g36 f36 l36 => ?_)
          obtain ⟨z36, v36, q36, e36⟩ := f36
          cases q36
          rw [z36, g36]
          have hh36 : zh_ok D cA RTg ro sz H0 H lo36 := ⟨hh21.1, hh21.2.1, l36, hh21.2.2.2⟩
          refine W.eq (g2 := F0 m 32 ls [.int v36]) rfl ?_
          refine ff_if_eq hx hb (eX6_scanName (32, .ifCond .eq 16, 3) (List.mem_of_getElem? (i := 18) rfl)) (tgt := 48) rfl (fun c37 => ?_) (fun c37 => ?_)
          · skip
            have hN : ¬ isN x2.1 (lk T g) := fun q => by rcases q with q | ⟨q1, q2⟩; (rcases e21 with h | h; exfalso; omega; exact h.2 q); (rcases e36 with h | h; exfalso; omega; exact h.2 q2)
            have hy : nlF T x2.1 8 0 x2.2 = (sv.toInt, g) := by rw [← htot]; show (if _ then _ else _ : Int × uS) = _; rw [if_neg hN]
            refine lv_iload_n hx hb (eX6_scanName (48, .iload_n 2, 1) (List.mem_of_getElem? (i := 24) rfl)) rfl (lv_at hl 0 rfl) ?_
            refine ff_iconst hx hb (eX6_scanName (49, .iconst 3, 1) (List.mem_of_getElem? (i := 25) rfl)) (by decide) (by decide) (fun v38 e38 => ?_)
            refine ff_icmp_ge hx hb (eX6_scanName (50, .if_icmp .ge 7, 3) (List.mem_of_getElem? (i := 26) rfl)) (tgt := 57) rfl (fun c39 => ?_) (fun c39 => ?_)
            · skip
              have h3 : ¬ sv.toInt < 3 := by omega
              refine lv_iload_n hx hb (eX6_scanName (57, .iload_n 1, 1) (List.mem_of_getElem? (i := 29) rfl)) rfl (lv_at hl 3 rfl) ?_
              refine ff_if_eq hx hb (eX6_scanName (58, .ifCond .eq 9, 3) (List.mem_of_getElem? (i := 30) rfl)) (tgt := 67) rfl (fun c40 => ?_) (fun c40 => ?_)
              · skip
                have hq : ¬ x2.1 = 1 := by omega
                have hfin : nameF T sg = g := by rw [nameF_eq, hx2, hy]; simp only [f3F, if_neg hq, if_neg h3]
                exact W.vret hx hb hr (fun t ht hW => ⟨rfl, by rw [ht]; exact hh36.l0, by rw [ht]; exact kpl, by rw [ht, hfin]; exact jl, by rw [ht]; exact frl⟩) hh36.2.2.1 (eX6_scanName (67, .return_, 1) (List.mem_of_getElem? (i := 34) rfl))
              · skip
                have hq : x2.1 = 1 := by omega
                refine lv_aload_n hx hb (eX6_scanName (61, .aload_n 0, 1) (List.mem_of_getElem? (i := 31) rfl)) rfl (lv_at hl 2 rfl) ?_
                refine ff_bipush hx hb (eX6_scanName (62, .bipush 62, 2) (List.mem_of_getElem? (i := 32) rfl)) (by decide) (by decide) (fun v41 e41 => ?_)
                refine tz_rowV (As := [.int v41]) (st := []) (b := tx) (C := RX0) (Ts := gT) hx hb hml hown h2 (fun _ h => h) (hX0_need l D cA ro sz H0 tx v41 62 T (g) htx (by omega) (by decide)) ⟨rfl, rfl⟩ ⟨by decide, by decide⟩ ⟨by decide, by decide⟩ (tb_4 44 rfl rfl) (tb_1 5 rfl rfl) (tb_4 41 rfl rfl) (tb_4 42 rfl rfl) (tb_4 43 rfl rfl) (show yX0_need.cls ≠ "java/lang/invoke/MethodHandle" ∧ yX0_need.cls ≠ "java/lang/invoke/VarHandle" ∧ (parseMethodDescriptor yX0_need.desc).map (fun d => d.parameters.length) = some 1 by decide +kernel) zs_blind (zs_ob hh36 htx (show RTg[0]? = some (0, 0, 0, fsX0) from rfl) (zCX0 hKn.1)) (fun U hU hW => ⟨rfl, by rw [hU]; exact hh36.l0, zKb s U hW.alike hKn, by rw [hU]; exact jl⟩) hh36.2.2.1 hl.1 (Nat.le_of_ble_eq_true rfl) (eX6_scanName (64, .invokevirtual 83, 3) (List.mem_of_getElem? (i := 33) rfl)) (fun r42 s42 t42 lo42 g42 f42 l42 => ?_)
                obtain ⟨q42, z42, c42, j42, fx42⟩ := f42
                cases q42
                rw [g42] at c42 fx42
                have fr42 : ∀ p9 : Nat, p9 ∉ [tx] → t42.heap[p9]? = s.heap[p9]? := fun p9 h9 => (fx42 p9 (fun q => h9 (by rw [List.mem_singleton.mp q]; exact List.mem_cons_self))).trans (frl p9 h9)
                have hh42 : zh_ok D cA RTg ro sz H0 t42.heap lo42 := ⟨z42.1, z42.2.1, l42, z42.2.2.2⟩
                have kp42 := kpl.trans (c42.mono (ms' := uM) (by decide))
                generalize hx42 : ndF T 62 g = x42 at j42
                have uu42 := j42.2.2
                unfold uOK at uu42
                refine W.eq (g2 := F0 m 67 ls []) rfl ?_
                have hfin : nameF T sg = x42 := by rw [nameF_eq, hx2, hy]; simp only [f3F, if_pos hq, if_neg h3, hx42]
                exact W.vret hx hb hr (fun t ht hW => ⟨rfl, by rw [ht]; exact hh42.l0, by rw [ht]; exact kp42, by rw [ht, hfin]; exact j42, by rw [ht]; exact fr42⟩) hh42.2.2.1 (eX6_scanName (67, .return_, 1) (List.mem_of_getElem? (i := 34) rfl))
            · skip
              have h3 : sv.toInt < 3 := by omega
              refine lv_aload_n hx hb (eX6_scanName (53, .aload_n 0, 1) (List.mem_of_getElem? (i := 27) rfl)) rfl (lv_at hl 2 rfl) ?_
              refine tz_rowV (As := []) (st := []) (b := tx) (C := RX0) (Ts := gT) hx hb hml hown h2 (fun _ h => h) (hX0_fail l D cA ro sz H0 tx T (g) htx) ⟨rfl, rfl⟩ ⟨by decide, by decide⟩ ⟨by decide, by decide⟩ (tb_4 40 rfl rfl) (tb_1 5 rfl rfl) (tb_4 37 rfl rfl) (tb_4 38 rfl rfl) (tb_4 39 rfl rfl) (show yX0_fail.cls ≠ "java/lang/invoke/MethodHandle" ∧ yX0_fail.cls ≠ "java/lang/invoke/VarHandle" ∧ (parseMethodDescriptor yX0_fail.desc).map (fun d => d.parameters.length) = some 0 by decide +kernel) zs_blind (zs_ob hh36 htx (show RTg[0]? = some (0, 0, 0, fsX0) from rfl) (zCX0 hKn.1)) (fun U hU hW => ⟨rfl, by rw [hU]; exact hh36.l0, zKb s U hW.alike hKn, by rw [hU]; exact jl⟩) hh36.2.2.1 hl.1 (Nat.le_of_ble_eq_true rfl) (eX6_scanName (54, .invokevirtual 110, 3) (List.mem_of_getElem? (i := 28) rfl)) (fun r43 s43 t43 lo43 g43 f43 l43 => ?_)
              obtain ⟨q43, z43, c43, j43, fx43⟩ := f43
              cases q43
              rw [g43] at c43 fx43
              have fr43 : ∀ p9 : Nat, p9 ∉ [tx] → t43.heap[p9]? = s.heap[p9]? := fun p9 h9 => (fx43 p9 (fun q => h9 (by rw [List.mem_singleton.mp q]; exact List.mem_cons_self))).trans (frl p9 h9)
              have hh43 : zh_ok D cA RTg ro sz H0 t43.heap lo43 := ⟨z43.1, z43.2.1, l43, z43.2.2.2⟩
              have kp43 := kpl.trans (c43.mono (ms' := uM) (by decide))
              generalize hx43 : flF g = x43 at j43
              have uu43 := j43.2.2
              unfold uOK at uu43
              refine W.eq (g2 := F0 m 57 ls []) rfl ?_
              refine lv_iload_n hx hb (eX6_scanName (57, .iload_n 1, 1) (List.mem_of_getElem? (i := 29) rfl)) rfl (lv_at hl 3 rfl) ?_
              refine ff_if_eq hx hb (eX6_scanName (58, .ifCond .eq 9, 3) (List.mem_of_getElem? (i := 30) rfl)) (tgt := 67) rfl (fun c44 => ?_) (fun c44 => ?_)
              · skip
                have hq : ¬ x2.1 = 1 := by omega
                have hfin : nameF T sg = x43 := by rw [nameF_eq, hx2, hy]; simp only [f3F, if_neg hq, if_pos h3, hx43]
                exact W.vret hx hb hr (fun t ht hW => ⟨rfl, by rw [ht]; exact hh43.l0, by rw [ht]; exact kp43, by rw [ht, hfin]; exact j43, by rw [ht]; exact fr43⟩) hh43.2.2.1 (eX6_scanName (67, .return_, 1) (List.mem_of_getElem? (i := 34) rfl))
              · skip
                have hq : x2.1 = 1 := by omega
                refine lv_aload_n hx hb (eX6_scanName (61, .aload_n 0, 1) (List.mem_of_getElem? (i := 31) rfl)) rfl (lv_at hl 2 rfl) ?_
                refine ff_bipush hx hb (eX6_scanName (62, .bipush 62, 2) (List.mem_of_getElem? (i := 32) rfl)) (by decide) (by decide) (fun v45 e45 => ?_)
                refine tz_rowV (As := [.int v45]) (st := []) (b := tx) (C := RX0) (Ts := gT) hx hb hml hown h2 (fun _ h => h) (hX0_need l D cA ro sz H0 tx v45 62 T (x43) htx (by omega) (by decide)) ⟨rfl, rfl⟩ ⟨by decide, by decide⟩ ⟨by decide, by decide⟩ (tb_4 44 rfl rfl) (tb_1 5 rfl rfl) (tb_4 41 rfl rfl) (tb_4 42 rfl rfl) (tb_4 43 rfl rfl) (show yX0_need.cls ≠ "java/lang/invoke/MethodHandle" ∧ yX0_need.cls ≠ "java/lang/invoke/VarHandle" ∧ (parseMethodDescriptor yX0_need.desc).map (fun d => d.parameters.length) = some 1 by decide +kernel) zs_blind (zs_ob hh43 htx (show RTg[0]? = some (0, 0, 0, fsX0) from rfl) (zCX0 hKn.1)) (fun U hU hW => ⟨rfl, by rw [hU]; exact hh43.l0, zKb s U hW.alike hKn, by rw [hU]; exact j43⟩) hh43.2.2.1 hl.1 (Nat.le_of_ble_eq_true rfl) (eX6_scanName (64, .invokevirtual 83, 3) (List.mem_of_getElem? (i := 33) rfl)) (fun r46 s46 t46 lo46 g46 f46 l46 => ?_)
                obtain ⟨q46, z46, c46, j46, fx46⟩ := f46
                cases q46
                rw [g46] at c46 fx46
                have fr46 : ∀ p9 : Nat, p9 ∉ [tx] → t46.heap[p9]? = s.heap[p9]? := fun p9 h9 => (fx46 p9 (fun q => h9 (by rw [List.mem_singleton.mp q]; exact List.mem_cons_self))).trans (fr43 p9 h9)
                have hh46 : zh_ok D cA RTg ro sz H0 t46.heap lo46 := ⟨z46.1, z46.2.1, l46, z46.2.2.2⟩
                have kp46 := kp43.trans (c46.mono (ms' := uM) (by decide))
                generalize hx46 : ndF T 62 x43 = x46 at j46
                have uu46 := j46.2.2
                unfold uOK at uu46
                refine W.eq (g2 := F0 m 67 ls []) rfl ?_
                have hfin : nameF T sg = x46 := by rw [nameF_eq, hx2, hy]; simp only [f3F, if_pos hq, if_pos h3, hx43, hx46]
                exact W.vret hx hb hr (fun t ht hW => ⟨rfl, by rw [ht]; exact hh46.l0, by rw [ht]; exact kp46, by rw [ht, hfin]; exact j46, by rw [ht]; exact fr46⟩) hh46.2.2.1 (eX6_scanName (67, .return_, 1) (List.mem_of_getElem? (i := 34) rfl))
          · skip
            have hN : isN x2.1 (lk T g) := Or.inr ⟨by omega, by rcases e36 with h | h; exact h.2; exfalso; omega⟩
            have hat := isN_at hul hN
            refine lv_aload_n hx hb (eX6_scanName (35, .aload_n 0, 1) (List.mem_of_getElem? (i := 19) rfl)) rfl (lv_at hl 2 rfl) ?_
            refine tz_rowV (As := []) (st := []) (b := tx) (C := RX0) (Ts := gT) hx hb hml hown h2 (fun _ h => h) (hX0_skip l D cA ro sz H0 tx T g htx hat.2) ⟨rfl, rfl⟩ ⟨by decide, by decide⟩ ⟨by decide, by decide⟩ (tb_4 36 rfl rfl) (tb_1 5 rfl rfl) (tb_4 33 rfl rfl) (tb_4 34 rfl rfl) (tb_4 35 rfl rfl) (show yX0_skip.cls ≠ "java/lang/invoke/MethodHandle" ∧ yX0_skip.cls ≠ "java/lang/invoke/VarHandle" ∧ (parseMethodDescriptor yX0_skip.desc).map (fun d => d.parameters.length) = some 0 by decide +kernel) zs_blind (zs_ob hh36 htx (show RTg[0]? = some (0, 0, 0, fsX0) from rfl) (zCX0 hKn.1)) (fun U hU hW => ⟨rfl, by rw [hU]; exact hh36.l0, zKb s U hW.alike hKn, by rw [hU]; exact jl⟩) hh36.2.2.1 hl.1 (Nat.le_of_ble_eq_true rfl) (eX6_scanName (36, .invokevirtual 107, 3) (List.mem_of_getElem? (i := 20) rfl)) (fun r47 s47 t47 lo47 g47 f47 l47 => ?_)
            obtain ⟨q47, z47, c47, j47, fx47⟩ := f47
            cases q47
            rw [g47] at c47 fx47
            have fr47 : ∀ p9 : Nat, p9 ∉ [tx] → t47.heap[p9]? = s.heap[p9]? := fun p9 h9 => (fx47 p9 (fun q => h9 (by rw [List.mem_singleton.mp q]; exact List.mem_cons_self))).trans (frl p9 h9)
            have hh47 : zh_ok D cA RTg ro sz H0 t47.heap lo47 := ⟨z47.1, z47.2.1, l47, z47.2.2.2⟩
            have kp47 := kpl.trans (c47.mono (ms' := uM) (by decide))
            refine W.eq (g2 := F0 m 39 ls []) rfl ?_
            refine ff_iinc (k := 0) hx hb (eX6_scanName (39, .iinc 2 1, 3) (List.mem_of_getElem? (i := 21) rfl)) hl rfl (by decide) (by decide) (by decide) (by omega) (by omega) (fun v48 e48 ls48 hl48 => ?_)
            refine ff_iinc (k := 1) hx hb (eX6_scanName (42, .iinc 3 1, 3) (List.mem_of_getElem? (i := 22) rfl)) hl48 rfl (by decide) (by decide) (by decide) (by omega) (by omega) (fun v49 e49 ls49 hl49 => ?_)
            refine lv_goto hx hb (eX6_scanName (45, .goto (-34), 3) (List.mem_of_getElem? (i := 23) rfl)) (tgt := 11) rfl ?_
            exact ih (i + 1) v49 v48 (g.1 + 1, g.2) ls49 _ _ (by omega) (by omega) (by omega) (by omega) (by rw [← htot]; show _ = (if _ then _ else _ : Int × uS); rw [if_pos hN, show v48.toInt = sv.toInt + 1 by omega]) hh47 kp47 j47 fr47 (lv_sub hl49 [1, 0, 2, 3] rfl)
  exact loop 8 0 v6 v4 x2.2 ls7 _ _ (by omega) (by omega) (by omega) (by omega) (by rw [show v4.toInt = 0 by omega]) hh2 kp2 j2 fr2 (lv_sub hl7 [1, 0, 3, 2] rfl)
set_option maxRecDepth 100000 in
set_option maxHeartbeats 4000000 in
theorem hX7_scan (l : Launch) (D : va_G) (cA : Nat → ClassId) (ro : Nat → Option Nat) (sz : Nat) (H0 : Heap) (rd : Nat) (tx : Nat) (T : List Int) (sg : uS) (hrd : ro rd = some 6) (htx : ro tx = some 0) : Met l yX7_scan (gW yX7_scan cX7_scan 2 none) { frames := 4, cells := 0, slots := 0, locals := 94 } (zs_P D cA ro sz H0 (fun H => jU D cA ro H tx T sg) [.ref rd, .ref tx]) (fun _ st oc t => oc = .returned none ∧ zh_ok D cA RTg ro sz H0 t.heap [] ∧ zc_kept D RTg ro dM st.heap t.heap ∧ jU D cA ro t.heap tx T (dateF T sg).2 ∧ (∀ p9 : Nat, p9 ∉ [tx, rd] → t.heap[p9]? = st.heap[p9]?) ∧ jRd D t.heap rd (dateF T sg).1) 0 0 (zy_fr sz) := by
  refine zy_ofW (cc := cX7_scan) (maxL := 2) (ret := none) (by decide +kernel) rfl ?_
  intro p e s m args below meth c s1 B hml hv
  obtain ⟨rfl, hh, hKn, hJ⟩ := hv
  have hx := B.exec
  have hb := B.bytes
  have hr := B.returns
  have hlk := B.notSynchronized
  have hts0 := atoms_spec (ws := gW yX7_scan cX7_scan 2 none) B.pre
  have h2 : ∀ w ∈ gT, w.before ([.ref rd, .ref tx] : List Value).toArray s = true := fun w hw => hts0 w (List.mem_cons_of_mem _ hw)
  have hown : s.vm.findClass RX7 = some m.cls := findClass_of_methodNamed B.named
  have hl := lv_entry [.ref rd, .ref tx] (n := 2) (Nat.le_of_ble_eq_true rfl)
  rw [lg_entry_eq]
  generalize (lg_sl [.ref rd, .ref tx] ++ List.replicate (2 - (lg_sl [.ref rd, .ref tx]).length) Slot.unset).toArray = ls at hl ⊢
  have hD := zD_all h2 hKn.1
  have hcl0 := fun (idx k : Nat) (t : zt_T) (h : (idx, 0, k) ∈ gfX7) (hk : fsX0[k]? = some t) => zf_clause (ro := ro) (ms := dM) h2 hown hKn.1 gfX7_ok (by decide +kernel) idx 0 k 0 0 fsX0 t h rfl hk
  have hcl6 := fun (idx k : Nat) (t : zt_T) (h : (idx, 6, k) ∈ gfX7) (hk : fsX7[k]? = some t) => zf_clause (ro := ro) (ms := dM) h2 hown hKn.1 gfX7_ok (by decide +kernel) idx 6 k 6 0 fsX7 t h rfl hk
  have kp0 : zc_kept D RTg ro dM s.heap s.heap := zc_kept.refl
  obtain ⟨hjt, ⟨av, bv, wv, f2, f3, f4, hav, hbv, hwv⟩, hu⟩ := id hJ
  obtain ⟨tb, n, z, f0, r0, f1, hn, hc, hz⟩ := id hjt
  obtain ⟨n9, g9, n1, n2⟩ := zh_fT (k := 1) (t := (0, 0, 120)) hh htx (show RTg[0]? = some (0, 0, 0, fsX0) from rfl) rfl
  cases f1.symm.trans g9
  dsimp only at n1 n2
  clear g9
  obtain ⟨-, z9, c9, hy9⟩ := zh_arr hh r0 (show RTg[12]? = some (1, 2, 120, [(0, (-128), 127)]) from rfl)
  have hy : ∀ i, i < 120 → zt_ok ro (z i) (0, (-128), 127) := zs_arr (hc.symm.trans c9) hy9
  obtain ⟨u1, u2, u3⟩ := id hu
  have fr0 : ∀ p9 : Nat, p9 ∉ [tx, rd] → s.heap[p9]? = s.heap[p9]? := fun _ _ => rfl
  refine lv_aload_n hx hb (eX7_scan (0, .aload_n 1, 1) (List.mem_of_getElem? (i := 0) rfl)) rfl (lv_at hl 1 rfl) ?_
  refine ff_bipush hx hb (eX7_scan (1, .bipush 77, 2) (List.mem_of_getElem? (i := 1) rfl)) (by decide) (by decide) (fun v1 e1 => ?_)
  refine tz_rowV (As := [.int v1]) (st := []) (b := tx) (C := RX0) (Ts := gT) hx hb hml hown h2 (fun _ h => h) (hX0_take l D cA ro sz H0 tx v1 77 T (sg) htx (by omega) (by decide)) ⟨rfl, rfl⟩ ⟨by decide, by decide⟩ ⟨by decide, by decide⟩ (tb_4 8 rfl rfl) (tb_1 5 rfl rfl) (tb_4 81 rfl rfl) (tb_4 6 rfl rfl) (tb_4 7 rfl rfl) (show yX0_take.cls ≠ "java/lang/invoke/MethodHandle" ∧ yX0_take.cls ≠ "java/lang/invoke/VarHandle" ∧ (parseMethodDescriptor yX0_take.desc).map (fun d => d.parameters.length) = some 1 by decide +kernel) zs_blind (zs_ob hh htx (show RTg[0]? = some (0, 0, 0, fsX0) from rfl) (zCX0 hKn.1)) (fun U hU hW => ⟨rfl, by rw [hU]; exact hh.l0, zKb s U hW.alike hKn, by rw [hU]; exact hJ⟩) hh.2.2.1 hl.1 (Nat.le_of_ble_eq_true rfl) (eX7_scan (3, .invokevirtual 27, 3) (List.mem_of_getElem? (i := 2) rfl)) (fun r2 s2 t2 lo2 g2 f2 l2 => ?_)
  obtain ⟨v2, q2, e2, z2, c2, j2, fx2⟩ := f2
  cases q2
  rw [g2] at c2 fx2
  have fr2 : ∀ p9 : Nat, p9 ∉ [tx, rd] → t2.heap[p9]? = s.heap[p9]? := fun p9 h9 => (fx2 p9 (fun q => h9 (by rw [List.mem_singleton.mp q]; exact List.mem_cons_self))).trans (fr0 p9 h9)
  have hh2 : zh_ok D cA RTg ro sz H0 t2.heap lo2 := ⟨z2.1, z2.2.1, l2, z2.2.2.2⟩
  have kp2 := kp0.trans (c2.mono (ms' := dM) (by decide))
  have kf2 := tkF_01 T 77 sg
  generalize hx2 : tkF T 77 sg = x2 at j2 e2 kf2
  have uu2 := j2.2.2
  unfold uOK at uu2
  have mf2_tx_0 := (c2.1 tx 0 0 0 0 fsX0 htx rfl (by decide) (by decide)).trans f0
  have mf2_tx_1 := (c2.1 tx 0 1 0 0 fsX0 htx rfl (by decide) (by decide)).trans f1
  refine W.eq (g2 := F0 m 6 ls [.int v2]) rfl ?_
  refine ff_if_eq hx hb (eX7_scan (6, .ifCond .eq 61, 3) (List.mem_of_getElem? (i := 3) rfl)) (tgt := 67) rfl (fun c3 => ?_) (fun c3 => ?_)
  · skip
    have d2 : ¬ x2.1 = 1 := by omega
    refine lv_aload_n hx hb (eX7_scan (67, .aload_n 1, 1) (List.mem_of_getElem? (i := 38) rfl)) rfl (lv_at hl 1 rfl) ?_
    refine ff_bipush hx hb (eX7_scan (68, .bipush 74, 2) (List.mem_of_getElem? (i := 39) rfl)) (by decide) (by decide) (fun v4 e4 => ?_)
    refine tz_rowV (As := [.int v4]) (st := []) (b := tx) (C := RX0) (Ts := gT) hx hb hml hown h2 (fun _ h => h) (hX0_take l D cA ro sz H0 tx v4 74 T (x2.2) htx (by omega) (by decide)) ⟨rfl, rfl⟩ ⟨by decide, by decide⟩ ⟨by decide, by decide⟩ (tb_4 8 rfl rfl) (tb_1 5 rfl rfl) (tb_4 81 rfl rfl) (tb_4 6 rfl rfl) (tb_4 7 rfl rfl) (show yX0_take.cls ≠ "java/lang/invoke/MethodHandle" ∧ yX0_take.cls ≠ "java/lang/invoke/VarHandle" ∧ (parseMethodDescriptor yX0_take.desc).map (fun d => d.parameters.length) = some 1 by decide +kernel) zs_blind (zs_ob hh2 htx (show RTg[0]? = some (0, 0, 0, fsX0) from rfl) (zCX0 hKn.1)) (fun U hU hW => ⟨rfl, by rw [hU]; exact hh2.l0, zKb s U hW.alike hKn, by rw [hU]; exact j2⟩) hh2.2.2.1 hl.1 (Nat.le_of_ble_eq_true rfl) (eX7_scan (70, .invokevirtual 27, 3) (List.mem_of_getElem? (i := 40) rfl)) (fun r5 s5 t5 lo5 g5 f5 l5 => ?_)
    obtain ⟨v5, q5, e5, z5, c5, j5, fx5⟩ := f5
    cases q5
    rw [g5] at c5 fx5
    have fr5 : ∀ p9 : Nat, p9 ∉ [tx, rd] → t5.heap[p9]? = s.heap[p9]? := fun p9 h9 => (fx5 p9 (fun q => h9 (by rw [List.mem_singleton.mp q]; exact List.mem_cons_self))).trans (fr2 p9 h9)
    have hh5 : zh_ok D cA RTg ro sz H0 t5.heap lo5 := ⟨z5.1, z5.2.1, l5, z5.2.2.2⟩
    have kp5 := kp2.trans (c5.mono (ms' := dM) (by decide))
    have kf5 := tkF_01 T 74 x2.2
    generalize hx5 : tkF T 74 x2.2 = x5 at j5 e5 kf5
    have uu5 := j5.2.2
    unfold uOK at uu5
    have mf5_tx_0 := (c5.1 tx 0 0 0 0 fsX0 htx rfl (by decide) (by decide)).trans mf2_tx_0
    have mf5_tx_1 := (c5.1 tx 0 1 0 0 fsX0 htx rfl (by decide) (by decide)).trans mf2_tx_1
    refine W.eq (g2 := F0 m 73 ls [.int v5]) rfl ?_
    refine ff_if_eq hx hb (eX7_scan (73, .ifCond .eq 25, 3) (List.mem_of_getElem? (i := 41) rfl)) (tgt := 98) rfl (fun c6 => ?_) (fun c6 => ?_)
    · skip
      have d5 : ¬ x5.1 = 1 := by omega
      refine lv_aload_n hx hb (eX7_scan (98, .aload_n 0, 1) (List.mem_of_getElem? (i := 54) rfl)) rfl (lv_at hl 0 rfl) ?_
      refine ff_iconst hx hb (eX7_scan (99, .iconst 2, 1) (List.mem_of_getElem? (i := 55) rfl)) (by decide) (by decide) (fun v7 e7 => ?_)
      refine tz_put (r := 6) (k := 0) (t := (0, (-2147483648), 2147483647)) hx hb hD hh5 hrd rfl rfl ((hcl6 9 0 (0, (-2147483648), 2147483647) (by decide) rfl).2 (by decide)) (tz_i (zn_i32 _).1 (zn_i32 _).2) (eX7_scan (100, .putfield 9, 3) (List.mem_of_getElem? (i := 56) rfl)) (fun H8 lo8 hh8 hf8 hk8 _ hq8 => ?_)
      have mf8_tx_0 := (hk8.1 tx 0 0 0 0 fsX0 htx rfl (by decide) (by decide)).trans mf5_tx_0
      have mf8_tx_1 := (hk8.1 tx 0 1 0 0 fsX0 htx rfl (by decide) (by decide)).trans mf5_tx_1
      have kp8 := kp5.trans (hk8.mono (ms' := dM) (fun x hx => by cases List.mem_singleton.mp hx; decide))
      have jm8 := (j5).kept htx hk8 (by decide)
      have fr8 : ∀ p9 : Nat, p9 ∉ [tx, rd] → H8[p9]? = s.heap[p9]? := fun p9 h9 => (hq8 p9 (fun e9 => h9 (by rw [e9]; exact (List.mem_cons_of_mem _ List.mem_cons_self)))).trans (fr5 p9 h9)
      refine lv_aload_n hx hb (eX7_scan (103, .aload_n 0, 1) (List.mem_of_getElem? (i := 57) rfl)) rfl (lv_at hl 0 rfl) ?_
      refine lv_aload_n hx hb (eX7_scan (104, .aload_n 1, 1) (List.mem_of_getElem? (i := 58) rfl)) rfl (lv_at hl 1 rfl) ?_
      refine ff_iconst hx hb (eX7_scan (105, .iconst 1, 1) (List.mem_of_getElem? (i := 59) rfl)) (by decide) (by decide) (fun v9 e9 => ?_)
      refine ff_iconst hx hb (eX7_scan (106, .iconst 3, 1) (List.mem_of_getElem? (i := 60) rfl)) (by decide) (by decide) (fun v10 e10 => ?_)
      refine ff_iconst hx hb (eX7_scan (107, .iconst 0, 1) (List.mem_of_getElem? (i := 61) rfl)) (by decide) (by decide) (fun v11 e11 => ?_)
      refine ff_sipush hx hb (eX7_scan (108, .sipush 365, 3) (List.mem_of_getElem? (i := 62) rfl)) (by decide) (by decide) (fun v12 e12 => ?_)
      refine tz_rowV (As := [.int v9, .int v10, .int v11, .int v12]) (st := [.ref rd]) (b := tx) (C := RX0) (Ts := gT) hx hb hml hown h2 (fun _ h => h) (hX0_numberIn l D cA ro sz H0 tx v9 v10 v11 v12 1 3 0 365 T (x5.2) htx (by omega) (by omega) (by omega) (by omega) (by decide)) ⟨rfl, rfl⟩ ⟨by decide, by decide⟩ ⟨by decide, by decide⟩ (tb_4 56 rfl rfl) (tb_1 5 rfl rfl) (tb_4 82 rfl rfl) (tb_4 54 rfl rfl) (tb_4 55 rfl rfl) (show yX0_numberIn.cls ≠ "java/lang/invoke/MethodHandle" ∧ yX0_numberIn.cls ≠ "java/lang/invoke/VarHandle" ∧ (parseMethodDescriptor yX0_numberIn.desc).map (fun d => d.parameters.length) = some 4 by decide +kernel) zs_blind (zs_ob hh8 htx (show RTg[0]? = some (0, 0, 0, fsX0) from rfl) (zCX0 hKn.1)) (fun U hU hW => ⟨rfl, by rw [hU]; exact hh8.l0, zKb s U hW.alike hKn, by rw [hU]; exact jm8⟩) hh8.2.2.1 hl.1 (Nat.le_of_ble_eq_true rfl) (eX7_scan (111, .invokevirtual 33, 3) (List.mem_of_getElem? (i := 63) rfl)) (fun r13 s13 t13 lo13 g13 f13 l13 => ?_)
      obtain ⟨v13, q13, e13, z13, c13, j13, fx13⟩ := f13
      cases q13
      rw [g13] at c13 fx13
      have fr13 : ∀ p9 : Nat, p9 ∉ [tx, rd] → t13.heap[p9]? = s.heap[p9]? := fun p9 h9 => (fx13 p9 (fun q => h9 (by rw [List.mem_singleton.mp q]; exact List.mem_cons_self))).trans (fr8 p9 h9)
      have hh13 : zh_ok D cA RTg ro sz H0 t13.heap lo13 := ⟨z13.1, z13.2.1, l13, z13.2.2.2⟩
      have kp13 := kp8.trans (c13.mono (ms' := dM) (by decide))
      have kf13 := niF_3 (T := T) (ld := 1) (lo := 0) (hi := 365) (s := x5.2)
      generalize hx13 : niF T 1 3 0 365 x5.2 = x13 at j13 e13 kf13
      have uu13 := j13.2.2
      unfold uOK at uu13
      have mf13_tx_0 := (c13.1 tx 0 0 0 0 fsX0 htx rfl (by decide) (by decide)).trans mf8_tx_0
      have mf13_tx_1 := (c13.1 tx 0 1 0 0 fsX0 htx rfl (by decide) (by decide)).trans mf8_tx_1
      have mf13_rd_0 := (c13.1 rd 6 0 6 0 fsX7 hrd rfl (by decide) (by decide)).trans hf8
      refine W.eq (g2 := F0 m 114 ls [.int v13, .ref rd]) rfl ?_
      refine tz_put (r := 6) (k := 1) (t := (0, (-2147483648), 2147483647)) hx hb hD hh13 hrd rfl rfl ((hcl6 15 1 (0, (-2147483648), 2147483647) (by decide) rfl).2 (by decide)) (tz_i (zn_i32 _).1 (zn_i32 _).2) (eX7_scan (114, .putfield 15, 3) (List.mem_of_getElem? (i := 64) rfl)) (fun H14 lo14 hh14 hf14 hk14 _ hq14 => ?_)
      have mf14_tx_0 := (hk14.1 tx 0 0 0 0 fsX0 htx rfl (by decide) (by decide)).trans mf13_tx_0
      have mf14_tx_1 := (hk14.1 tx 0 1 0 0 fsX0 htx rfl (by decide) (by decide)).trans mf13_tx_1
      have mf14_rd_0 := (hk14.1 rd 6 0 6 0 fsX7 hrd rfl (by decide) (by decide)).trans mf13_rd_0
      have kp14 := kp13.trans (hk14.mono (ms' := dM) (fun x hx => by cases List.mem_singleton.mp hx; decide))
      have jm14 := (j13).kept htx hk14 (by decide)
      have fr14 : ∀ p9 : Nat, p9 ∉ [tx, rd] → H14[p9]? = s.heap[p9]? := fun p9 h9 => (hq14 p9 (fun e9 => h9 (by rw [e9]; exact (List.mem_cons_of_mem _ List.mem_cons_self)))).trans (fr13 p9 h9)
      refine lv_aload_n hx hb (eX7_scan (117, .aload_n 0, 1) (List.mem_of_getElem? (i := 65) rfl)) rfl (lv_at hl 0 rfl) ?_
      refine lv_aload_n hx hb (eX7_scan (118, .aload_n 1, 1) (List.mem_of_getElem? (i := 66) rfl)) rfl (lv_at hl 1 rfl) ?_
      refine ff_bipush hx hb (eX7_scan (119, .bipush 47, 2) (List.mem_of_getElem? (i := 67) rfl)) (by decide) (by decide) (fun v15 e15 => ?_)
      refine tz_rowV (As := [.int v15]) (st := [.ref rd]) (b := tx) (C := RX0) (Ts := gT) hx hb hml hown h2 (fun _ h => h) (hX0_take l D cA ro sz H0 tx v15 47 T (x13.2) htx (by omega) (by decide)) ⟨rfl, rfl⟩ ⟨by decide, by decide⟩ ⟨by decide, by decide⟩ (tb_4 8 rfl rfl) (tb_1 5 rfl rfl) (tb_4 81 rfl rfl) (tb_4 6 rfl rfl) (tb_4 7 rfl rfl) (show yX0_take.cls ≠ "java/lang/invoke/MethodHandle" ∧ yX0_take.cls ≠ "java/lang/invoke/VarHandle" ∧ (parseMethodDescriptor yX0_take.desc).map (fun d => d.parameters.length) = some 1 by decide +kernel) zs_blind (zs_ob hh14 htx (show RTg[0]? = some (0, 0, 0, fsX0) from rfl) (zCX0 hKn.1)) (fun U hU hW => ⟨rfl, by rw [hU]; exact hh14.l0, zKb s U hW.alike hKn, by rw [hU]; exact jm14⟩) hh14.2.2.1 hl.1 (Nat.le_of_ble_eq_true rfl) (eX7_scan (121, .invokevirtual 27, 3) (List.mem_of_getElem? (i := 68) rfl)) (fun r16 s16 t16 lo16 g16 f16 l16 => ?_)
      obtain ⟨v16, q16, e16, z16, c16, j16, fx16⟩ := f16
      cases q16
      rw [g16] at c16 fx16
      have fr16 : ∀ p9 : Nat, p9 ∉ [tx, rd] → t16.heap[p9]? = s.heap[p9]? := fun p9 h9 => (fx16 p9 (fun q => h9 (by rw [List.mem_singleton.mp q]; exact List.mem_cons_self))).trans (fr14 p9 h9)
      have hh16 : zh_ok D cA RTg ro sz H0 t16.heap lo16 := ⟨z16.1, z16.2.1, l16, z16.2.2.2⟩
      have kp16 := kp14.trans (c16.mono (ms' := dM) (by decide))
      have kf16 := tkF_01 T 47 x13.2
      generalize hx16 : tkF T 47 x13.2 = x16 at j16 e16 kf16
      have uu16 := j16.2.2
      unfold uOK at uu16
      have mf16_tx_0 := (c16.1 tx 0 0 0 0 fsX0 htx rfl (by decide) (by decide)).trans mf14_tx_0
      have mf16_tx_1 := (c16.1 tx 0 1 0 0 fsX0 htx rfl (by decide) (by decide)).trans mf14_tx_1
      have mf16_rd_0 := (c16.1 rd 6 0 6 0 fsX7 hrd rfl (by decide) (by decide)).trans mf14_rd_0
      have mf16_rd_1 := (c16.1 rd 6 1 6 0 fsX7 hrd rfl (by decide) (by decide)).trans hf14
      refine W.eq (g2 := F0 m 124 ls [.int v16, .ref rd]) rfl ?_
      refine ff_if_eq hx hb (eX7_scan (124, .ifCond .eq 12, 3) (List.mem_of_getElem? (i := 69) rfl)) (tgt := 136) rfl (fun c17 => ?_) (fun c17 => ?_)
      · skip
        have d16 : ¬ x16.1 = 1 := by omega
        refine ff_bipush hx hb (eX7_scan (136, .bipush 120, 2) (List.mem_of_getElem? (i := 74) rfl)) (by decide) (by decide) (fun v18 e18 => ?_)
        refine tz_put (r := 6) (k := 4) (t := (0, (-2147483648), 2147483647)) hx hb hD hh16 hrd rfl rfl ((hcl6 24 4 (0, (-2147483648), 2147483647) (by decide) rfl).2 (by decide)) (tz_i (zn_i32 _).1 (zn_i32 _).2) (eX7_scan (138, .putfield 24, 3) (List.mem_of_getElem? (i := 75) rfl)) (fun H19 lo19 hh19 hf19 hk19 _ hq19 => ?_)
        have mf19_tx_0 := (hk19.1 tx 0 0 0 0 fsX0 htx rfl (by decide) (by decide)).trans mf16_tx_0
        have mf19_tx_1 := (hk19.1 tx 0 1 0 0 fsX0 htx rfl (by decide) (by decide)).trans mf16_tx_1
        have mf19_rd_0 := (hk19.1 rd 6 0 6 0 fsX7 hrd rfl (by decide) (by decide)).trans mf16_rd_0
        have mf19_rd_1 := (hk19.1 rd 6 1 6 0 fsX7 hrd rfl (by decide) (by decide)).trans mf16_rd_1
        have kp19 := kp16.trans (hk19.mono (ms' := dM) (fun x hx => by cases List.mem_singleton.mp hx; decide))
        have jm19 := (j16).kept htx hk19 (by decide)
        have fr19 : ∀ p9 : Nat, p9 ∉ [tx, rd] → H19[p9]? = s.heap[p9]? := fun p9 h9 => (hq19 p9 (fun e9 => h9 (by rw [e9]; exact (List.mem_cons_of_mem _ List.mem_cons_self)))).trans (fr16 p9 h9)
        obtain ⟨w2, fw2, -, -⟩ := zh_fT (k := 2) (t := (0, (-2147483648), 2147483647)) hh19 hrd (show RTg[6]? = some (0, 6, 0, fsX7) from rfl) rfl
        obtain ⟨w3, fw3, -, -⟩ := zh_fT (k := 3) (t := (0, (-2147483648), 2147483647)) hh19 hrd (show RTg[6]? = some (0, 6, 0, fsX7) from rfl) rfl
        have hfd : (dateF T sg).1 = (2, x13.1, 0, 0, 120) := by simp only [dateF, dKF, dMF, rdMin, hx2, hx5, hx13, hx16, if_neg d2, if_neg d5, if_neg d16]
        have hfin : (dateF T sg).2 = x16.2 := by simp only [dateF, dKF, dMF, hx2, hx5, hx13, hx16, if_neg d2, if_neg d5, if_neg d16]
        exact W.vret hx hb hr (fun t ht hW => ⟨rfl, by rw [ht]; exact hh19.l0, by rw [ht]; exact kp19, by rw [ht, hfin]; exact jm19, by rw [ht]; exact fr19, by rw [ht, hfd]; exact ⟨_, _, _, _, _, mf19_rd_0, mf19_rd_1, fw2, fw3, hf19, by show _ = (2 : Int); omega, by show _ = x13.1; omega, by show _ = (120 : Int); omega, fun q => absurd q (show ¬ v7.toInt = 0 by omega)⟩⟩) hh19.2.2.1 (eX7_scan (141, .return_, 1) (List.mem_of_getElem? (i := 76) rfl))
      · skip
        have d16 : x16.1 = 1 := by omega
        refine lv_aload_n hx hb (eX7_scan (127, .aload_n 1, 1) (List.mem_of_getElem? (i := 70) rfl)) rfl (lv_at hl 1 rfl) ?_
        refine ff_bipush hx hb (eX7_scan (128, .bipush 24, 2) (List.mem_of_getElem? (i := 71) rfl)) (by decide) (by decide) (fun v20 e20 => ?_)
        refine tz_rowV (As := [.int v20]) (st := [.ref rd]) (b := tx) (C := RX0) (Ts := gT) hx hb hml hown h2 (fun _ h => h) (hX0_clock l D cA ro sz H0 tx v20 24 T (x16.2) htx (by omega)) ⟨rfl, rfl⟩ ⟨by decide, by decide⟩ ⟨by decide, by decide⟩ (tb_4 52 rfl rfl) (tb_1 5 rfl rfl) (tb_4 84 rfl rfl) (tb_4 50 rfl rfl) (tb_4 51 rfl rfl) (show yX0_clock.cls ≠ "java/lang/invoke/MethodHandle" ∧ yX0_clock.cls ≠ "java/lang/invoke/VarHandle" ∧ (parseMethodDescriptor yX0_clock.desc).map (fun d => d.parameters.length) = some 1 by decide +kernel) zs_blind (zs_ob hh16 htx (show RTg[0]? = some (0, 0, 0, fsX0) from rfl) (zCX0 hKn.1)) (fun U hU hW => ⟨rfl, by rw [hU]; exact hh16.l0, zKb s U hW.alike hKn, by rw [hU]; exact j16⟩) hh16.2.2.1 hl.1 (Nat.le_of_ble_eq_true rfl) (eX7_scan (130, .invokevirtual 41, 3) (List.mem_of_getElem? (i := 72) rfl)) (fun r21 s21 t21 lo21 g21 f21 l21 => ?_)
        obtain ⟨v21, q21, e21, z21, c21, j21, fx21⟩ := f21
        cases q21
        rw [g21] at c21 fx21
        have fr21 : ∀ p9 : Nat, p9 ∉ [tx, rd] → t21.heap[p9]? = s.heap[p9]? := fun p9 h9 => (fx21 p9 (fun q => h9 (by rw [List.mem_singleton.mp q]; exact List.mem_cons_self))).trans (fr16 p9 h9)
        have hh21 : zh_ok D cA RTg ro sz H0 t21.heap lo21 := ⟨z21.1, z21.2.1, l21, z21.2.2.2⟩
        have kp21 := kp16.trans (c21.mono (ms' := dM) (by decide))
        have kf21 := ckF_up (T := T) (most := 24) (s := x16.2)
        generalize hx21 : ckF T 24 x16.2 = x21 at j21 e21 kf21
        have uu21 := j21.2.2
        unfold uOK at uu21
        have mf21_tx_0 := (c21.1 tx 0 0 0 0 fsX0 htx rfl (by decide) (by decide)).trans mf16_tx_0
        have mf21_tx_1 := (c21.1 tx 0 1 0 0 fsX0 htx rfl (by decide) (by decide)).trans mf16_tx_1
        have mf21_rd_0 := (c21.1 rd 6 0 6 0 fsX7 hrd rfl (by decide) (by decide)).trans mf16_rd_0
        have mf21_rd_1 := (c21.1 rd 6 1 6 0 fsX7 hrd rfl (by decide) (by decide)).trans mf16_rd_1
        refine W.eq (g2 := F0 m 133 ls [.int v21, .ref rd]) rfl ?_
        refine lv_goto hx hb (eX7_scan (133, .goto 5, 3) (List.mem_of_getElem? (i := 73) rfl)) (tgt := 138) rfl ?_
        refine tz_put (r := 6) (k := 4) (t := (0, (-2147483648), 2147483647)) hx hb hD hh21 hrd rfl rfl ((hcl6 24 4 (0, (-2147483648), 2147483647) (by decide) rfl).2 (by decide)) (tz_i (zn_i32 _).1 (zn_i32 _).2) (eX7_scan (138, .putfield 24, 3) (List.mem_of_getElem? (i := 75) rfl)) (fun H22 lo22 hh22 hf22 hk22 _ hq22 => ?_)
        have mf22_tx_0 := (hk22.1 tx 0 0 0 0 fsX0 htx rfl (by decide) (by decide)).trans mf21_tx_0
        have mf22_tx_1 := (hk22.1 tx 0 1 0 0 fsX0 htx rfl (by decide) (by decide)).trans mf21_tx_1
        have mf22_rd_0 := (hk22.1 rd 6 0 6 0 fsX7 hrd rfl (by decide) (by decide)).trans mf21_rd_0
        have mf22_rd_1 := (hk22.1 rd 6 1 6 0 fsX7 hrd rfl (by decide) (by decide)).trans mf21_rd_1
        have kp22 := kp21.trans (hk22.mono (ms' := dM) (fun x hx => by cases List.mem_singleton.mp hx; decide))
        have jm22 := (j21).kept htx hk22 (by decide)
        have fr22 : ∀ p9 : Nat, p9 ∉ [tx, rd] → H22[p9]? = s.heap[p9]? := fun p9 h9 => (hq22 p9 (fun e9 => h9 (by rw [e9]; exact (List.mem_cons_of_mem _ List.mem_cons_self)))).trans (fr21 p9 h9)
        obtain ⟨w2, fw2, -, -⟩ := zh_fT (k := 2) (t := (0, (-2147483648), 2147483647)) hh22 hrd (show RTg[6]? = some (0, 6, 0, fsX7) from rfl) rfl
        obtain ⟨w3, fw3, -, -⟩ := zh_fT (k := 3) (t := (0, (-2147483648), 2147483647)) hh22 hrd (show RTg[6]? = some (0, 6, 0, fsX7) from rfl) rfl
        have hfd : (dateF T sg).1 = (2, x13.1, 0, 0, x21.1) := by simp only [dateF, dKF, dMF, rdMin, hx2, hx5, hx13, hx16, hx21, if_neg d2, if_neg d5, if_pos d16]
        have hfin : (dateF T sg).2 = x21.2 := by simp only [dateF, dKF, dMF, hx2, hx5, hx13, hx16, hx21, if_neg d2, if_neg d5, if_pos d16]
        exact W.vret hx hb hr (fun t ht hW => ⟨rfl, by rw [ht]; exact hh22.l0, by rw [ht]; exact kp22, by rw [ht, hfin]; exact jm22, by rw [ht]; exact fr22, by rw [ht, hfd]; exact ⟨_, _, _, _, _, mf22_rd_0, mf22_rd_1, fw2, fw3, hf22, by show _ = (2 : Int); omega, by show _ = x13.1; omega, by show _ = x21.1; omega, fun q => absurd q (show ¬ v7.toInt = 0 by omega)⟩⟩) hh22.2.2.1 (eX7_scan (141, .return_, 1) (List.mem_of_getElem? (i := 76) rfl))
    · skip
      have d5 : x5.1 = 1 := by omega
      refine lv_aload_n hx hb (eX7_scan (76, .aload_n 0, 1) (List.mem_of_getElem? (i := 42) rfl)) rfl (lv_at hl 0 rfl) ?_
      refine ff_iconst hx hb (eX7_scan (77, .iconst 1, 1) (List.mem_of_getElem? (i := 43) rfl)) (by decide) (by decide) (fun v23 e23 => ?_)
      refine tz_put (r := 6) (k := 0) (t := (0, (-2147483648), 2147483647)) hx hb hD hh5 hrd rfl rfl ((hcl6 9 0 (0, (-2147483648), 2147483647) (by decide) rfl).2 (by decide)) (tz_i (zn_i32 _).1 (zn_i32 _).2) (eX7_scan (78, .putfield 9, 3) (List.mem_of_getElem? (i := 44) rfl)) (fun H24 lo24 hh24 hf24 hk24 _ hq24 => ?_)
      have mf24_tx_0 := (hk24.1 tx 0 0 0 0 fsX0 htx rfl (by decide) (by decide)).trans mf5_tx_0
      have mf24_tx_1 := (hk24.1 tx 0 1 0 0 fsX0 htx rfl (by decide) (by decide)).trans mf5_tx_1
      have kp24 := kp5.trans (hk24.mono (ms' := dM) (fun x hx => by cases List.mem_singleton.mp hx; decide))
      have jm24 := (j5).kept htx hk24 (by decide)
      have fr24 : ∀ p9 : Nat, p9 ∉ [tx, rd] → H24[p9]? = s.heap[p9]? := fun p9 h9 => (hq24 p9 (fun e9 => h9 (by rw [e9]; exact (List.mem_cons_of_mem _ List.mem_cons_self)))).trans (fr5 p9 h9)
      refine lv_aload_n hx hb (eX7_scan (81, .aload_n 0, 1) (List.mem_of_getElem? (i := 45) rfl)) rfl (lv_at hl 0 rfl) ?_
      refine lv_aload_n hx hb (eX7_scan (82, .aload_n 1, 1) (List.mem_of_getElem? (i := 46) rfl)) rfl (lv_at hl 1 rfl) ?_
      refine ff_iconst hx hb (eX7_scan (83, .iconst 1, 1) (List.mem_of_getElem? (i := 47) rfl)) (by decide) (by decide) (fun v25 e25 => ?_)
      refine ff_iconst hx hb (eX7_scan (84, .iconst 3, 1) (List.mem_of_getElem? (i := 48) rfl)) (by decide) (by decide) (fun v26 e26 => ?_)
      refine ff_iconst hx hb (eX7_scan (85, .iconst 1, 1) (List.mem_of_getElem? (i := 49) rfl)) (by decide) (by decide) (fun v27 e27 => ?_)
      refine ff_sipush hx hb (eX7_scan (86, .sipush 365, 3) (List.mem_of_getElem? (i := 50) rfl)) (by decide) (by decide) (fun v28 e28 => ?_)
      refine tz_rowV (As := [.int v25, .int v26, .int v27, .int v28]) (st := [.ref rd]) (b := tx) (C := RX0) (Ts := gT) hx hb hml hown h2 (fun _ h => h) (hX0_numberIn l D cA ro sz H0 tx v25 v26 v27 v28 1 3 1 365 T (x5.2) htx (by omega) (by omega) (by omega) (by omega) (by decide)) ⟨rfl, rfl⟩ ⟨by decide, by decide⟩ ⟨by decide, by decide⟩ (tb_4 56 rfl rfl) (tb_1 5 rfl rfl) (tb_4 82 rfl rfl) (tb_4 54 rfl rfl) (tb_4 55 rfl rfl) (show yX0_numberIn.cls ≠ "java/lang/invoke/MethodHandle" ∧ yX0_numberIn.cls ≠ "java/lang/invoke/VarHandle" ∧ (parseMethodDescriptor yX0_numberIn.desc).map (fun d => d.parameters.length) = some 4 by decide +kernel) zs_blind (zs_ob hh24 htx (show RTg[0]? = some (0, 0, 0, fsX0) from rfl) (zCX0 hKn.1)) (fun U hU hW => ⟨rfl, by rw [hU]; exact hh24.l0, zKb s U hW.alike hKn, by rw [hU]; exact jm24⟩) hh24.2.2.1 hl.1 (Nat.le_of_ble_eq_true rfl) (eX7_scan (89, .invokevirtual 33, 3) (List.mem_of_getElem? (i := 51) rfl)) (fun r29 s29 t29 lo29 g29 f29 l29 => ?_)
      obtain ⟨v29, q29, e29, z29, c29, j29, fx29⟩ := f29
      cases q29
      rw [g29] at c29 fx29
      have fr29 : ∀ p9 : Nat, p9 ∉ [tx, rd] → t29.heap[p9]? = s.heap[p9]? := fun p9 h9 => (fx29 p9 (fun q => h9 (by rw [List.mem_singleton.mp q]; exact List.mem_cons_self))).trans (fr24 p9 h9)
      have hh29 : zh_ok D cA RTg ro sz H0 t29.heap lo29 := ⟨z29.1, z29.2.1, l29, z29.2.2.2⟩
      have kp29 := kp24.trans (c29.mono (ms' := dM) (by decide))
      have kf29 := niF_3 (T := T) (ld := 1) (lo := 1) (hi := 365) (s := x5.2)
      generalize hx29 : niF T 1 3 1 365 x5.2 = x29 at j29 e29 kf29
      have uu29 := j29.2.2
      unfold uOK at uu29
      have mf29_tx_0 := (c29.1 tx 0 0 0 0 fsX0 htx rfl (by decide) (by decide)).trans mf24_tx_0
      have mf29_tx_1 := (c29.1 tx 0 1 0 0 fsX0 htx rfl (by decide) (by decide)).trans mf24_tx_1
      have mf29_rd_0 := (c29.1 rd 6 0 6 0 fsX7 hrd rfl (by decide) (by decide)).trans hf24
      refine W.eq (g2 := F0 m 92 ls [.int v29, .ref rd]) rfl ?_
      refine tz_put (r := 6) (k := 1) (t := (0, (-2147483648), 2147483647)) hx hb hD hh29 hrd rfl rfl ((hcl6 15 1 (0, (-2147483648), 2147483647) (by decide) rfl).2 (by decide)) (tz_i (zn_i32 _).1 (zn_i32 _).2) (eX7_scan (92, .putfield 15, 3) (List.mem_of_getElem? (i := 52) rfl)) (fun H30 lo30 hh30 hf30 hk30 _ hq30 => ?_)
      have mf30_tx_0 := (hk30.1 tx 0 0 0 0 fsX0 htx rfl (by decide) (by decide)).trans mf29_tx_0
      have mf30_tx_1 := (hk30.1 tx 0 1 0 0 fsX0 htx rfl (by decide) (by decide)).trans mf29_tx_1
      have mf30_rd_0 := (hk30.1 rd 6 0 6 0 fsX7 hrd rfl (by decide) (by decide)).trans mf29_rd_0
      have kp30 := kp29.trans (hk30.mono (ms' := dM) (fun x hx => by cases List.mem_singleton.mp hx; decide))
      have jm30 := (j29).kept htx hk30 (by decide)
      have fr30 : ∀ p9 : Nat, p9 ∉ [tx, rd] → H30[p9]? = s.heap[p9]? := fun p9 h9 => (hq30 p9 (fun e9 => h9 (by rw [e9]; exact (List.mem_cons_of_mem _ List.mem_cons_self)))).trans (fr29 p9 h9)
      refine lv_goto hx hb (eX7_scan (95, .goto 22, 3) (List.mem_of_getElem? (i := 53) rfl)) (tgt := 117) rfl ?_
      refine lv_aload_n hx hb (eX7_scan (117, .aload_n 0, 1) (List.mem_of_getElem? (i := 65) rfl)) rfl (lv_at hl 0 rfl) ?_
      refine lv_aload_n hx hb (eX7_scan (118, .aload_n 1, 1) (List.mem_of_getElem? (i := 66) rfl)) rfl (lv_at hl 1 rfl) ?_
      refine ff_bipush hx hb (eX7_scan (119, .bipush 47, 2) (List.mem_of_getElem? (i := 67) rfl)) (by decide) (by decide) (fun v31 e31 => ?_)
      refine tz_rowV (As := [.int v31]) (st := [.ref rd]) (b := tx) (C := RX0) (Ts := gT) hx hb hml hown h2 (fun _ h => h) (hX0_take l D cA ro sz H0 tx v31 47 T (x29.2) htx (by omega) (by decide)) ⟨rfl, rfl⟩ ⟨by decide, by decide⟩ ⟨by decide, by decide⟩ (tb_4 8 rfl rfl) (tb_1 5 rfl rfl) (tb_4 81 rfl rfl) (tb_4 6 rfl rfl) (tb_4 7 rfl rfl) (show yX0_take.cls ≠ "java/lang/invoke/MethodHandle" ∧ yX0_take.cls ≠ "java/lang/invoke/VarHandle" ∧ (parseMethodDescriptor yX0_take.desc).map (fun d => d.parameters.length) = some 1 by decide +kernel) zs_blind (zs_ob hh30 htx (show RTg[0]? = some (0, 0, 0, fsX0) from rfl) (zCX0 hKn.1)) (fun U hU hW => ⟨rfl, by rw [hU]; exact hh30.l0, zKb s U hW.alike hKn, by rw [hU]; exact jm30⟩) hh30.2.2.1 hl.1 (Nat.le_of_ble_eq_true rfl) (eX7_scan (121, .invokevirtual 27, 3) (List.mem_of_getElem? (i := 68) rfl)) (fun r32 s32 t32 lo32 g32 f32 l32 => ?_)
      obtain ⟨v32, q32, e32, z32, c32, j32, fx32⟩ := f32
      cases q32
      rw [g32] at c32 fx32
      have fr32 : ∀ p9 : Nat, p9 ∉ [tx, rd] → t32.heap[p9]? = s.heap[p9]? := fun p9 h9 => (fx32 p9 (fun q => h9 (by rw [List.mem_singleton.mp q]; exact List.mem_cons_self))).trans (fr30 p9 h9)
      have hh32 : zh_ok D cA RTg ro sz H0 t32.heap lo32 := ⟨z32.1, z32.2.1, l32, z32.2.2.2⟩
      have kp32 := kp30.trans (c32.mono (ms' := dM) (by decide))
      have kf32 := tkF_01 T 47 x29.2
      generalize hx32 : tkF T 47 x29.2 = x32 at j32 e32 kf32
      have uu32 := j32.2.2
      unfold uOK at uu32
      have mf32_tx_0 := (c32.1 tx 0 0 0 0 fsX0 htx rfl (by decide) (by decide)).trans mf30_tx_0
      have mf32_tx_1 := (c32.1 tx 0 1 0 0 fsX0 htx rfl (by decide) (by decide)).trans mf30_tx_1
      have mf32_rd_0 := (c32.1 rd 6 0 6 0 fsX7 hrd rfl (by decide) (by decide)).trans mf30_rd_0
      have mf32_rd_1 := (c32.1 rd 6 1 6 0 fsX7 hrd rfl (by decide) (by decide)).trans hf30
      refine W.eq (g2 := F0 m 124 ls [.int v32, .ref rd]) rfl ?_
      refine ff_if_eq hx hb (eX7_scan (124, .ifCond .eq 12, 3) (List.mem_of_getElem? (i := 69) rfl)) (tgt := 136) rfl (fun c33 => ?_) (fun c33 => ?_)
      · skip
        have d32 : ¬ x32.1 = 1 := by omega
        refine ff_bipush hx hb (eX7_scan (136, .bipush 120, 2) (List.mem_of_getElem? (i := 74) rfl)) (by decide) (by decide) (fun v34 e34 => ?_)
        refine tz_put (r := 6) (k := 4) (t := (0, (-2147483648), 2147483647)) hx hb hD hh32 hrd rfl rfl ((hcl6 24 4 (0, (-2147483648), 2147483647) (by decide) rfl).2 (by decide)) (tz_i (zn_i32 _).1 (zn_i32 _).2) (eX7_scan (138, .putfield 24, 3) (List.mem_of_getElem? (i := 75) rfl)) (fun H35 lo35 hh35 hf35 hk35 _ hq35 => ?_)
        have mf35_tx_0 := (hk35.1 tx 0 0 0 0 fsX0 htx rfl (by decide) (by decide)).trans mf32_tx_0
        have mf35_tx_1 := (hk35.1 tx 0 1 0 0 fsX0 htx rfl (by decide) (by decide)).trans mf32_tx_1
        have mf35_rd_0 := (hk35.1 rd 6 0 6 0 fsX7 hrd rfl (by decide) (by decide)).trans mf32_rd_0
        have mf35_rd_1 := (hk35.1 rd 6 1 6 0 fsX7 hrd rfl (by decide) (by decide)).trans mf32_rd_1
        have kp35 := kp32.trans (hk35.mono (ms' := dM) (fun x hx => by cases List.mem_singleton.mp hx; decide))
        have jm35 := (j32).kept htx hk35 (by decide)
        have fr35 : ∀ p9 : Nat, p9 ∉ [tx, rd] → H35[p9]? = s.heap[p9]? := fun p9 h9 => (hq35 p9 (fun e9 => h9 (by rw [e9]; exact (List.mem_cons_of_mem _ List.mem_cons_self)))).trans (fr32 p9 h9)
        obtain ⟨w2, fw2, -, -⟩ := zh_fT (k := 2) (t := (0, (-2147483648), 2147483647)) hh35 hrd (show RTg[6]? = some (0, 6, 0, fsX7) from rfl) rfl
        obtain ⟨w3, fw3, -, -⟩ := zh_fT (k := 3) (t := (0, (-2147483648), 2147483647)) hh35 hrd (show RTg[6]? = some (0, 6, 0, fsX7) from rfl) rfl
        have hfd : (dateF T sg).1 = (1, x29.1, 0, 0, 120) := by simp only [dateF, dKF, dMF, rdMin, hx2, hx5, hx29, hx32, if_neg d2, if_pos d5, if_neg d32]
        have hfin : (dateF T sg).2 = x32.2 := by simp only [dateF, dKF, dMF, hx2, hx5, hx29, hx32, if_neg d2, if_pos d5, if_neg d32]
        exact W.vret hx hb hr (fun t ht hW => ⟨rfl, by rw [ht]; exact hh35.l0, by rw [ht]; exact kp35, by rw [ht, hfin]; exact jm35, by rw [ht]; exact fr35, by rw [ht, hfd]; exact ⟨_, _, _, _, _, mf35_rd_0, mf35_rd_1, fw2, fw3, hf35, by show _ = (1 : Int); omega, by show _ = x29.1; omega, by show _ = (120 : Int); omega, fun q => absurd q (show ¬ v23.toInt = 0 by omega)⟩⟩) hh35.2.2.1 (eX7_scan (141, .return_, 1) (List.mem_of_getElem? (i := 76) rfl))
      · skip
        have d32 : x32.1 = 1 := by omega
        refine lv_aload_n hx hb (eX7_scan (127, .aload_n 1, 1) (List.mem_of_getElem? (i := 70) rfl)) rfl (lv_at hl 1 rfl) ?_
        refine ff_bipush hx hb (eX7_scan (128, .bipush 24, 2) (List.mem_of_getElem? (i := 71) rfl)) (by decide) (by decide) (fun v36 e36 => ?_)
        refine tz_rowV (As := [.int v36]) (st := [.ref rd]) (b := tx) (C := RX0) (Ts := gT) hx hb hml hown h2 (fun _ h => h) (hX0_clock l D cA ro sz H0 tx v36 24 T (x32.2) htx (by omega)) ⟨rfl, rfl⟩ ⟨by decide, by decide⟩ ⟨by decide, by decide⟩ (tb_4 52 rfl rfl) (tb_1 5 rfl rfl) (tb_4 84 rfl rfl) (tb_4 50 rfl rfl) (tb_4 51 rfl rfl) (show yX0_clock.cls ≠ "java/lang/invoke/MethodHandle" ∧ yX0_clock.cls ≠ "java/lang/invoke/VarHandle" ∧ (parseMethodDescriptor yX0_clock.desc).map (fun d => d.parameters.length) = some 1 by decide +kernel) zs_blind (zs_ob hh32 htx (show RTg[0]? = some (0, 0, 0, fsX0) from rfl) (zCX0 hKn.1)) (fun U hU hW => ⟨rfl, by rw [hU]; exact hh32.l0, zKb s U hW.alike hKn, by rw [hU]; exact j32⟩) hh32.2.2.1 hl.1 (Nat.le_of_ble_eq_true rfl) (eX7_scan (130, .invokevirtual 41, 3) (List.mem_of_getElem? (i := 72) rfl)) (fun r37 s37 t37 lo37 g37 f37 l37 => ?_)
        obtain ⟨v37, q37, e37, z37, c37, j37, fx37⟩ := f37
        cases q37
        rw [g37] at c37 fx37
        have fr37 : ∀ p9 : Nat, p9 ∉ [tx, rd] → t37.heap[p9]? = s.heap[p9]? := fun p9 h9 => (fx37 p9 (fun q => h9 (by rw [List.mem_singleton.mp q]; exact List.mem_cons_self))).trans (fr32 p9 h9)
        have hh37 : zh_ok D cA RTg ro sz H0 t37.heap lo37 := ⟨z37.1, z37.2.1, l37, z37.2.2.2⟩
        have kp37 := kp32.trans (c37.mono (ms' := dM) (by decide))
        have kf37 := ckF_up (T := T) (most := 24) (s := x32.2)
        generalize hx37 : ckF T 24 x32.2 = x37 at j37 e37 kf37
        have uu37 := j37.2.2
        unfold uOK at uu37
        have mf37_tx_0 := (c37.1 tx 0 0 0 0 fsX0 htx rfl (by decide) (by decide)).trans mf32_tx_0
        have mf37_tx_1 := (c37.1 tx 0 1 0 0 fsX0 htx rfl (by decide) (by decide)).trans mf32_tx_1
        have mf37_rd_0 := (c37.1 rd 6 0 6 0 fsX7 hrd rfl (by decide) (by decide)).trans mf32_rd_0
        have mf37_rd_1 := (c37.1 rd 6 1 6 0 fsX7 hrd rfl (by decide) (by decide)).trans mf32_rd_1
        refine W.eq (g2 := F0 m 133 ls [.int v37, .ref rd]) rfl ?_
        refine lv_goto hx hb (eX7_scan (133, .goto 5, 3) (List.mem_of_getElem? (i := 73) rfl)) (tgt := 138) rfl ?_
        refine tz_put (r := 6) (k := 4) (t := (0, (-2147483648), 2147483647)) hx hb hD hh37 hrd rfl rfl ((hcl6 24 4 (0, (-2147483648), 2147483647) (by decide) rfl).2 (by decide)) (tz_i (zn_i32 _).1 (zn_i32 _).2) (eX7_scan (138, .putfield 24, 3) (List.mem_of_getElem? (i := 75) rfl)) (fun H38 lo38 hh38 hf38 hk38 _ hq38 => ?_)
        have mf38_tx_0 := (hk38.1 tx 0 0 0 0 fsX0 htx rfl (by decide) (by decide)).trans mf37_tx_0
        have mf38_tx_1 := (hk38.1 tx 0 1 0 0 fsX0 htx rfl (by decide) (by decide)).trans mf37_tx_1
        have mf38_rd_0 := (hk38.1 rd 6 0 6 0 fsX7 hrd rfl (by decide) (by decide)).trans mf37_rd_0
        have mf38_rd_1 := (hk38.1 rd 6 1 6 0 fsX7 hrd rfl (by decide) (by decide)).trans mf37_rd_1
        have kp38 := kp37.trans (hk38.mono (ms' := dM) (fun x hx => by cases List.mem_singleton.mp hx; decide))
        have jm38 := (j37).kept htx hk38 (by decide)
        have fr38 : ∀ p9 : Nat, p9 ∉ [tx, rd] → H38[p9]? = s.heap[p9]? := fun p9 h9 => (hq38 p9 (fun e9 => h9 (by rw [e9]; exact (List.mem_cons_of_mem _ List.mem_cons_self)))).trans (fr37 p9 h9)
        obtain ⟨w2, fw2, -, -⟩ := zh_fT (k := 2) (t := (0, (-2147483648), 2147483647)) hh38 hrd (show RTg[6]? = some (0, 6, 0, fsX7) from rfl) rfl
        obtain ⟨w3, fw3, -, -⟩ := zh_fT (k := 3) (t := (0, (-2147483648), 2147483647)) hh38 hrd (show RTg[6]? = some (0, 6, 0, fsX7) from rfl) rfl
        have hfd : (dateF T sg).1 = (1, x29.1, 0, 0, x37.1) := by simp only [dateF, dKF, dMF, rdMin, hx2, hx5, hx29, hx32, hx37, if_neg d2, if_pos d5, if_pos d32]
        have hfin : (dateF T sg).2 = x37.2 := by simp only [dateF, dKF, dMF, hx2, hx5, hx29, hx32, hx37, if_neg d2, if_pos d5, if_pos d32]
        exact W.vret hx hb hr (fun t ht hW => ⟨rfl, by rw [ht]; exact hh38.l0, by rw [ht]; exact kp38, by rw [ht, hfin]; exact jm38, by rw [ht]; exact fr38, by rw [ht, hfd]; exact ⟨_, _, _, _, _, mf38_rd_0, mf38_rd_1, fw2, fw3, hf38, by show _ = (1 : Int); omega, by show _ = x29.1; omega, by show _ = x37.1; omega, fun q => absurd q (show ¬ v23.toInt = 0 by omega)⟩⟩) hh38.2.2.1 (eX7_scan (141, .return_, 1) (List.mem_of_getElem? (i := 76) rfl))
  · skip
    have d2 : x2.1 = 1 := by omega
    refine lv_aload_n hx hb (eX7_scan (9, .aload_n 0, 1) (List.mem_of_getElem? (i := 4) rfl)) rfl (lv_at hl 0 rfl) ?_
    refine ff_iconst hx hb (eX7_scan (10, .iconst 0, 1) (List.mem_of_getElem? (i := 5) rfl)) (by decide) (by decide) (fun v39 e39 => ?_)
    refine tz_put (r := 6) (k := 0) (t := (0, (-2147483648), 2147483647)) hx hb hD hh2 hrd rfl rfl ((hcl6 9 0 (0, (-2147483648), 2147483647) (by decide) rfl).2 (by decide)) (tz_i (zn_i32 _).1 (zn_i32 _).2) (eX7_scan (11, .putfield 9, 3) (List.mem_of_getElem? (i := 6) rfl)) (fun H40 lo40 hh40 hf40 hk40 _ hq40 => ?_)
    have mf40_tx_0 := (hk40.1 tx 0 0 0 0 fsX0 htx rfl (by decide) (by decide)).trans mf2_tx_0
    have mf40_tx_1 := (hk40.1 tx 0 1 0 0 fsX0 htx rfl (by decide) (by decide)).trans mf2_tx_1
    have kp40 := kp2.trans (hk40.mono (ms' := dM) (fun x hx => by cases List.mem_singleton.mp hx; decide))
    have jm40 := (j2).kept htx hk40 (by decide)
    have fr40 : ∀ p9 : Nat, p9 ∉ [tx, rd] → H40[p9]? = s.heap[p9]? := fun p9 h9 => (hq40 p9 (fun e9 => h9 (by rw [e9]; exact (List.mem_cons_of_mem _ List.mem_cons_self)))).trans (fr2 p9 h9)
    refine lv_aload_n hx hb (eX7_scan (14, .aload_n 0, 1) (List.mem_of_getElem? (i := 7) rfl)) rfl (lv_at hl 0 rfl) ?_
    refine lv_aload_n hx hb (eX7_scan (15, .aload_n 1, 1) (List.mem_of_getElem? (i := 8) rfl)) rfl (lv_at hl 1 rfl) ?_
    refine ff_iconst hx hb (eX7_scan (16, .iconst 1, 1) (List.mem_of_getElem? (i := 9) rfl)) (by decide) (by decide) (fun v41 e41 => ?_)
    refine ff_iconst hx hb (eX7_scan (17, .iconst 2, 1) (List.mem_of_getElem? (i := 10) rfl)) (by decide) (by decide) (fun v42 e42 => ?_)
    refine ff_iconst hx hb (eX7_scan (18, .iconst 1, 1) (List.mem_of_getElem? (i := 11) rfl)) (by decide) (by decide) (fun v43 e43 => ?_)
    refine ff_bipush hx hb (eX7_scan (19, .bipush 12, 2) (List.mem_of_getElem? (i := 12) rfl)) (by decide) (by decide) (fun v44 e44 => ?_)
    refine tz_rowV (As := [.int v41, .int v42, .int v43, .int v44]) (st := [.ref rd]) (b := tx) (C := RX0) (Ts := gT) hx hb hml hown h2 (fun _ h => h) (hX0_numberIn l D cA ro sz H0 tx v41 v42 v43 v44 1 2 1 12 T (x2.2) htx (by omega) (by omega) (by omega) (by omega) (by decide)) ⟨rfl, rfl⟩ ⟨by decide, by decide⟩ ⟨by decide, by decide⟩ (tb_4 56 rfl rfl) (tb_1 5 rfl rfl) (tb_4 82 rfl rfl) (tb_4 54 rfl rfl) (tb_4 55 rfl rfl) (show yX0_numberIn.cls ≠ "java/lang/invoke/MethodHandle" ∧ yX0_numberIn.cls ≠ "java/lang/invoke/VarHandle" ∧ (parseMethodDescriptor yX0_numberIn.desc).map (fun d => d.parameters.length) = some 4 by decide +kernel) zs_blind (zs_ob hh40 htx (show RTg[0]? = some (0, 0, 0, fsX0) from rfl) (zCX0 hKn.1)) (fun U hU hW => ⟨rfl, by rw [hU]; exact hh40.l0, zKb s U hW.alike hKn, by rw [hU]; exact jm40⟩) hh40.2.2.1 hl.1 (Nat.le_of_ble_eq_true rfl) (eX7_scan (21, .invokevirtual 33, 3) (List.mem_of_getElem? (i := 13) rfl)) (fun r45 s45 t45 lo45 g45 f45 l45 => ?_)
    obtain ⟨v45, q45, e45, z45, c45, j45, fx45⟩ := f45
    cases q45
    rw [g45] at c45 fx45
    have fr45 : ∀ p9 : Nat, p9 ∉ [tx, rd] → t45.heap[p9]? = s.heap[p9]? := fun p9 h9 => (fx45 p9 (fun q => h9 (by rw [List.mem_singleton.mp q]; exact List.mem_cons_self))).trans (fr40 p9 h9)
    have hh45 : zh_ok D cA RTg ro sz H0 t45.heap lo45 := ⟨z45.1, z45.2.1, l45, z45.2.2.2⟩
    have kp45 := kp40.trans (c45.mono (ms' := dM) (by decide))
    have kf45 := niF_2 (T := T) (ld := 1) (lo := 1) (hi := 12) (s := x2.2)
    generalize hx45 : niF T 1 2 1 12 x2.2 = x45 at j45 e45 kf45
    have uu45 := j45.2.2
    unfold uOK at uu45
    have mf45_tx_0 := (c45.1 tx 0 0 0 0 fsX0 htx rfl (by decide) (by decide)).trans mf40_tx_0
    have mf45_tx_1 := (c45.1 tx 0 1 0 0 fsX0 htx rfl (by decide) (by decide)).trans mf40_tx_1
    have mf45_rd_0 := (c45.1 rd 6 0 6 0 fsX7 hrd rfl (by decide) (by decide)).trans hf40
    refine W.eq (g2 := F0 m 24 ls [.int v45, .ref rd]) rfl ?_
    refine tz_put (r := 6) (k := 1) (t := (0, (-2147483648), 2147483647)) hx hb hD hh45 hrd rfl rfl ((hcl6 15 1 (0, (-2147483648), 2147483647) (by decide) rfl).2 (by decide)) (tz_i (zn_i32 _).1 (zn_i32 _).2) (eX7_scan (24, .putfield 15, 3) (List.mem_of_getElem? (i := 14) rfl)) (fun H46 lo46 hh46 hf46 hk46 _ hq46 => ?_)
    have mf46_tx_0 := (hk46.1 tx 0 0 0 0 fsX0 htx rfl (by decide) (by decide)).trans mf45_tx_0
    have mf46_tx_1 := (hk46.1 tx 0 1 0 0 fsX0 htx rfl (by decide) (by decide)).trans mf45_tx_1
    have mf46_rd_0 := (hk46.1 rd 6 0 6 0 fsX7 hrd rfl (by decide) (by decide)).trans mf45_rd_0
    have kp46 := kp45.trans (hk46.mono (ms' := dM) (fun x hx => by cases List.mem_singleton.mp hx; decide))
    have jm46 := (j45).kept htx hk46 (by decide)
    have fr46 : ∀ p9 : Nat, p9 ∉ [tx, rd] → H46[p9]? = s.heap[p9]? := fun p9 h9 => (hq46 p9 (fun e9 => h9 (by rw [e9]; exact (List.mem_cons_of_mem _ List.mem_cons_self)))).trans (fr45 p9 h9)
    refine lv_aload_n hx hb (eX7_scan (27, .aload_n 1, 1) (List.mem_of_getElem? (i := 15) rfl)) rfl (lv_at hl 1 rfl) ?_
    refine ff_bipush hx hb (eX7_scan (28, .bipush 46, 2) (List.mem_of_getElem? (i := 16) rfl)) (by decide) (by decide) (fun v47 e47 => ?_)
    refine tz_rowV (As := [.int v47]) (st := []) (b := tx) (C := RX0) (Ts := gT) hx hb hml hown h2 (fun _ h => h) (hX0_need l D cA ro sz H0 tx v47 46 T (x45.2) htx (by omega) (by decide)) ⟨rfl, rfl⟩ ⟨by decide, by decide⟩ ⟨by decide, by decide⟩ (tb_4 44 rfl rfl) (tb_1 5 rfl rfl) (tb_4 83 rfl rfl) (tb_4 42 rfl rfl) (tb_4 43 rfl rfl) (show yX0_need.cls ≠ "java/lang/invoke/MethodHandle" ∧ yX0_need.cls ≠ "java/lang/invoke/VarHandle" ∧ (parseMethodDescriptor yX0_need.desc).map (fun d => d.parameters.length) = some 1 by decide +kernel) zs_blind (zs_ob hh46 htx (show RTg[0]? = some (0, 0, 0, fsX0) from rfl) (zCX0 hKn.1)) (fun U hU hW => ⟨rfl, by rw [hU]; exact hh46.l0, zKb s U hW.alike hKn, by rw [hU]; exact jm46⟩) hh46.2.2.1 hl.1 (Nat.le_of_ble_eq_true rfl) (eX7_scan (30, .invokevirtual 37, 3) (List.mem_of_getElem? (i := 17) rfl)) (fun r48 s48 t48 lo48 g48 f48 l48 => ?_)
    obtain ⟨q48, z48, c48, j48, fx48⟩ := f48
    cases q48
    rw [g48] at c48 fx48
    have fr48 : ∀ p9 : Nat, p9 ∉ [tx, rd] → t48.heap[p9]? = s.heap[p9]? := fun p9 h9 => (fx48 p9 (fun q => h9 (by rw [List.mem_singleton.mp q]; exact List.mem_cons_self))).trans (fr46 p9 h9)
    have hh48 : zh_ok D cA RTg ro sz H0 t48.heap lo48 := ⟨z48.1, z48.2.1, l48, z48.2.2.2⟩
    have kp48 := kp46.trans (c48.mono (ms' := dM) (by decide))
    generalize hx48 : ndF T 46 x45.2 = x48 at j48
    have uu48 := j48.2.2
    unfold uOK at uu48
    have mf48_tx_0 := (c48.1 tx 0 0 0 0 fsX0 htx rfl (by decide) (by decide)).trans mf46_tx_0
    have mf48_tx_1 := (c48.1 tx 0 1 0 0 fsX0 htx rfl (by decide) (by decide)).trans mf46_tx_1
    have mf48_rd_0 := (c48.1 rd 6 0 6 0 fsX7 hrd rfl (by decide) (by decide)).trans mf46_rd_0
    have mf48_rd_1 := (c48.1 rd 6 1 6 0 fsX7 hrd rfl (by decide) (by decide)).trans hf46
    refine W.eq (g2 := F0 m 33 ls []) rfl ?_
    refine lv_aload_n hx hb (eX7_scan (33, .aload_n 0, 1) (List.mem_of_getElem? (i := 18) rfl)) rfl (lv_at hl 0 rfl) ?_
    refine lv_aload_n hx hb (eX7_scan (34, .aload_n 1, 1) (List.mem_of_getElem? (i := 19) rfl)) rfl (lv_at hl 1 rfl) ?_
    refine ff_iconst hx hb (eX7_scan (35, .iconst 1, 1) (List.mem_of_getElem? (i := 20) rfl)) (by decide) (by decide) (fun v49 e49 => ?_)
    refine ff_iconst hx hb (eX7_scan (36, .iconst 1, 1) (List.mem_of_getElem? (i := 21) rfl)) (by decide) (by decide) (fun v50 e50 => ?_)
    refine ff_iconst hx hb (eX7_scan (37, .iconst 1, 1) (List.mem_of_getElem? (i := 22) rfl)) (by decide) (by decide) (fun v51 e51 => ?_)
    refine ff_iconst hx hb (eX7_scan (38, .iconst 5, 1) (List.mem_of_getElem? (i := 23) rfl)) (by decide) (by decide) (fun v52 e52 => ?_)
    refine tz_rowV (As := [.int v49, .int v50, .int v51, .int v52]) (st := [.ref rd]) (b := tx) (C := RX0) (Ts := gT) hx hb hml hown h2 (fun _ h => h) (hX0_numberIn l D cA ro sz H0 tx v49 v50 v51 v52 1 1 1 5 T (x48) htx (by omega) (by omega) (by omega) (by omega) (by decide)) ⟨rfl, rfl⟩ ⟨by decide, by decide⟩ ⟨by decide, by decide⟩ (tb_4 56 rfl rfl) (tb_1 5 rfl rfl) (tb_4 82 rfl rfl) (tb_4 54 rfl rfl) (tb_4 55 rfl rfl) (show yX0_numberIn.cls ≠ "java/lang/invoke/MethodHandle" ∧ yX0_numberIn.cls ≠ "java/lang/invoke/VarHandle" ∧ (parseMethodDescriptor yX0_numberIn.desc).map (fun d => d.parameters.length) = some 4 by decide +kernel) zs_blind (zs_ob hh48 htx (show RTg[0]? = some (0, 0, 0, fsX0) from rfl) (zCX0 hKn.1)) (fun U hU hW => ⟨rfl, by rw [hU]; exact hh48.l0, zKb s U hW.alike hKn, by rw [hU]; exact j48⟩) hh48.2.2.1 hl.1 (Nat.le_of_ble_eq_true rfl) (eX7_scan (39, .invokevirtual 33, 3) (List.mem_of_getElem? (i := 24) rfl)) (fun r53 s53 t53 lo53 g53 f53 l53 => ?_)
    obtain ⟨v53, q53, e53, z53, c53, j53, fx53⟩ := f53
    cases q53
    rw [g53] at c53 fx53
    have fr53 : ∀ p9 : Nat, p9 ∉ [tx, rd] → t53.heap[p9]? = s.heap[p9]? := fun p9 h9 => (fx53 p9 (fun q => h9 (by rw [List.mem_singleton.mp q]; exact List.mem_cons_self))).trans (fr48 p9 h9)
    have hh53 : zh_ok D cA RTg ro sz H0 t53.heap lo53 := ⟨z53.1, z53.2.1, l53, z53.2.2.2⟩
    have kp53 := kp48.trans (c53.mono (ms' := dM) (by decide))
    have kf53 := niF_1 (T := T) (ld := 1) (lo := 1) (hi := 5) (s := x48)
    generalize hx53 : niF T 1 1 1 5 x48 = x53 at j53 e53 kf53
    have uu53 := j53.2.2
    unfold uOK at uu53
    have mf53_tx_0 := (c53.1 tx 0 0 0 0 fsX0 htx rfl (by decide) (by decide)).trans mf48_tx_0
    have mf53_tx_1 := (c53.1 tx 0 1 0 0 fsX0 htx rfl (by decide) (by decide)).trans mf48_tx_1
    have mf53_rd_0 := (c53.1 rd 6 0 6 0 fsX7 hrd rfl (by decide) (by decide)).trans mf48_rd_0
    have mf53_rd_1 := (c53.1 rd 6 1 6 0 fsX7 hrd rfl (by decide) (by decide)).trans mf48_rd_1
    refine W.eq (g2 := F0 m 42 ls [.int v53, .ref rd]) rfl ?_
    refine tz_put (r := 6) (k := 2) (t := (0, (-2147483648), 2147483647)) hx hb hD hh53 hrd rfl rfl ((hcl6 18 2 (0, (-2147483648), 2147483647) (by decide) rfl).2 (by decide)) (tz_i (zn_i32 _).1 (zn_i32 _).2) (eX7_scan (42, .putfield 18, 3) (List.mem_of_getElem? (i := 25) rfl)) (fun H54 lo54 hh54 hf54 hk54 _ hq54 => ?_)
    have mf54_tx_0 := (hk54.1 tx 0 0 0 0 fsX0 htx rfl (by decide) (by decide)).trans mf53_tx_0
    have mf54_tx_1 := (hk54.1 tx 0 1 0 0 fsX0 htx rfl (by decide) (by decide)).trans mf53_tx_1
    have mf54_rd_0 := (hk54.1 rd 6 0 6 0 fsX7 hrd rfl (by decide) (by decide)).trans mf53_rd_0
    have mf54_rd_1 := (hk54.1 rd 6 1 6 0 fsX7 hrd rfl (by decide) (by decide)).trans mf53_rd_1
    have kp54 := kp53.trans (hk54.mono (ms' := dM) (fun x hx => by cases List.mem_singleton.mp hx; decide))
    have jm54 := (j53).kept htx hk54 (by decide)
    have fr54 : ∀ p9 : Nat, p9 ∉ [tx, rd] → H54[p9]? = s.heap[p9]? := fun p9 h9 => (hq54 p9 (fun e9 => h9 (by rw [e9]; exact (List.mem_cons_of_mem _ List.mem_cons_self)))).trans (fr53 p9 h9)
    refine lv_aload_n hx hb (eX7_scan (45, .aload_n 1, 1) (List.mem_of_getElem? (i := 26) rfl)) rfl (lv_at hl 1 rfl) ?_
    refine ff_bipush hx hb (eX7_scan (46, .bipush 46, 2) (List.mem_of_getElem? (i := 27) rfl)) (by decide) (by decide) (fun v55 e55 => ?_)
    refine tz_rowV (As := [.int v55]) (st := []) (b := tx) (C := RX0) (Ts := gT) hx hb hml hown h2 (fun _ h => h) (hX0_need l D cA ro sz H0 tx v55 46 T (x53.2) htx (by omega) (by decide)) ⟨rfl, rfl⟩ ⟨by decide, by decide⟩ ⟨by decide, by decide⟩ (tb_4 44 rfl rfl) (tb_1 5 rfl rfl) (tb_4 83 rfl rfl) (tb_4 42 rfl rfl) (tb_4 43 rfl rfl) (show yX0_need.cls ≠ "java/lang/invoke/MethodHandle" ∧ yX0_need.cls ≠ "java/lang/invoke/VarHandle" ∧ (parseMethodDescriptor yX0_need.desc).map (fun d => d.parameters.length) = some 1 by decide +kernel) zs_blind (zs_ob hh54 htx (show RTg[0]? = some (0, 0, 0, fsX0) from rfl) (zCX0 hKn.1)) (fun U hU hW => ⟨rfl, by rw [hU]; exact hh54.l0, zKb s U hW.alike hKn, by rw [hU]; exact jm54⟩) hh54.2.2.1 hl.1 (Nat.le_of_ble_eq_true rfl) (eX7_scan (48, .invokevirtual 37, 3) (List.mem_of_getElem? (i := 28) rfl)) (fun r56 s56 t56 lo56 g56 f56 l56 => ?_)
    obtain ⟨q56, z56, c56, j56, fx56⟩ := f56
    cases q56
    rw [g56] at c56 fx56
    have fr56 : ∀ p9 : Nat, p9 ∉ [tx, rd] → t56.heap[p9]? = s.heap[p9]? := fun p9 h9 => (fx56 p9 (fun q => h9 (by rw [List.mem_singleton.mp q]; exact List.mem_cons_self))).trans (fr54 p9 h9)
    have hh56 : zh_ok D cA RTg ro sz H0 t56.heap lo56 := ⟨z56.1, z56.2.1, l56, z56.2.2.2⟩
    have kp56 := kp54.trans (c56.mono (ms' := dM) (by decide))
    generalize hx56 : ndF T 46 x53.2 = x56 at j56
    have uu56 := j56.2.2
    unfold uOK at uu56
    have mf56_tx_0 := (c56.1 tx 0 0 0 0 fsX0 htx rfl (by decide) (by decide)).trans mf54_tx_0
    have mf56_tx_1 := (c56.1 tx 0 1 0 0 fsX0 htx rfl (by decide) (by decide)).trans mf54_tx_1
    have mf56_rd_0 := (c56.1 rd 6 0 6 0 fsX7 hrd rfl (by decide) (by decide)).trans mf54_rd_0
    have mf56_rd_1 := (c56.1 rd 6 1 6 0 fsX7 hrd rfl (by decide) (by decide)).trans mf54_rd_1
    have mf56_rd_2 := (c56.1 rd 6 2 6 0 fsX7 hrd rfl (by decide) (by decide)).trans hf54
    refine W.eq (g2 := F0 m 51 ls []) rfl ?_
    refine lv_aload_n hx hb (eX7_scan (51, .aload_n 0, 1) (List.mem_of_getElem? (i := 29) rfl)) rfl (lv_at hl 0 rfl) ?_
    refine lv_aload_n hx hb (eX7_scan (52, .aload_n 1, 1) (List.mem_of_getElem? (i := 30) rfl)) rfl (lv_at hl 1 rfl) ?_
    refine ff_iconst hx hb (eX7_scan (53, .iconst 1, 1) (List.mem_of_getElem? (i := 31) rfl)) (by decide) (by decide) (fun v57 e57 => ?_)
    refine ff_iconst hx hb (eX7_scan (54, .iconst 1, 1) (List.mem_of_getElem? (i := 32) rfl)) (by decide) (by decide) (fun v58 e58 => ?_)
    refine ff_iconst hx hb (eX7_scan (55, .iconst 0, 1) (List.mem_of_getElem? (i := 33) rfl)) (by decide) (by decide) (fun v59 e59 => ?_)
    refine ff_bipush hx hb (eX7_scan (56, .bipush 6, 2) (List.mem_of_getElem? (i := 34) rfl)) (by decide) (by decide) (fun v60 e60 => ?_)
    refine tz_rowV (As := [.int v57, .int v58, .int v59, .int v60]) (st := [.ref rd]) (b := tx) (C := RX0) (Ts := gT) hx hb hml hown h2 (fun _ h => h) (hX0_numberIn l D cA ro sz H0 tx v57 v58 v59 v60 1 1 0 6 T (x56) htx (by omega) (by omega) (by omega) (by omega) (by decide)) ⟨rfl, rfl⟩ ⟨by decide, by decide⟩ ⟨by decide, by decide⟩ (tb_4 56 rfl rfl) (tb_1 5 rfl rfl) (tb_4 82 rfl rfl) (tb_4 54 rfl rfl) (tb_4 55 rfl rfl) (show yX0_numberIn.cls ≠ "java/lang/invoke/MethodHandle" ∧ yX0_numberIn.cls ≠ "java/lang/invoke/VarHandle" ∧ (parseMethodDescriptor yX0_numberIn.desc).map (fun d => d.parameters.length) = some 4 by decide +kernel) zs_blind (zs_ob hh56 htx (show RTg[0]? = some (0, 0, 0, fsX0) from rfl) (zCX0 hKn.1)) (fun U hU hW => ⟨rfl, by rw [hU]; exact hh56.l0, zKb s U hW.alike hKn, by rw [hU]; exact j56⟩) hh56.2.2.1 hl.1 (Nat.le_of_ble_eq_true rfl) (eX7_scan (58, .invokevirtual 33, 3) (List.mem_of_getElem? (i := 35) rfl)) (fun r61 s61 t61 lo61 g61 f61 l61 => ?_)
    obtain ⟨v61, q61, e61, z61, c61, j61, fx61⟩ := f61
    cases q61
    rw [g61] at c61 fx61
    have fr61 : ∀ p9 : Nat, p9 ∉ [tx, rd] → t61.heap[p9]? = s.heap[p9]? := fun p9 h9 => (fx61 p9 (fun q => h9 (by rw [List.mem_singleton.mp q]; exact List.mem_cons_self))).trans (fr56 p9 h9)
    have hh61 : zh_ok D cA RTg ro sz H0 t61.heap lo61 := ⟨z61.1, z61.2.1, l61, z61.2.2.2⟩
    have kp61 := kp56.trans (c61.mono (ms' := dM) (by decide))
    have kf61 := niF_1 (T := T) (ld := 1) (lo := 0) (hi := 6) (s := x56)
    generalize hx61 : niF T 1 1 0 6 x56 = x61 at j61 e61 kf61
    have uu61 := j61.2.2
    unfold uOK at uu61
    have mf61_tx_0 := (c61.1 tx 0 0 0 0 fsX0 htx rfl (by decide) (by decide)).trans mf56_tx_0
    have mf61_tx_1 := (c61.1 tx 0 1 0 0 fsX0 htx rfl (by decide) (by decide)).trans mf56_tx_1
    have mf61_rd_0 := (c61.1 rd 6 0 6 0 fsX7 hrd rfl (by decide) (by decide)).trans mf56_rd_0
    have mf61_rd_1 := (c61.1 rd 6 1 6 0 fsX7 hrd rfl (by decide) (by decide)).trans mf56_rd_1
    have mf61_rd_2 := (c61.1 rd 6 2 6 0 fsX7 hrd rfl (by decide) (by decide)).trans mf56_rd_2
    refine W.eq (g2 := F0 m 61 ls [.int v61, .ref rd]) rfl ?_
    refine tz_put (r := 6) (k := 3) (t := (0, (-2147483648), 2147483647)) hx hb hD hh61 hrd rfl rfl ((hcl6 21 3 (0, (-2147483648), 2147483647) (by decide) rfl).2 (by decide)) (tz_i (zn_i32 _).1 (zn_i32 _).2) (eX7_scan (61, .putfield 21, 3) (List.mem_of_getElem? (i := 36) rfl)) (fun H62 lo62 hh62 hf62 hk62 _ hq62 => ?_)
    have mf62_tx_0 := (hk62.1 tx 0 0 0 0 fsX0 htx rfl (by decide) (by decide)).trans mf61_tx_0
    have mf62_tx_1 := (hk62.1 tx 0 1 0 0 fsX0 htx rfl (by decide) (by decide)).trans mf61_tx_1
    have mf62_rd_0 := (hk62.1 rd 6 0 6 0 fsX7 hrd rfl (by decide) (by decide)).trans mf61_rd_0
    have mf62_rd_1 := (hk62.1 rd 6 1 6 0 fsX7 hrd rfl (by decide) (by decide)).trans mf61_rd_1
    have mf62_rd_2 := (hk62.1 rd 6 2 6 0 fsX7 hrd rfl (by decide) (by decide)).trans mf61_rd_2
    have kp62 := kp61.trans (hk62.mono (ms' := dM) (fun x hx => by cases List.mem_singleton.mp hx; decide))
    have jm62 := (j61).kept htx hk62 (by decide)
    have fr62 : ∀ p9 : Nat, p9 ∉ [tx, rd] → H62[p9]? = s.heap[p9]? := fun p9 h9 => (hq62 p9 (fun e9 => h9 (by rw [e9]; exact (List.mem_cons_of_mem _ List.mem_cons_self)))).trans (fr61 p9 h9)
    refine lv_goto hx hb (eX7_scan (64, .goto 53, 3) (List.mem_of_getElem? (i := 37) rfl)) (tgt := 117) rfl ?_
    refine lv_aload_n hx hb (eX7_scan (117, .aload_n 0, 1) (List.mem_of_getElem? (i := 65) rfl)) rfl (lv_at hl 0 rfl) ?_
    refine lv_aload_n hx hb (eX7_scan (118, .aload_n 1, 1) (List.mem_of_getElem? (i := 66) rfl)) rfl (lv_at hl 1 rfl) ?_
    refine ff_bipush hx hb (eX7_scan (119, .bipush 47, 2) (List.mem_of_getElem? (i := 67) rfl)) (by decide) (by decide) (fun v63 e63 => ?_)
    refine tz_rowV (As := [.int v63]) (st := [.ref rd]) (b := tx) (C := RX0) (Ts := gT) hx hb hml hown h2 (fun _ h => h) (hX0_take l D cA ro sz H0 tx v63 47 T (x61.2) htx (by omega) (by decide)) ⟨rfl, rfl⟩ ⟨by decide, by decide⟩ ⟨by decide, by decide⟩ (tb_4 8 rfl rfl) (tb_1 5 rfl rfl) (tb_4 81 rfl rfl) (tb_4 6 rfl rfl) (tb_4 7 rfl rfl) (show yX0_take.cls ≠ "java/lang/invoke/MethodHandle" ∧ yX0_take.cls ≠ "java/lang/invoke/VarHandle" ∧ (parseMethodDescriptor yX0_take.desc).map (fun d => d.parameters.length) = some 1 by decide +kernel) zs_blind (zs_ob hh62 htx (show RTg[0]? = some (0, 0, 0, fsX0) from rfl) (zCX0 hKn.1)) (fun U hU hW => ⟨rfl, by rw [hU]; exact hh62.l0, zKb s U hW.alike hKn, by rw [hU]; exact jm62⟩) hh62.2.2.1 hl.1 (Nat.le_of_ble_eq_true rfl) (eX7_scan (121, .invokevirtual 27, 3) (List.mem_of_getElem? (i := 68) rfl)) (fun r64 s64 t64 lo64 g64 f64 l64 => ?_)
    obtain ⟨v64, q64, e64, z64, c64, j64, fx64⟩ := f64
    cases q64
    rw [g64] at c64 fx64
    have fr64 : ∀ p9 : Nat, p9 ∉ [tx, rd] → t64.heap[p9]? = s.heap[p9]? := fun p9 h9 => (fx64 p9 (fun q => h9 (by rw [List.mem_singleton.mp q]; exact List.mem_cons_self))).trans (fr62 p9 h9)
    have hh64 : zh_ok D cA RTg ro sz H0 t64.heap lo64 := ⟨z64.1, z64.2.1, l64, z64.2.2.2⟩
    have kp64 := kp62.trans (c64.mono (ms' := dM) (by decide))
    have kf64 := tkF_01 T 47 x61.2
    generalize hx64 : tkF T 47 x61.2 = x64 at j64 e64 kf64
    have uu64 := j64.2.2
    unfold uOK at uu64
    have mf64_tx_0 := (c64.1 tx 0 0 0 0 fsX0 htx rfl (by decide) (by decide)).trans mf62_tx_0
    have mf64_tx_1 := (c64.1 tx 0 1 0 0 fsX0 htx rfl (by decide) (by decide)).trans mf62_tx_1
    have mf64_rd_0 := (c64.1 rd 6 0 6 0 fsX7 hrd rfl (by decide) (by decide)).trans mf62_rd_0
    have mf64_rd_1 := (c64.1 rd 6 1 6 0 fsX7 hrd rfl (by decide) (by decide)).trans mf62_rd_1
    have mf64_rd_2 := (c64.1 rd 6 2 6 0 fsX7 hrd rfl (by decide) (by decide)).trans mf62_rd_2
    have mf64_rd_3 := (c64.1 rd 6 3 6 0 fsX7 hrd rfl (by decide) (by decide)).trans hf62
    refine W.eq (g2 := F0 m 124 ls [.int v64, .ref rd]) rfl ?_
    refine ff_if_eq hx hb (eX7_scan (124, .ifCond .eq 12, 3) (List.mem_of_getElem? (i := 69) rfl)) (tgt := 136) rfl (fun c65 => ?_) (fun c65 => ?_)
    · skip
      have d64 : ¬ x64.1 = 1 := by omega
      refine ff_bipush hx hb (eX7_scan (136, .bipush 120, 2) (List.mem_of_getElem? (i := 74) rfl)) (by decide) (by decide) (fun v66 e66 => ?_)
      refine tz_put (r := 6) (k := 4) (t := (0, (-2147483648), 2147483647)) hx hb hD hh64 hrd rfl rfl ((hcl6 24 4 (0, (-2147483648), 2147483647) (by decide) rfl).2 (by decide)) (tz_i (zn_i32 _).1 (zn_i32 _).2) (eX7_scan (138, .putfield 24, 3) (List.mem_of_getElem? (i := 75) rfl)) (fun H67 lo67 hh67 hf67 hk67 _ hq67 => ?_)
      have mf67_tx_0 := (hk67.1 tx 0 0 0 0 fsX0 htx rfl (by decide) (by decide)).trans mf64_tx_0
      have mf67_tx_1 := (hk67.1 tx 0 1 0 0 fsX0 htx rfl (by decide) (by decide)).trans mf64_tx_1
      have mf67_rd_0 := (hk67.1 rd 6 0 6 0 fsX7 hrd rfl (by decide) (by decide)).trans mf64_rd_0
      have mf67_rd_1 := (hk67.1 rd 6 1 6 0 fsX7 hrd rfl (by decide) (by decide)).trans mf64_rd_1
      have mf67_rd_2 := (hk67.1 rd 6 2 6 0 fsX7 hrd rfl (by decide) (by decide)).trans mf64_rd_2
      have mf67_rd_3 := (hk67.1 rd 6 3 6 0 fsX7 hrd rfl (by decide) (by decide)).trans mf64_rd_3
      have kp67 := kp64.trans (hk67.mono (ms' := dM) (fun x hx => by cases List.mem_singleton.mp hx; decide))
      have jm67 := (j64).kept htx hk67 (by decide)
      have fr67 : ∀ p9 : Nat, p9 ∉ [tx, rd] → H67[p9]? = s.heap[p9]? := fun p9 h9 => (hq67 p9 (fun e9 => h9 (by rw [e9]; exact (List.mem_cons_of_mem _ List.mem_cons_self)))).trans (fr64 p9 h9)
      have hfd : (dateF T sg).1 = (0, x45.1, x53.1, x61.1, 120) := by simp only [dateF, dKF, dMF, rdMin, hx2, hx45, hx48, hx53, hx56, hx61, hx64, if_pos d2, if_neg d64]
      have hfin : (dateF T sg).2 = x64.2 := by simp only [dateF, dKF, dMF, hx2, hx45, hx48, hx53, hx56, hx61, hx64, if_pos d2, if_neg d64]
      exact W.vret hx hb hr (fun t ht hW => ⟨rfl, by rw [ht]; exact hh67.l0, by rw [ht]; exact kp67, by rw [ht, hfin]; exact jm67, by rw [ht]; exact fr67, by rw [ht, hfd]; exact ⟨_, _, _, _, _, mf67_rd_0, mf67_rd_1, mf67_rd_2, mf67_rd_3, hf67, by show _ = (0 : Int); omega, by show _ = x45.1; omega, by show _ = (120 : Int); omega, fun _ => ⟨by show _ = x53.1; omega, by show _ = x61.1; omega⟩⟩⟩) hh67.2.2.1 (eX7_scan (141, .return_, 1) (List.mem_of_getElem? (i := 76) rfl))
    · skip
      have d64 : x64.1 = 1 := by omega
      refine lv_aload_n hx hb (eX7_scan (127, .aload_n 1, 1) (List.mem_of_getElem? (i := 70) rfl)) rfl (lv_at hl 1 rfl) ?_
      refine ff_bipush hx hb (eX7_scan (128, .bipush 24, 2) (List.mem_of_getElem? (i := 71) rfl)) (by decide) (by decide) (fun v68 e68 => ?_)
      refine tz_rowV (As := [.int v68]) (st := [.ref rd]) (b := tx) (C := RX0) (Ts := gT) hx hb hml hown h2 (fun _ h => h) (hX0_clock l D cA ro sz H0 tx v68 24 T (x64.2) htx (by omega)) ⟨rfl, rfl⟩ ⟨by decide, by decide⟩ ⟨by decide, by decide⟩ (tb_4 52 rfl rfl) (tb_1 5 rfl rfl) (tb_4 84 rfl rfl) (tb_4 50 rfl rfl) (tb_4 51 rfl rfl) (show yX0_clock.cls ≠ "java/lang/invoke/MethodHandle" ∧ yX0_clock.cls ≠ "java/lang/invoke/VarHandle" ∧ (parseMethodDescriptor yX0_clock.desc).map (fun d => d.parameters.length) = some 1 by decide +kernel) zs_blind (zs_ob hh64 htx (show RTg[0]? = some (0, 0, 0, fsX0) from rfl) (zCX0 hKn.1)) (fun U hU hW => ⟨rfl, by rw [hU]; exact hh64.l0, zKb s U hW.alike hKn, by rw [hU]; exact j64⟩) hh64.2.2.1 hl.1 (Nat.le_of_ble_eq_true rfl) (eX7_scan (130, .invokevirtual 41, 3) (List.mem_of_getElem? (i := 72) rfl)) (fun r69 s69 t69 lo69 g69 f69 l69 => ?_)
      obtain ⟨v69, q69, e69, z69, c69, j69, fx69⟩ := f69
      cases q69
      rw [g69] at c69 fx69
      have fr69 : ∀ p9 : Nat, p9 ∉ [tx, rd] → t69.heap[p9]? = s.heap[p9]? := fun p9 h9 => (fx69 p9 (fun q => h9 (by rw [List.mem_singleton.mp q]; exact List.mem_cons_self))).trans (fr64 p9 h9)
      have hh69 : zh_ok D cA RTg ro sz H0 t69.heap lo69 := ⟨z69.1, z69.2.1, l69, z69.2.2.2⟩
      have kp69 := kp64.trans (c69.mono (ms' := dM) (by decide))
      have kf69 := ckF_up (T := T) (most := 24) (s := x64.2)
      generalize hx69 : ckF T 24 x64.2 = x69 at j69 e69 kf69
      have uu69 := j69.2.2
      unfold uOK at uu69
      have mf69_tx_0 := (c69.1 tx 0 0 0 0 fsX0 htx rfl (by decide) (by decide)).trans mf64_tx_0
      have mf69_tx_1 := (c69.1 tx 0 1 0 0 fsX0 htx rfl (by decide) (by decide)).trans mf64_tx_1
      have mf69_rd_0 := (c69.1 rd 6 0 6 0 fsX7 hrd rfl (by decide) (by decide)).trans mf64_rd_0
      have mf69_rd_1 := (c69.1 rd 6 1 6 0 fsX7 hrd rfl (by decide) (by decide)).trans mf64_rd_1
      have mf69_rd_2 := (c69.1 rd 6 2 6 0 fsX7 hrd rfl (by decide) (by decide)).trans mf64_rd_2
      have mf69_rd_3 := (c69.1 rd 6 3 6 0 fsX7 hrd rfl (by decide) (by decide)).trans mf64_rd_3
      refine W.eq (g2 := F0 m 133 ls [.int v69, .ref rd]) rfl ?_
      refine lv_goto hx hb (eX7_scan (133, .goto 5, 3) (List.mem_of_getElem? (i := 73) rfl)) (tgt := 138) rfl ?_
      refine tz_put (r := 6) (k := 4) (t := (0, (-2147483648), 2147483647)) hx hb hD hh69 hrd rfl rfl ((hcl6 24 4 (0, (-2147483648), 2147483647) (by decide) rfl).2 (by decide)) (tz_i (zn_i32 _).1 (zn_i32 _).2) (eX7_scan (138, .putfield 24, 3) (List.mem_of_getElem? (i := 75) rfl)) (fun H70 lo70 hh70 hf70 hk70 _ hq70 => ?_)
      have mf70_tx_0 := (hk70.1 tx 0 0 0 0 fsX0 htx rfl (by decide) (by decide)).trans mf69_tx_0
      have mf70_tx_1 := (hk70.1 tx 0 1 0 0 fsX0 htx rfl (by decide) (by decide)).trans mf69_tx_1
      have mf70_rd_0 := (hk70.1 rd 6 0 6 0 fsX7 hrd rfl (by decide) (by decide)).trans mf69_rd_0
      have mf70_rd_1 := (hk70.1 rd 6 1 6 0 fsX7 hrd rfl (by decide) (by decide)).trans mf69_rd_1
      have mf70_rd_2 := (hk70.1 rd 6 2 6 0 fsX7 hrd rfl (by decide) (by decide)).trans mf69_rd_2
      have mf70_rd_3 := (hk70.1 rd 6 3 6 0 fsX7 hrd rfl (by decide) (by decide)).trans mf69_rd_3
      have kp70 := kp69.trans (hk70.mono (ms' := dM) (fun x hx => by cases List.mem_singleton.mp hx; decide))
      have jm70 := (j69).kept htx hk70 (by decide)
      have fr70 : ∀ p9 : Nat, p9 ∉ [tx, rd] → H70[p9]? = s.heap[p9]? := fun p9 h9 => (hq70 p9 (fun e9 => h9 (by rw [e9]; exact (List.mem_cons_of_mem _ List.mem_cons_self)))).trans (fr69 p9 h9)
      have hfd : (dateF T sg).1 = (0, x45.1, x53.1, x61.1, x69.1) := by simp only [dateF, dKF, dMF, rdMin, hx2, hx45, hx48, hx53, hx56, hx61, hx64, hx69, if_pos d2, if_pos d64]
      have hfin : (dateF T sg).2 = x69.2 := by simp only [dateF, dKF, dMF, hx2, hx45, hx48, hx53, hx56, hx61, hx64, hx69, if_pos d2, if_pos d64]
      exact W.vret hx hb hr (fun t ht hW => ⟨rfl, by rw [ht]; exact hh70.l0, by rw [ht]; exact kp70, by rw [ht, hfin]; exact jm70, by rw [ht]; exact fr70, by rw [ht, hfd]; exact ⟨_, _, _, _, _, mf70_rd_0, mf70_rd_1, mf70_rd_2, mf70_rd_3, hf70, by show _ = (0 : Int); omega, by show _ = x45.1; omega, by show _ = x69.1; omega, fun _ => ⟨by show _ = x53.1; omega, by show _ = x61.1; omega⟩⟩⟩) hh70.2.2.1 (eX7_scan (141, .return_, 1) (List.mem_of_getElem? (i := 76) rfl))
set_option maxRecDepth 100000 in
set_option maxHeartbeats 4000000 in
theorem hX6_scanSecondOffset (l : Launch) (D : va_G) (cA : Nat → ClassId) (ro : Nat → Option Nat) (sz : Nat) (H0 : Heap) (ru : Nat) (tx : Nat) (h0 : Int32) (fv : Int32) (k1 k2 : Int) (T : List Int) (sg : uS) (hru : ro ru = some 5) (htx : ro tx = some 0) (hk1 : h0.toInt = k1) (hk2 : fv.toInt = k2) (hfb : -6039 ≤ fv.toInt ∧ fv.toInt ≤ 6039) : Met l yX6_scanSecondOffset (gW yX6_scanSecondOffset cX6_scanSecondOffset 4 none) { frames := 4, cells := 0, slots := 0, locals := 94 } (zs_P D cA ro sz H0 (fun H => jU D cA ro H tx T sg ∧ zh_f D H ru 5 1 = .int fv) [.ref ru, .ref tx, .int h0]) (fun _ st oc t => oc = .returned none ∧ zh_ok D cA RTg ro sz H0 t.heap [] ∧ zc_kept D RTg ro sM st.heap t.heap ∧ jU D cA ro t.heap tx T (secF T k1 k2 sg).2 ∧ (∀ p9 : Nat, p9 ∉ [tx, ru] → t.heap[p9]? = st.heap[p9]?) ∧ ∃ sv : Int32, zh_f D t.heap ru 5 2 = .int sv ∧ sv.toInt = (secF T k1 k2 sg).1) 0 0 (zy_fr sz) := by
  refine zy_ofW (cc := cX6_scanSecondOffset) (maxL := 4) (ret := none) (by decide +kernel) rfl ?_
  intro p e s m args below meth c s1 B hml hv
  obtain ⟨rfl, hh, hKn, hJ⟩ := hv
  have hx := B.exec
  have hb := B.bytes
  have hr := B.returns
  have hlk := B.notSynchronized
  have hts0 := atoms_spec (ws := gW yX6_scanSecondOffset cX6_scanSecondOffset 4 none) B.pre
  have h2 : ∀ w ∈ gT, w.before ([.ref ru, .ref tx, .int h0] : List Value).toArray s = true := fun w hw => hts0 w (List.mem_cons_of_mem _ hw)
  have hown : s.vm.findClass RX6 = some m.cls := findClass_of_methodNamed B.named
  have hl := lv_entry [.ref ru, .ref tx, .int h0] (n := 4) (Nat.le_of_ble_eq_true rfl)
  rw [lg_entry_eq]
  generalize (lg_sl [.ref ru, .ref tx, .int h0] ++ List.replicate (4 - (lg_sl [.ref ru, .ref tx, .int h0]).length) Slot.unset).toArray = ls at hl ⊢
  have b_h0 := zn_i32 h0
  have hD := zD_all h2 hKn.1
  have hcl0 := fun (idx k : Nat) (t : zt_T) (h : (idx, 0, k) ∈ gfX6) (hk : fsX0[k]? = some t) => zf_clause (ro := ro) (ms := sM) h2 hown hKn.1 gfX6_ok (by decide +kernel) idx 0 k 0 0 fsX0 t h rfl hk
  have hcl5 := fun (idx k : Nat) (t : zt_T) (h : (idx, 5, k) ∈ gfX6) (hk : fsX6[k]? = some t) => zf_clause (ro := ro) (ms := sM) h2 hown hKn.1 gfX6_ok (by decide +kernel) idx 5 k 5 0 fsX6 t h rfl hk
  have kp0 : zc_kept D RTg ro sM s.heap s.heap := zc_kept.refl
  obtain ⟨hJ, hf1⟩ := hJ
  obtain ⟨hjt, ⟨av, bv, wv, f2, f3, f4, hav, hbv, hwv⟩, hu⟩ := id hJ
  obtain ⟨tb, n, z, f0, r0, f1, hn, hc, hz⟩ := id hjt
  obtain ⟨n9, g9, n1, n2⟩ := zh_fT (k := 1) (t := (0, 0, 120)) hh htx (show RTg[0]? = some (0, 0, 0, fsX0) from rfl) rfl
  cases f1.symm.trans g9
  dsimp only at n1 n2
  clear g9
  obtain ⟨-, z9, c9, hy9⟩ := zh_arr hh r0 (show RTg[12]? = some (1, 2, 120, [(0, (-128), 127)]) from rfl)
  have hy : ∀ i, i < 120 → zt_ok ro (z i) (0, (-128), 127) := zs_arr (hc.symm.trans c9) hy9
  obtain ⟨u1, u2, u3⟩ := id hu
  have fr0 : ∀ p9 : Nat, p9 ∉ [tx, ru] → s.heap[p9]? = s.heap[p9]? := fun _ _ => rfl
  refine lv_aload_n hx hb (eX6_scanSecondOffset (0, .aload_n 1, 1) (List.mem_of_getElem? (i := 0) rfl)) rfl (lv_at hl 1 rfl) ?_
  refine ff_bipush hx hb (eX6_scanSecondOffset (1, .bipush 43, 2) (List.mem_of_getElem? (i := 1) rfl)) (by decide) (by decide) (fun v1 e1 => ?_)
  refine tz_rowV (As := [.int v1]) (st := []) (b := tx) (C := RX0) (Ts := gT) hx hb hml hown h2 (fun _ h => h) (hX0_isAt l D cA ro sz H0 tx v1 43 T (sg) htx (by omega)) ⟨rfl, rfl⟩ ⟨by decide, by decide⟩ ⟨by decide, by decide⟩ (tb_4 32 rfl rfl) (tb_1 5 rfl rfl) (tb_4 74 rfl rfl) (tb_4 30 rfl rfl) (tb_4 31 rfl rfl) (show yX0_isAt.cls ≠ "java/lang/invoke/MethodHandle" ∧ yX0_isAt.cls ≠ "java/lang/invoke/VarHandle" ∧ (parseMethodDescriptor yX0_isAt.desc).map (fun d => d.parameters.length) = some 1 by decide +kernel) zs_blind (zs_ob hh htx (show RTg[0]? = some (0, 0, 0, fsX0) from rfl) (zCX0 hKn.1)) (fun U hU hW => ⟨rfl, by rw [hU]; exact hh.l0, zKb s U hW.alike hKn, by rw [hU]; exact hJ⟩) hh.2.2.1 hl.1 (Nat.le_of_ble_eq_true rfl) (eX6_scanSecondOffset (3, .invokevirtual 113, 3) (List.mem_of_getElem? (i := 2) rfl)) (fun r2 s2 t2 lo2 g2 f2 l2 => ?_)
  obtain ⟨z2, v2, q2, e2⟩ := f2
  cases q2
  rw [z2, g2]
  have hh2 : zh_ok D cA RTg ro sz H0 s.heap lo2 := ⟨hh.1, hh.2.1, l2, hh.2.2.2⟩
  refine W.eq (g2 := F0 m 6 ls [.int v2]) rfl ?_
  refine ff_if_ne hx hb (eX6_scanSecondOffset (6, .ifCond .ne 19, 3) (List.mem_of_getElem? (i := 3) rfl)) (tgt := 25) rfl (fun c3 => ?_) (fun c3 => ?_)
  · skip
    have hcnd : lk T sg = 43 ∨ lk T sg = 45 ∨ 0 ≤ dgF T sg := by omega
    refine lv_aload_n hx hb (eX6_scanSecondOffset (25, .aload_n 1, 1) (List.mem_of_getElem? (i := 11) rfl)) rfl (lv_at hl 1 rfl) ?_
    refine tz_rowS (As := [.ref tx]) (st := []) (Ts := gT) hx hb hml hown h2 (fun _ h => h) (hX6_scanSign l D cA ro sz H0 tx T (sg) htx) ⟨rfl, rfl⟩ ⟨by decide, by decide⟩ ⟨by decide, by decide⟩ (tb_4 48 rfl rfl) (tb_1 3 rfl rfl) (tb_4 46 rfl rfl) (tb_4 47 rfl rfl) (show yX6_scanSign.cls ≠ "java/lang/invoke/MethodHandle" ∧ yX6_scanSign.cls ≠ "java/lang/invoke/VarHandle" ∧ (parseMethodDescriptor yX6_scanSign.desc).map (fun d => d.parameters.length) = some 1 by decide +kernel) zs_blind (fun U hU hW => ⟨rfl, by rw [hU]; exact hh2.l0, zKb s U hW.alike hKn, by rw [hU]; exact hJ⟩) hh2.2.2.1 hl.1 (Nat.le_of_ble_eq_true rfl) (eX6_scanSecondOffset (26, .invokestatic 64, 3) (List.mem_of_getElem? (i := 12) rfl)) (fun r4 s4 t4 lo4 g4 f4 l4 => ?_)
    obtain ⟨v4, q4, e4, z4, c4, j4, fx4⟩ := f4
    cases q4
    rw [g4] at c4 fx4
    have fr4 : ∀ p9 : Nat, p9 ∉ [tx, ru] → t4.heap[p9]? = s.heap[p9]? := fun p9 h9 => (fx4 p9 (fun q => h9 (by rw [List.mem_singleton.mp q]; exact List.mem_cons_self))).trans (fr0 p9 h9)
    have hh4 : zh_ok D cA RTg ro sz H0 t4.heap lo4 := ⟨z4.1, z4.2.1, l4, z4.2.2.2⟩
    have kp4 := kp0.trans (c4.mono (ms' := sM) (by decide))
    have kf4 := sgnF_1 T sg
    generalize hx4 : sgnF T sg = x4 at j4 e4 kf4
    have uu4 := j4.2.2
    unfold uOK at uu4
    have mf4_tx_0 := (c4.1 tx 0 0 0 0 fsX0 htx rfl (by decide) (by decide)).trans f0
    have mf4_tx_1 := (c4.1 tx 0 1 0 0 fsX0 htx rfl (by decide) (by decide)).trans f1
    have mf4_ru_1 := (c4.1 ru 5 1 5 0 fsX6 hru rfl (by decide) (by decide)).trans hf1
    refine W.eq (g2 := F0 m 29 ls [.int v4]) rfl ?_
    refine lv_istore_n hx hb (eX6_scanSecondOffset (29, .istore_n 3, 1) (List.mem_of_getElem? (i := 13) rfl)) rfl hl (by decide) rfl (fun ls5 hl5 => ?_)
    refine lv_aload_n hx hb (eX6_scanSecondOffset (30, .aload_n 0, 1) (List.mem_of_getElem? (i := 14) rfl)) rfl (lv_at hl5 1 rfl) ?_
    refine lv_iload_n hx hb (eX6_scanSecondOffset (31, .iload_n 3, 1) (List.mem_of_getElem? (i := 15) rfl)) rfl (lv_at hl5 0 rfl) ?_
    refine ff_ineg hx hb (eX6_scanSecondOffset (32, .ineg, 1) (List.mem_of_getElem? (i := 16) rfl)) (by omega) (by omega) (fun v6 e6 => ?_)
    refine lv_aload_n hx hb (eX6_scanSecondOffset (33, .aload_n 1, 1) (List.mem_of_getElem? (i := 17) rfl)) rfl (lv_at hl5 2 rfl) ?_
    refine ff_bipush hx hb (eX6_scanSecondOffset (34, .bipush 23, 2) (List.mem_of_getElem? (i := 18) rfl)) (by decide) (by decide) (fun v7 e7 => ?_)
    refine tz_rowV (As := [.int v7]) (st := [.int v6, .ref ru]) (b := tx) (C := RX0) (Ts := gT) hx hb hml hown h2 (fun _ h => h) (hX0_clock l D cA ro sz H0 tx v7 23 T (x4.2) htx (by omega)) ⟨rfl, rfl⟩ ⟨by decide, by decide⟩ ⟨by decide, by decide⟩ (tb_4 52 rfl rfl) (tb_1 5 rfl rfl) (tb_4 49 rfl rfl) (tb_4 50 rfl rfl) (tb_4 51 rfl rfl) (show yX0_clock.cls ≠ "java/lang/invoke/MethodHandle" ∧ yX0_clock.cls ≠ "java/lang/invoke/VarHandle" ∧ (parseMethodDescriptor yX0_clock.desc).map (fun d => d.parameters.length) = some 1 by decide +kernel) zs_blind (zs_ob hh4 htx (show RTg[0]? = some (0, 0, 0, fsX0) from rfl) (zCX0 hKn.1)) (fun U hU hW => ⟨rfl, by rw [hU]; exact hh4.l0, zKb s U hW.alike hKn, by rw [hU]; exact j4⟩) hh4.2.2.1 hl5.1 (Nat.le_of_ble_eq_true rfl) (eX6_scanSecondOffset (36, .invokevirtual 71, 3) (List.mem_of_getElem? (i := 19) rfl)) (fun r8 s8 t8 lo8 g8 f8 l8 => ?_)
    obtain ⟨v8, q8, e8, z8, c8, j8, fx8⟩ := f8
    cases q8
    rw [g8] at c8 fx8
    have fr8 : ∀ p9 : Nat, p9 ∉ [tx, ru] → t8.heap[p9]? = s.heap[p9]? := fun p9 h9 => (fx8 p9 (fun q => h9 (by rw [List.mem_singleton.mp q]; exact List.mem_cons_self))).trans (fr4 p9 h9)
    have hh8 : zh_ok D cA RTg ro sz H0 t8.heap lo8 := ⟨z8.1, z8.2.1, l8, z8.2.2.2⟩
    have kp8 := kp4.trans (c8.mono (ms' := sM) (by decide))
    have kf8 := ckF_up (T := T) (most := 23) (s := x4.2)
    generalize hx8 : ckF T 23 x4.2 = x8 at j8 e8 kf8
    have uu8 := j8.2.2
    unfold uOK at uu8
    have mf8_tx_0 := (c8.1 tx 0 0 0 0 fsX0 htx rfl (by decide) (by decide)).trans mf4_tx_0
    have mf8_tx_1 := (c8.1 tx 0 1 0 0 fsX0 htx rfl (by decide) (by decide)).trans mf4_tx_1
    have mf8_ru_1 := (c8.1 ru 5 1 5 0 fsX6 hru rfl (by decide) (by decide)).trans mf4_ru_1
    refine W.eq (g2 := F0 m 39 ls5 [.int v8, .int v6, .ref ru]) rfl ?_
    have hm9 : v6.toInt * v8.toInt = -(x4.1 * x8.1) := by rw [show v6.toInt = -x4.1 by omega, show v8.toInt = x8.1 by omega, Int.neg_mul]
    have hp9 : -6039 ≤ -(x4.1 * x8.1) ∧ -(x4.1 * x8.1) ≤ 6039 := by rcases kf4 with h | h <;> rw [h] <;> omega
    refine ff_imul hx hb (eX6_scanSecondOffset (39, .imul, 1) (List.mem_of_getElem? (i := 20) rfl)) (by rw [hm9]; omega) (by rw [hm9]; omega) (fun v9 e9 => ?_)
    rw [hm9] at e9
    refine tz_put (r := 5) (k := 2) (t := (0, (-2147483648), 2147483647)) hx hb hD hh8 hru rfl rfl ((hcl5 18 2 (0, (-2147483648), 2147483647) (by decide) rfl).2 (by decide)) (tz_i (zn_i32 _).1 (zn_i32 _).2) (eX6_scanSecondOffset (40, .putfield 18, 3) (List.mem_of_getElem? (i := 21) rfl)) (fun H10 lo10 hh10 hf10 hk10 _ hq10 => ?_)
    have mf10_tx_0 := (hk10.1 tx 0 0 0 0 fsX0 htx rfl (by decide) (by decide)).trans mf8_tx_0
    have mf10_tx_1 := (hk10.1 tx 0 1 0 0 fsX0 htx rfl (by decide) (by decide)).trans mf8_tx_1
    have mf10_ru_1 := (hk10.1 ru 5 1 5 0 fsX6 hru rfl (by decide) (by decide)).trans mf8_ru_1
    have kp10 := kp8.trans (hk10.mono (ms' := sM) (fun x hx => by cases List.mem_singleton.mp hx; decide))
    have jm10 := (j8).kept htx hk10 (by decide)
    have fr10 : ∀ p9 : Nat, p9 ∉ [tx, ru] → H10[p9]? = s.heap[p9]? := fun p9 h9 => (hq10 p9 (fun e9 => h9 (by rw [e9]; exact (List.mem_cons_of_mem _ List.mem_cons_self)))).trans (fr8 p9 h9)
    have hfs : (secF T k1 k2 sg).1 = -(x4.1 * x8.1) := by unfold secF; rw [if_pos hcnd]; unfold stF; rw [hx4, hx8]
    have hfin : (secF T k1 k2 sg).2 = x8.2 := by unfold secF; rw [if_pos hcnd]; unfold stF; rw [hx4, hx8]
    exact W.vret hx hb hr (fun t ht hW => ⟨rfl, by rw [ht]; exact hh10.l0, by rw [ht]; exact kp10, by rw [ht, hfin]; exact jm10, by rw [ht]; exact fr10, ⟨_, by rw [ht]; exact hf10, by rw [hfs]; omega⟩⟩) hh10.2.2.1 (eX6_scanSecondOffset (43, .return_, 1) (List.mem_of_getElem? (i := 22) rfl))
  · skip
    refine lv_aload_n hx hb (eX6_scanSecondOffset (9, .aload_n 1, 1) (List.mem_of_getElem? (i := 4) rfl)) rfl (lv_at hl 1 rfl) ?_
    refine ff_bipush hx hb (eX6_scanSecondOffset (10, .bipush 45, 2) (List.mem_of_getElem? (i := 5) rfl)) (by decide) (by decide) (fun v11 e11 => ?_)
    refine tz_rowV (As := [.int v11]) (st := []) (b := tx) (C := RX0) (Ts := gT) hx hb hml hown h2 (fun _ h => h) (hX0_isAt l D cA ro sz H0 tx v11 45 T (sg) htx (by omega)) ⟨rfl, rfl⟩ ⟨by decide, by decide⟩ ⟨by decide, by decide⟩ (tb_4 32 rfl rfl) (tb_1 5 rfl rfl) (tb_4 74 rfl rfl) (tb_4 30 rfl rfl) (tb_4 31 rfl rfl) (show yX0_isAt.cls ≠ "java/lang/invoke/MethodHandle" ∧ yX0_isAt.cls ≠ "java/lang/invoke/VarHandle" ∧ (parseMethodDescriptor yX0_isAt.desc).map (fun d => d.parameters.length) = some 1 by decide +kernel) zs_blind (zs_ob hh2 htx (show RTg[0]? = some (0, 0, 0, fsX0) from rfl) (zCX0 hKn.1)) (fun U hU hW => ⟨rfl, by rw [hU]; exact hh2.l0, zKb s U hW.alike hKn, by rw [hU]; exact hJ⟩) hh2.2.2.1 hl.1 (Nat.le_of_ble_eq_true rfl) (eX6_scanSecondOffset (12, .invokevirtual 113, 3) (List.mem_of_getElem? (i := 6) rfl)) (fun r12 s12 t12 lo12 g12 f12 l12 => ?_)
    obtain ⟨z12, v12, q12, e12⟩ := f12
    cases q12
    rw [z12, g12]
    have hh12 : zh_ok D cA RTg ro sz H0 s.heap lo12 := ⟨hh2.1, hh2.2.1, l12, hh2.2.2.2⟩
    refine W.eq (g2 := F0 m 15 ls [.int v12]) rfl ?_
    refine ff_if_ne hx hb (eX6_scanSecondOffset (15, .ifCond .ne 10, 3) (List.mem_of_getElem? (i := 7) rfl)) (tgt := 25) rfl (fun c13 => ?_) (fun c13 => ?_)
    · skip
      have hcnd : lk T sg = 43 ∨ lk T sg = 45 ∨ 0 ≤ dgF T sg := by omega
      refine lv_aload_n hx hb (eX6_scanSecondOffset (25, .aload_n 1, 1) (List.mem_of_getElem? (i := 11) rfl)) rfl (lv_at hl 1 rfl) ?_
      refine tz_rowS (As := [.ref tx]) (st := []) (Ts := gT) hx hb hml hown h2 (fun _ h => h) (hX6_scanSign l D cA ro sz H0 tx T (sg) htx) ⟨rfl, rfl⟩ ⟨by decide, by decide⟩ ⟨by decide, by decide⟩ (tb_4 48 rfl rfl) (tb_1 3 rfl rfl) (tb_4 46 rfl rfl) (tb_4 47 rfl rfl) (show yX6_scanSign.cls ≠ "java/lang/invoke/MethodHandle" ∧ yX6_scanSign.cls ≠ "java/lang/invoke/VarHandle" ∧ (parseMethodDescriptor yX6_scanSign.desc).map (fun d => d.parameters.length) = some 1 by decide +kernel) zs_blind (fun U hU hW => ⟨rfl, by rw [hU]; exact hh12.l0, zKb s U hW.alike hKn, by rw [hU]; exact hJ⟩) hh12.2.2.1 hl.1 (Nat.le_of_ble_eq_true rfl) (eX6_scanSecondOffset (26, .invokestatic 64, 3) (List.mem_of_getElem? (i := 12) rfl)) (fun r14 s14 t14 lo14 g14 f14 l14 => ?_)
      obtain ⟨v14, q14, e14, z14, c14, j14, fx14⟩ := f14
      cases q14
      rw [g14] at c14 fx14
      have fr14 : ∀ p9 : Nat, p9 ∉ [tx, ru] → t14.heap[p9]? = s.heap[p9]? := fun p9 h9 => (fx14 p9 (fun q => h9 (by rw [List.mem_singleton.mp q]; exact List.mem_cons_self))).trans (fr0 p9 h9)
      have hh14 : zh_ok D cA RTg ro sz H0 t14.heap lo14 := ⟨z14.1, z14.2.1, l14, z14.2.2.2⟩
      have kp14 := kp0.trans (c14.mono (ms' := sM) (by decide))
      have kf14 := sgnF_1 T sg
      generalize hx14 : sgnF T sg = x14 at j14 e14 kf14
      have uu14 := j14.2.2
      unfold uOK at uu14
      have mf14_tx_0 := (c14.1 tx 0 0 0 0 fsX0 htx rfl (by decide) (by decide)).trans f0
      have mf14_tx_1 := (c14.1 tx 0 1 0 0 fsX0 htx rfl (by decide) (by decide)).trans f1
      have mf14_ru_1 := (c14.1 ru 5 1 5 0 fsX6 hru rfl (by decide) (by decide)).trans hf1
      refine W.eq (g2 := F0 m 29 ls [.int v14]) rfl ?_
      refine lv_istore_n hx hb (eX6_scanSecondOffset (29, .istore_n 3, 1) (List.mem_of_getElem? (i := 13) rfl)) rfl hl (by decide) rfl (fun ls15 hl15 => ?_)
      refine lv_aload_n hx hb (eX6_scanSecondOffset (30, .aload_n 0, 1) (List.mem_of_getElem? (i := 14) rfl)) rfl (lv_at hl15 1 rfl) ?_
      refine lv_iload_n hx hb (eX6_scanSecondOffset (31, .iload_n 3, 1) (List.mem_of_getElem? (i := 15) rfl)) rfl (lv_at hl15 0 rfl) ?_
      refine ff_ineg hx hb (eX6_scanSecondOffset (32, .ineg, 1) (List.mem_of_getElem? (i := 16) rfl)) (by omega) (by omega) (fun v16 e16 => ?_)
      refine lv_aload_n hx hb (eX6_scanSecondOffset (33, .aload_n 1, 1) (List.mem_of_getElem? (i := 17) rfl)) rfl (lv_at hl15 2 rfl) ?_
      refine ff_bipush hx hb (eX6_scanSecondOffset (34, .bipush 23, 2) (List.mem_of_getElem? (i := 18) rfl)) (by decide) (by decide) (fun v17 e17 => ?_)
      refine tz_rowV (As := [.int v17]) (st := [.int v16, .ref ru]) (b := tx) (C := RX0) (Ts := gT) hx hb hml hown h2 (fun _ h => h) (hX0_clock l D cA ro sz H0 tx v17 23 T (x14.2) htx (by omega)) ⟨rfl, rfl⟩ ⟨by decide, by decide⟩ ⟨by decide, by decide⟩ (tb_4 52 rfl rfl) (tb_1 5 rfl rfl) (tb_4 49 rfl rfl) (tb_4 50 rfl rfl) (tb_4 51 rfl rfl) (show yX0_clock.cls ≠ "java/lang/invoke/MethodHandle" ∧ yX0_clock.cls ≠ "java/lang/invoke/VarHandle" ∧ (parseMethodDescriptor yX0_clock.desc).map (fun d => d.parameters.length) = some 1 by decide +kernel) zs_blind (zs_ob hh14 htx (show RTg[0]? = some (0, 0, 0, fsX0) from rfl) (zCX0 hKn.1)) (fun U hU hW => ⟨rfl, by rw [hU]; exact hh14.l0, zKb s U hW.alike hKn, by rw [hU]; exact j14⟩) hh14.2.2.1 hl15.1 (Nat.le_of_ble_eq_true rfl) (eX6_scanSecondOffset (36, .invokevirtual 71, 3) (List.mem_of_getElem? (i := 19) rfl)) (fun r18 s18 t18 lo18 g18 f18 l18 => ?_)
      obtain ⟨v18, q18, e18, z18, c18, j18, fx18⟩ := f18
      cases q18
      rw [g18] at c18 fx18
      have fr18 : ∀ p9 : Nat, p9 ∉ [tx, ru] → t18.heap[p9]? = s.heap[p9]? := fun p9 h9 => (fx18 p9 (fun q => h9 (by rw [List.mem_singleton.mp q]; exact List.mem_cons_self))).trans (fr14 p9 h9)
      have hh18 : zh_ok D cA RTg ro sz H0 t18.heap lo18 := ⟨z18.1, z18.2.1, l18, z18.2.2.2⟩
      have kp18 := kp14.trans (c18.mono (ms' := sM) (by decide))
      have kf18 := ckF_up (T := T) (most := 23) (s := x14.2)
      generalize hx18 : ckF T 23 x14.2 = x18 at j18 e18 kf18
      have uu18 := j18.2.2
      unfold uOK at uu18
      have mf18_tx_0 := (c18.1 tx 0 0 0 0 fsX0 htx rfl (by decide) (by decide)).trans mf14_tx_0
      have mf18_tx_1 := (c18.1 tx 0 1 0 0 fsX0 htx rfl (by decide) (by decide)).trans mf14_tx_1
      have mf18_ru_1 := (c18.1 ru 5 1 5 0 fsX6 hru rfl (by decide) (by decide)).trans mf14_ru_1
      refine W.eq (g2 := F0 m 39 ls15 [.int v18, .int v16, .ref ru]) rfl ?_
      have hm19 : v16.toInt * v18.toInt = -(x14.1 * x18.1) := by rw [show v16.toInt = -x14.1 by omega, show v18.toInt = x18.1 by omega, Int.neg_mul]
      have hp19 : -6039 ≤ -(x14.1 * x18.1) ∧ -(x14.1 * x18.1) ≤ 6039 := by rcases kf14 with h | h <;> rw [h] <;> omega
      refine ff_imul hx hb (eX6_scanSecondOffset (39, .imul, 1) (List.mem_of_getElem? (i := 20) rfl)) (by rw [hm19]; omega) (by rw [hm19]; omega) (fun v19 e19 => ?_)
      rw [hm19] at e19
      refine tz_put (r := 5) (k := 2) (t := (0, (-2147483648), 2147483647)) hx hb hD hh18 hru rfl rfl ((hcl5 18 2 (0, (-2147483648), 2147483647) (by decide) rfl).2 (by decide)) (tz_i (zn_i32 _).1 (zn_i32 _).2) (eX6_scanSecondOffset (40, .putfield 18, 3) (List.mem_of_getElem? (i := 21) rfl)) (fun H20 lo20 hh20 hf20 hk20 _ hq20 => ?_)
      have mf20_tx_0 := (hk20.1 tx 0 0 0 0 fsX0 htx rfl (by decide) (by decide)).trans mf18_tx_0
      have mf20_tx_1 := (hk20.1 tx 0 1 0 0 fsX0 htx rfl (by decide) (by decide)).trans mf18_tx_1
      have mf20_ru_1 := (hk20.1 ru 5 1 5 0 fsX6 hru rfl (by decide) (by decide)).trans mf18_ru_1
      have kp20 := kp18.trans (hk20.mono (ms' := sM) (fun x hx => by cases List.mem_singleton.mp hx; decide))
      have jm20 := (j18).kept htx hk20 (by decide)
      have fr20 : ∀ p9 : Nat, p9 ∉ [tx, ru] → H20[p9]? = s.heap[p9]? := fun p9 h9 => (hq20 p9 (fun e9 => h9 (by rw [e9]; exact (List.mem_cons_of_mem _ List.mem_cons_self)))).trans (fr18 p9 h9)
      have hfs : (secF T k1 k2 sg).1 = -(x14.1 * x18.1) := by unfold secF; rw [if_pos hcnd]; unfold stF; rw [hx14, hx18]
      have hfin : (secF T k1 k2 sg).2 = x18.2 := by unfold secF; rw [if_pos hcnd]; unfold stF; rw [hx14, hx18]
      exact W.vret hx hb hr (fun t ht hW => ⟨rfl, by rw [ht]; exact hh20.l0, by rw [ht]; exact kp20, by rw [ht, hfin]; exact jm20, by rw [ht]; exact fr20, ⟨_, by rw [ht]; exact hf20, by rw [hfs]; omega⟩⟩) hh20.2.2.1 (eX6_scanSecondOffset (43, .return_, 1) (List.mem_of_getElem? (i := 22) rfl))
    · skip
      refine lv_aload_n hx hb (eX6_scanSecondOffset (18, .aload_n 1, 1) (List.mem_of_getElem? (i := 8) rfl)) rfl (lv_at hl 1 rfl) ?_
      refine tz_rowV (As := []) (st := []) (b := tx) (C := RX0) (Ts := gT) hx hb hml hown h2 (fun _ h => h) (hX0_atDigit l D cA ro sz H0 tx T (sg) htx) ⟨rfl, rfl⟩ ⟨by decide, by decide⟩ ⟨by decide, by decide⟩ (tb_4 24 rfl rfl) (tb_1 5 rfl rfl) (tb_4 75 rfl rfl) (tb_4 22 rfl rfl) (tb_4 23 rfl rfl) (show yX0_atDigit.cls ≠ "java/lang/invoke/MethodHandle" ∧ yX0_atDigit.cls ≠ "java/lang/invoke/VarHandle" ∧ (parseMethodDescriptor yX0_atDigit.desc).map (fun d => d.parameters.length) = some 0 by decide +kernel) zs_blind (zs_ob hh12 htx (show RTg[0]? = some (0, 0, 0, fsX0) from rfl) (zCX0 hKn.1)) (fun U hU hW => ⟨rfl, by rw [hU]; exact hh12.l0, zKb s U hW.alike hKn, by rw [hU]; exact hJ⟩) hh12.2.2.1 hl.1 (Nat.le_of_ble_eq_true rfl) (eX6_scanSecondOffset (19, .invokevirtual 116, 3) (List.mem_of_getElem? (i := 9) rfl)) (fun r21 s21 t21 lo21 g21 f21 l21 => ?_)
      obtain ⟨z21, v21, q21, e21⟩ := f21
      cases q21
      rw [z21, g21]
      have hh21 : zh_ok D cA RTg ro sz H0 s.heap lo21 := ⟨hh12.1, hh12.2.1, l21, hh12.2.2.2⟩
      refine W.eq (g2 := F0 m 22 ls [.int v21]) rfl ?_
      refine ff_if_eq hx hb (eX6_scanSecondOffset (22, .ifCond .eq 22, 3) (List.mem_of_getElem? (i := 10) rfl)) (tgt := 44) rfl (fun c22 => ?_) (fun c22 => ?_)
      · skip
        have hcnd : ¬ (lk T sg = 43 ∨ lk T sg = 45 ∨ 0 ≤ dgF T sg) := by omega
        refine lv_aload_n hx hb (eX6_scanSecondOffset (44, .aload_n 0, 1) (List.mem_of_getElem? (i := 23) rfl)) rfl (lv_at hl 0 rfl) ?_
        refine lv_aload_n hx hb (eX6_scanSecondOffset (45, .aload_n 0, 1) (List.mem_of_getElem? (i := 24) rfl)) rfl (lv_at hl 0 rfl) ?_
        refine tz_get (r := 5) (k := 1) (t := (0, (-2147483648), 2147483647)) hx hb hh21 hru rfl rfl (hcl5 15 1 (0, (-2147483648), 2147483647) (by decide) rfl).1 hf1 (eX6_scanSecondOffset (46, .getfield 15, 3) (List.mem_of_getElem? (i := 25) rfl)) ?_
        refine ff_bipush hx hb (eX6_scanSecondOffset (49, .bipush 60, 2) (List.mem_of_getElem? (i := 26) rfl)) (by decide) (by decide) (fun v23 e23 => ?_)
        refine ff_iadd hx hb (eX6_scanSecondOffset (51, .iadd, 1) (List.mem_of_getElem? (i := 27) rfl)) (by omega) (by omega) (fun v24 e24 => ?_)
        refine tz_put (r := 5) (k := 2) (t := (0, (-2147483648), 2147483647)) hx hb hD hh21 hru rfl rfl ((hcl5 18 2 (0, (-2147483648), 2147483647) (by decide) rfl).2 (by decide)) (tz_i (zn_i32 _).1 (zn_i32 _).2) (eX6_scanSecondOffset (52, .putfield 18, 3) (List.mem_of_getElem? (i := 28) rfl)) (fun H25 lo25 hh25 hf25 hk25 _ hq25 => ?_)
        have mf25_tx_0 := (hk25.1 tx 0 0 0 0 fsX0 htx rfl (by decide) (by decide)).trans f0
        have mf25_tx_1 := (hk25.1 tx 0 1 0 0 fsX0 htx rfl (by decide) (by decide)).trans f1
        have mf25_tx_2 := (hk25.1 tx 0 2 0 0 fsX0 htx rfl (by decide) (by decide)).trans f2
        have mf25_tx_3 := (hk25.1 tx 0 3 0 0 fsX0 htx rfl (by decide) (by decide)).trans f3
        have mf25_tx_4 := (hk25.1 tx 0 4 0 0 fsX0 htx rfl (by decide) (by decide)).trans f4
        have mf25_ru_1 := (hk25.1 ru 5 1 5 0 fsX6 hru rfl (by decide) (by decide)).trans hf1
        have mc25_tb := (hk25.2 tb 12 0 2 120 _ r0 rfl (by decide)).trans hc
        have kp25 := kp0.trans (hk25.mono (ms' := sM) (fun x hx => by cases List.mem_singleton.mp hx; decide))
        have jm25 := (hJ).kept htx hk25 (by decide)
        have fr25 : ∀ p9 : Nat, p9 ∉ [tx, ru] → H25[p9]? = s.heap[p9]? := fun p9 h9 => (hq25 p9 (fun e9 => h9 (by rw [e9]; exact (List.mem_cons_of_mem _ List.mem_cons_self)))).trans (fr0 p9 h9)
        refine lv_aload_n hx hb (eX6_scanSecondOffset (55, .aload_n 0, 1) (List.mem_of_getElem? (i := 29) rfl)) rfl (lv_at hl 0 rfl) ?_
        refine tz_get (r := 5) (k := 2) (t := (0, (-2147483648), 2147483647)) hx hb hh25 hru rfl rfl (hcl5 18 2 (0, (-2147483648), 2147483647) (by decide) rfl).1 hf25 (eX6_scanSecondOffset (56, .getfield 18, 3) (List.mem_of_getElem? (i := 30) rfl)) ?_
        refine ff_sipush hx hb (eX6_scanSecondOffset (59, .sipush 1439, 3) (List.mem_of_getElem? (i := 31) rfl)) (by decide) (by decide) (fun v26 e26 => ?_)
        refine ff_icmp_le hx hb (eX6_scanSecondOffset (62, .if_icmp .le 9, 3) (List.mem_of_getElem? (i := 32) rfl)) (tgt := 71) rfl (fun c27 => ?_) (fun c27 => ?_)
        · skip
          have hfs : (secF T k1 k2 sg).1 = k2 + 60 := by unfold secF; rw [if_neg hcnd]
          have hfin : (secF T k1 k2 sg).2 = sg := by unfold secF; rw [if_neg hcnd]; dsimp only; rw [if_neg (by omega)]
          exact W.vret hx hb hr (fun t ht hW => ⟨rfl, by rw [ht]; exact hh25.l0, by rw [ht]; exact kp25, by rw [ht, hfin]; exact jm25, by rw [ht]; exact fr25, ⟨_, by rw [ht]; exact hf25, by rw [hfs]; omega⟩⟩) hh25.2.2.1 (eX6_scanSecondOffset (71, .return_, 1) (List.mem_of_getElem? (i := 37) rfl))
        · skip
          refine lv_aload_n hx hb (eX6_scanSecondOffset (65, .aload_n 1, 1) (List.mem_of_getElem? (i := 33) rfl)) rfl (lv_at hl 1 rfl) ?_
          refine lv_iload_n hx hb (eX6_scanSecondOffset (66, .iload_n 2, 1) (List.mem_of_getElem? (i := 34) rfl)) rfl (lv_at hl 2 rfl) ?_
          refine tz_rowV (As := [.int h0]) (st := []) (b := tx) (C := RX0) (Ts := gT) hx hb hml hown h2 (fun _ h => h) (hX0_blame l D cA ro sz H0 tx h0 T (sg) htx) ⟨rfl, rfl⟩ ⟨by decide, by decide⟩ ⟨by decide, by decide⟩ (tb_4 64 rfl rfl) (tb_1 5 rfl rfl) (tb_4 76 rfl rfl) (tb_4 62 rfl rfl) (tb_4 63 rfl rfl) (show yX0_blame.cls ≠ "java/lang/invoke/MethodHandle" ∧ yX0_blame.cls ≠ "java/lang/invoke/VarHandle" ∧ (parseMethodDescriptor yX0_blame.desc).map (fun d => d.parameters.length) = some 1 by decide +kernel) zs_blind (zs_ob hh25 htx (show RTg[0]? = some (0, 0, 0, fsX0) from rfl) (zCX0 hKn.1)) (fun U hU hW => ⟨rfl, by rw [hU]; exact hh25.l0, zKb s U hW.alike hKn, by rw [hU]; exact jm25⟩) hh25.2.2.1 hl.1 (Nat.le_of_ble_eq_true rfl) (eX6_scanSecondOffset (67, .invokevirtual 119, 3) (List.mem_of_getElem? (i := 35) rfl)) (fun r28 s28 t28 lo28 g28 f28 l28 => ?_)
          obtain ⟨⟨v28, q28⟩, z28, c28, j28, fx28⟩ := f28
          cases q28
          rw [g28] at c28 fx28
          have fr28 : ∀ p9 : Nat, p9 ∉ [tx, ru] → t28.heap[p9]? = s.heap[p9]? := fun p9 h9 => (fx28 p9 (fun q => h9 (by rw [List.mem_singleton.mp q]; exact List.mem_cons_self))).trans (fr25 p9 h9)
          have hh28 : zh_ok D cA RTg ro sz H0 t28.heap lo28 := ⟨z28.1, z28.2.1, l28, z28.2.2.2⟩
          have kp28 := kp25.trans (c28.mono (ms' := sM) (by decide))
          have mf28_tx_0 := (c28.1 tx 0 0 0 0 fsX0 htx rfl (by decide) (by decide)).trans mf25_tx_0
          have mf28_tx_1 := (c28.1 tx 0 1 0 0 fsX0 htx rfl (by decide) (by decide)).trans mf25_tx_1
          have mf28_ru_1 := (c28.1 ru 5 1 5 0 fsX6 hru rfl (by decide) (by decide)).trans mf25_ru_1
          have mf28_ru_2 := (c28.1 ru 5 2 5 0 fsX6 hru rfl (by decide) (by decide)).trans hf25
          refine W.eq (g2 := F0 m 70 ls [.long v28]) rfl ?_
          refine lv_pop2_2 hx hb (eX6_scanSecondOffset (70, .pop2, 1) (List.mem_of_getElem? (i := 36) rfl)) rfl ?_
          have hfs : (secF T k1 k2 sg).1 = k2 + 60 := by unfold secF; rw [if_neg hcnd]
          have hbl : blF h0.toInt sg = blF k1 sg := by rw [hk1]
          rw [hbl] at j28
          have hfin : (secF T k1 k2 sg).2 = blF k1 sg := by unfold secF; rw [if_neg hcnd]; dsimp only; rw [if_pos (by omega)]
          exact W.vret hx hb hr (fun t ht hW => ⟨rfl, by rw [ht]; exact hh28.l0, by rw [ht]; exact kp28, by rw [ht, hfin]; exact j28, by rw [ht]; exact fr28, ⟨_, by rw [ht]; exact mf28_ru_2, by rw [hfs]; omega⟩⟩) hh28.2.2.1 (eX6_scanSecondOffset (71, .return_, 1) (List.mem_of_getElem? (i := 37) rfl))
      · skip
        have hcnd : lk T sg = 43 ∨ lk T sg = 45 ∨ 0 ≤ dgF T sg := by omega
        refine lv_aload_n hx hb (eX6_scanSecondOffset (25, .aload_n 1, 1) (List.mem_of_getElem? (i := 11) rfl)) rfl (lv_at hl 1 rfl) ?_
        refine tz_rowS (As := [.ref tx]) (st := []) (Ts := gT) hx hb hml hown h2 (fun _ h => h) (hX6_scanSign l D cA ro sz H0 tx T (sg) htx) ⟨rfl, rfl⟩ ⟨by decide, by decide⟩ ⟨by decide, by decide⟩ (tb_4 48 rfl rfl) (tb_1 3 rfl rfl) (tb_4 46 rfl rfl) (tb_4 47 rfl rfl) (show yX6_scanSign.cls ≠ "java/lang/invoke/MethodHandle" ∧ yX6_scanSign.cls ≠ "java/lang/invoke/VarHandle" ∧ (parseMethodDescriptor yX6_scanSign.desc).map (fun d => d.parameters.length) = some 1 by decide +kernel) zs_blind (fun U hU hW => ⟨rfl, by rw [hU]; exact hh21.l0, zKb s U hW.alike hKn, by rw [hU]; exact hJ⟩) hh21.2.2.1 hl.1 (Nat.le_of_ble_eq_true rfl) (eX6_scanSecondOffset (26, .invokestatic 64, 3) (List.mem_of_getElem? (i := 12) rfl)) (fun r29 s29 t29 lo29 g29 f29 l29 => ?_)
        obtain ⟨v29, q29, e29, z29, c29, j29, fx29⟩ := f29
        cases q29
        rw [g29] at c29 fx29
        have fr29 : ∀ p9 : Nat, p9 ∉ [tx, ru] → t29.heap[p9]? = s.heap[p9]? := fun p9 h9 => (fx29 p9 (fun q => h9 (by rw [List.mem_singleton.mp q]; exact List.mem_cons_self))).trans (fr0 p9 h9)
        have hh29 : zh_ok D cA RTg ro sz H0 t29.heap lo29 := ⟨z29.1, z29.2.1, l29, z29.2.2.2⟩
        have kp29 := kp0.trans (c29.mono (ms' := sM) (by decide))
        have kf29 := sgnF_1 T sg
        generalize hx29 : sgnF T sg = x29 at j29 e29 kf29
        have uu29 := j29.2.2
        unfold uOK at uu29
        have mf29_tx_0 := (c29.1 tx 0 0 0 0 fsX0 htx rfl (by decide) (by decide)).trans f0
        have mf29_tx_1 := (c29.1 tx 0 1 0 0 fsX0 htx rfl (by decide) (by decide)).trans f1
        have mf29_ru_1 := (c29.1 ru 5 1 5 0 fsX6 hru rfl (by decide) (by decide)).trans hf1
        refine W.eq (g2 := F0 m 29 ls [.int v29]) rfl ?_
        refine lv_istore_n hx hb (eX6_scanSecondOffset (29, .istore_n 3, 1) (List.mem_of_getElem? (i := 13) rfl)) rfl hl (by decide) rfl (fun ls30 hl30 => ?_)
        refine lv_aload_n hx hb (eX6_scanSecondOffset (30, .aload_n 0, 1) (List.mem_of_getElem? (i := 14) rfl)) rfl (lv_at hl30 1 rfl) ?_
        refine lv_iload_n hx hb (eX6_scanSecondOffset (31, .iload_n 3, 1) (List.mem_of_getElem? (i := 15) rfl)) rfl (lv_at hl30 0 rfl) ?_
        refine ff_ineg hx hb (eX6_scanSecondOffset (32, .ineg, 1) (List.mem_of_getElem? (i := 16) rfl)) (by omega) (by omega) (fun v31 e31 => ?_)
        refine lv_aload_n hx hb (eX6_scanSecondOffset (33, .aload_n 1, 1) (List.mem_of_getElem? (i := 17) rfl)) rfl (lv_at hl30 2 rfl) ?_
        refine ff_bipush hx hb (eX6_scanSecondOffset (34, .bipush 23, 2) (List.mem_of_getElem? (i := 18) rfl)) (by decide) (by decide) (fun v32 e32 => ?_)
        refine tz_rowV (As := [.int v32]) (st := [.int v31, .ref ru]) (b := tx) (C := RX0) (Ts := gT) hx hb hml hown h2 (fun _ h => h) (hX0_clock l D cA ro sz H0 tx v32 23 T (x29.2) htx (by omega)) ⟨rfl, rfl⟩ ⟨by decide, by decide⟩ ⟨by decide, by decide⟩ (tb_4 52 rfl rfl) (tb_1 5 rfl rfl) (tb_4 49 rfl rfl) (tb_4 50 rfl rfl) (tb_4 51 rfl rfl) (show yX0_clock.cls ≠ "java/lang/invoke/MethodHandle" ∧ yX0_clock.cls ≠ "java/lang/invoke/VarHandle" ∧ (parseMethodDescriptor yX0_clock.desc).map (fun d => d.parameters.length) = some 1 by decide +kernel) zs_blind (zs_ob hh29 htx (show RTg[0]? = some (0, 0, 0, fsX0) from rfl) (zCX0 hKn.1)) (fun U hU hW => ⟨rfl, by rw [hU]; exact hh29.l0, zKb s U hW.alike hKn, by rw [hU]; exact j29⟩) hh29.2.2.1 hl30.1 (Nat.le_of_ble_eq_true rfl) (eX6_scanSecondOffset (36, .invokevirtual 71, 3) (List.mem_of_getElem? (i := 19) rfl)) (fun r33 s33 t33 lo33 g33 f33 l33 => ?_)
        obtain ⟨v33, q33, e33, z33, c33, j33, fx33⟩ := f33
        cases q33
        rw [g33] at c33 fx33
        have fr33 : ∀ p9 : Nat, p9 ∉ [tx, ru] → t33.heap[p9]? = s.heap[p9]? := fun p9 h9 => (fx33 p9 (fun q => h9 (by rw [List.mem_singleton.mp q]; exact List.mem_cons_self))).trans (fr29 p9 h9)
        have hh33 : zh_ok D cA RTg ro sz H0 t33.heap lo33 := ⟨z33.1, z33.2.1, l33, z33.2.2.2⟩
        have kp33 := kp29.trans (c33.mono (ms' := sM) (by decide))
        have kf33 := ckF_up (T := T) (most := 23) (s := x29.2)
        generalize hx33 : ckF T 23 x29.2 = x33 at j33 e33 kf33
        have uu33 := j33.2.2
        unfold uOK at uu33
        have mf33_tx_0 := (c33.1 tx 0 0 0 0 fsX0 htx rfl (by decide) (by decide)).trans mf29_tx_0
        have mf33_tx_1 := (c33.1 tx 0 1 0 0 fsX0 htx rfl (by decide) (by decide)).trans mf29_tx_1
        have mf33_ru_1 := (c33.1 ru 5 1 5 0 fsX6 hru rfl (by decide) (by decide)).trans mf29_ru_1
        refine W.eq (g2 := F0 m 39 ls30 [.int v33, .int v31, .ref ru]) rfl ?_
        have hm34 : v31.toInt * v33.toInt = -(x29.1 * x33.1) := by rw [show v31.toInt = -x29.1 by omega, show v33.toInt = x33.1 by omega, Int.neg_mul]
        have hp34 : -6039 ≤ -(x29.1 * x33.1) ∧ -(x29.1 * x33.1) ≤ 6039 := by rcases kf29 with h | h <;> rw [h] <;> omega
        refine ff_imul hx hb (eX6_scanSecondOffset (39, .imul, 1) (List.mem_of_getElem? (i := 20) rfl)) (by rw [hm34]; omega) (by rw [hm34]; omega) (fun v34 e34 => ?_)
        rw [hm34] at e34
        refine tz_put (r := 5) (k := 2) (t := (0, (-2147483648), 2147483647)) hx hb hD hh33 hru rfl rfl ((hcl5 18 2 (0, (-2147483648), 2147483647) (by decide) rfl).2 (by decide)) (tz_i (zn_i32 _).1 (zn_i32 _).2) (eX6_scanSecondOffset (40, .putfield 18, 3) (List.mem_of_getElem? (i := 21) rfl)) (fun H35 lo35 hh35 hf35 hk35 _ hq35 => ?_)
        have mf35_tx_0 := (hk35.1 tx 0 0 0 0 fsX0 htx rfl (by decide) (by decide)).trans mf33_tx_0
        have mf35_tx_1 := (hk35.1 tx 0 1 0 0 fsX0 htx rfl (by decide) (by decide)).trans mf33_tx_1
        have mf35_ru_1 := (hk35.1 ru 5 1 5 0 fsX6 hru rfl (by decide) (by decide)).trans mf33_ru_1
        have kp35 := kp33.trans (hk35.mono (ms' := sM) (fun x hx => by cases List.mem_singleton.mp hx; decide))
        have jm35 := (j33).kept htx hk35 (by decide)
        have fr35 : ∀ p9 : Nat, p9 ∉ [tx, ru] → H35[p9]? = s.heap[p9]? := fun p9 h9 => (hq35 p9 (fun e9 => h9 (by rw [e9]; exact (List.mem_cons_of_mem _ List.mem_cons_self)))).trans (fr33 p9 h9)
        have hfs : (secF T k1 k2 sg).1 = -(x29.1 * x33.1) := by unfold secF; rw [if_pos hcnd]; unfold stF; rw [hx29, hx33]
        have hfin : (secF T k1 k2 sg).2 = x33.2 := by unfold secF; rw [if_pos hcnd]; unfold stF; rw [hx29, hx33]
        exact W.vret hx hb hr (fun t ht hW => ⟨rfl, by rw [ht]; exact hh35.l0, by rw [ht]; exact kp35, by rw [ht, hfin]; exact jm35, by rw [ht]; exact fr35, ⟨_, by rw [ht]; exact hf35, by rw [hfs]; omega⟩⟩) hh35.2.2.1 (eX6_scanSecondOffset (43, .return_, 1) (List.mem_of_getElem? (i := 22) rfl))
set_option maxRecDepth 100000 in
set_option maxHeartbeats 4000000 in
theorem hX6_scan (l : Launch) (D : va_G) (cA : Nat → ClassId) (ro : Nat → Option Nat) (sz : Nat) (H0 : Heap) (ru : Nat) (tx : Nat) (rF rT : Nat) (T : List Int) (hru : ro ru = some 5) (htx : ro tx = some 0) (hrF : ro rF = some 6) (hrT : ro rT = some 6) : Met l yX6_scan (gW yX6_scan cX6_scan 4 (some .long)) { frames := 5, cells := 0, slots := 0, locals := 117 } (zs_P D cA ro sz H0 (fun H => jTx D cA ro H tx T ∧ zh_f D H ru 5 3 = .ref rF ∧ zh_f D H ru 5 4 = .ref rT) [.ref ru, .ref tx]) (fun _ st oc t => ∃ r : Int64, oc = .returned (some (.long r)) ∧ r.toInt = vdF (ruF T).2 ∧ zh_ok D cA RTg ro sz H0 t.heap [] ∧ zc_kept D RTg ro rM st.heap t.heap ∧ jU D cA ro t.heap tx T (ruF T).2 ∧ (∀ p9 : Nat, p9 ∉ [tx, ru, rF, rT] → t.heap[p9]? = st.heap[p9]?) ∧ ∃ n a b : Int32, zh_f D t.heap ru 5 0 = .int n ∧ zh_f D t.heap ru 5 1 = .int a ∧ zh_f D t.heap ru 5 2 = .int b ∧ n.toInt = (ruF T).1.1 ∧ a.toInt = (ruF T).1.2.1 ∧ ((ruF T).1.1 = 2 → b.toInt = (ruF T).1.2.2.1 ∧ (rF ≠ rT → jRd D t.heap rF (ruF T).1.2.2.2.1 ∧ jRd D t.heap rT (ruF T).1.2.2.2.2))) 0 0 (zy_fr sz) := by
  refine zy_ofW (cc := cX6_scan) (maxL := 4) (ret := (some .long)) (by decide +kernel) rfl ?_
  intro p e s m args below meth c s1 B hml hv
  obtain ⟨rfl, hh, hKn, hJ⟩ := hv
  have hx := B.exec
  have hb := B.bytes
  have hr := B.returns
  have hlk := B.notSynchronized
  have hts0 := atoms_spec (ws := gW yX6_scan cX6_scan 4 (some .long)) B.pre
  have h2 : ∀ w ∈ gT, w.before ([.ref ru, .ref tx] : List Value).toArray s = true := fun w hw => hts0 w (List.mem_cons_of_mem _ hw)
  have hown : s.vm.findClass RX6 = some m.cls := findClass_of_methodNamed B.named
  have hl := lv_entry [.ref ru, .ref tx] (n := 4) (Nat.le_of_ble_eq_true rfl)
  rw [lg_entry_eq]
  generalize (lg_sl [.ref ru, .ref tx] ++ List.replicate (4 - (lg_sl [.ref ru, .ref tx]).length) Slot.unset).toArray = ls at hl ⊢
  have hD := zD_all h2 hKn.1
  have hcl0 := fun (idx k : Nat) (t : zt_T) (h : (idx, 0, k) ∈ gfX6) (hk : fsX0[k]? = some t) => zf_clause (ro := ro) (ms := rM) h2 hown hKn.1 gfX6_ok (by decide +kernel) idx 0 k 0 0 fsX0 t h rfl hk
  have hcl5 := fun (idx k : Nat) (t : zt_T) (h : (idx, 5, k) ∈ gfX6) (hk : fsX6[k]? = some t) => zf_clause (ro := ro) (ms := rM) h2 hown hKn.1 gfX6_ok (by decide +kernel) idx 5 k 5 0 fsX6 t h rfl hk
  have kp0 : zc_kept D RTg ro rM s.heap s.heap := zc_kept.refl
  obtain ⟨hJ, hF3, hF4⟩ := hJ
  have hjt := hJ
  obtain ⟨tb, n, z, f0, r0, f1, hn, hc, hz⟩ := id hjt
  obtain ⟨n9, g9, n1, n2⟩ := zh_fT (k := 1) (t := (0, 0, 120)) hh htx (show RTg[0]? = some (0, 0, 0, fsX0) from rfl) rfl
  cases f1.symm.trans g9
  dsimp only at n1 n2
  clear g9
  have fr0 : ∀ p9 : Nat, p9 ∉ [tx, ru, rF, rT] → s.heap[p9]? = s.heap[p9]? := fun _ _ => rfl
  refine lv_aload_n hx hb (eX6_scan (0, .aload_n 1, 1) (List.mem_of_getElem? (i := 0) rfl)) rfl (lv_at hl 1 rfl) ?_
  refine tz_rowV (As := []) (st := []) (b := tx) (C := RX0) (Ts := gT) hx hb hml hown h2 (fun _ h => h) (hX0_start l D cA ro sz H0 tx T htx) ⟨rfl, rfl⟩ ⟨by decide, by decide⟩ ⟨by decide, by decide⟩ (tb_4 1 rfl rfl) (tb_1 5 rfl rfl) (tb_3 238 rfl rfl) (tb_3 239 rfl rfl) (tb_4 0 rfl rfl) (show yX0_start.cls ≠ "java/lang/invoke/MethodHandle" ∧ yX0_start.cls ≠ "java/lang/invoke/VarHandle" ∧ (parseMethodDescriptor yX0_start.desc).map (fun d => d.parameters.length) = some 0 by decide +kernel) zs_blind (zs_ob hh htx (show RTg[0]? = some (0, 0, 0, fsX0) from rfl) (zCX0 hKn.1)) (fun U hU hW => ⟨rfl, by rw [hU]; exact hh.l0, zKb s U hW.alike hKn, by rw [hU]; exact hJ⟩) hh.2.2.1 hl.1 (Nat.le_of_ble_eq_true rfl) (eX6_scan (1, .invokevirtual 55, 3) (List.mem_of_getElem? (i := 1) rfl)) (fun r1 s1 t1 lo1 g1 f1 l1 => ?_)
  obtain ⟨q1, z1, c1, j1, fx1⟩ := f1
  cases q1
  rw [g1] at c1 fx1
  have fr1 : ∀ p9 : Nat, p9 ∉ [tx, ru, rF, rT] → t1.heap[p9]? = s.heap[p9]? := fun p9 h9 => (fx1 p9 (fun q => h9 (by rw [List.mem_singleton.mp q]; exact List.mem_cons_self))).trans (fr0 p9 h9)
  have hh1 : zh_ok D cA RTg ro sz H0 t1.heap lo1 := ⟨z1.1, z1.2.1, l1, z1.2.2.2⟩
  have kp1 := kp0.trans (c1.mono (ms' := rM) (by decide))
  have mf1_tx_0 := (c1.1 tx 0 0 0 0 fsX0 htx rfl (by decide) (by decide)).trans f0
  have mf1_tx_1 := (c1.1 tx 0 1 0 0 fsX0 htx rfl (by decide) (by decide)).trans f1
  have mf1_ru_3 := (c1.1 ru 5 3 5 0 fsX6 hru rfl (by decide) (by decide)).trans hF3
  have mf1_ru_4 := (c1.1 ru 5 4 5 0 fsX6 hru rfl (by decide) (by decide)).trans hF4
  refine W.eq (g2 := F0 m 4 ls []) rfl ?_
  refine lv_aload_n hx hb (eX6_scan (4, .aload_n 0, 1) (List.mem_of_getElem? (i := 2) rfl)) rfl (lv_at hl 0 rfl) ?_
  refine ff_iconst hx hb (eX6_scan (5, .iconst 1, 1) (List.mem_of_getElem? (i := 3) rfl)) (by decide) (by decide) (fun v2 e2 => ?_)
  refine tz_put (r := 5) (k := 0) (t := (0, (-2147483648), 2147483647)) hx hb hD hh1 hru rfl rfl ((hcl5 9 0 (0, (-2147483648), 2147483647) (by decide) rfl).2 (by decide)) (tz_i (zn_i32 _).1 (zn_i32 _).2) (eX6_scan (6, .putfield 9, 3) (List.mem_of_getElem? (i := 4) rfl)) (fun H3 lo3 hh3 hf3 hk3 _ hq3 => ?_)
  have mf3_tx_0 := (hk3.1 tx 0 0 0 0 fsX0 htx rfl (by decide) (by decide)).trans mf1_tx_0
  have mf3_tx_1 := (hk3.1 tx 0 1 0 0 fsX0 htx rfl (by decide) (by decide)).trans mf1_tx_1
  have mf3_ru_3 := (hk3.1 ru 5 3 5 0 fsX6 hru rfl (by decide) (by decide)).trans mf1_ru_3
  have mf3_ru_4 := (hk3.1 ru 5 4 5 0 fsX6 hru rfl (by decide) (by decide)).trans mf1_ru_4
  have kp3 := kp1.trans (hk3.mono (ms' := rM) (fun x hx => by cases List.mem_singleton.mp hx; decide))
  have jm3 := (j1).kept htx hk3 (by decide)
  have fr3 : ∀ p9 : Nat, p9 ∉ [tx, ru, rF, rT] → H3[p9]? = s.heap[p9]? := fun p9 h9 => (hq3 p9 (fun e9 => h9 (by rw [e9]; exact (List.mem_cons_of_mem _ List.mem_cons_self)))).trans (fr1 p9 h9)
  refine lv_aload_n hx hb (eX6_scan (9, .aload_n 1, 1) (List.mem_of_getElem? (i := 5) rfl)) rfl (lv_at hl 1 rfl) ?_
  refine tz_rowS (As := [.ref tx]) (st := []) (Ts := gT) hx hb hml hown h2 (fun _ h => h) (hX6_scanName l D cA ro sz H0 tx T (((0, 0, -1) : uS)) htx) ⟨rfl, rfl⟩ ⟨by decide, by decide⟩ ⟨by decide, by decide⟩ (tb_4 4 rfl rfl) (tb_1 3 rfl rfl) (tb_4 2 rfl rfl) (tb_4 3 rfl rfl) (show yX6_scanName.cls ≠ "java/lang/invoke/MethodHandle" ∧ yX6_scanName.cls ≠ "java/lang/invoke/VarHandle" ∧ (parseMethodDescriptor yX6_scanName.desc).map (fun d => d.parameters.length) = some 1 by decide +kernel) zs_blind (fun U hU hW => ⟨rfl, by rw [hU]; exact hh3.l0, zKb s U hW.alike hKn, by rw [hU]; exact jm3⟩) hh3.2.2.1 hl.1 (Nat.le_of_ble_eq_true rfl) (eX6_scan (10, .invokestatic 60, 3) (List.mem_of_getElem? (i := 6) rfl)) (fun r4 s4 t4 lo4 g4 f4 l4 => ?_)
  obtain ⟨q4, z4, c4, j4, fx4⟩ := f4
  cases q4
  rw [g4] at c4 fx4
  have fr4 : ∀ p9 : Nat, p9 ∉ [tx, ru, rF, rT] → t4.heap[p9]? = s.heap[p9]? := fun p9 h9 => (fx4 p9 (fun q => h9 (by rw [List.mem_singleton.mp q]; exact List.mem_cons_self))).trans (fr3 p9 h9)
  have hh4 : zh_ok D cA RTg ro sz H0 t4.heap lo4 := ⟨z4.1, z4.2.1, l4, z4.2.2.2⟩
  have kp4 := kp3.trans (c4.mono (ms' := rM) (by decide))
  generalize hx4 : nameF T (((0, 0, -1) : uS)) = x4 at j4
  have uu4 := j4.2.2
  unfold uOK at uu4
  have mf4_tx_0 := (c4.1 tx 0 0 0 0 fsX0 htx rfl (by decide) (by decide)).trans mf3_tx_0
  have mf4_tx_1 := (c4.1 tx 0 1 0 0 fsX0 htx rfl (by decide) (by decide)).trans mf3_tx_1
  have mf4_ru_3 := (c4.1 ru 5 3 5 0 fsX6 hru rfl (by decide) (by decide)).trans mf3_ru_3
  have mf4_ru_4 := (c4.1 ru 5 4 5 0 fsX6 hru rfl (by decide) (by decide)).trans mf3_ru_4
  have mf4_ru_0 := (c4.1 ru 5 0 5 0 fsX6 hru rfl (by decide) (by decide)).trans hf3
  refine W.eq (g2 := F0 m 13 ls []) rfl ?_
  refine lv_aload_n hx hb (eX6_scan (13, .aload_n 1, 1) (List.mem_of_getElem? (i := 7) rfl)) rfl (lv_at hl 1 rfl) ?_
  refine tz_rowS (As := [.ref tx]) (st := []) (Ts := gT) hx hb hml hown h2 (fun _ h => h) (hX6_scanSign l D cA ro sz H0 tx T (x4) htx) ⟨rfl, rfl⟩ ⟨by decide, by decide⟩ ⟨by decide, by decide⟩ (tb_4 48 rfl rfl) (tb_1 3 rfl rfl) (tb_4 46 rfl rfl) (tb_4 47 rfl rfl) (show yX6_scanSign.cls ≠ "java/lang/invoke/MethodHandle" ∧ yX6_scanSign.cls ≠ "java/lang/invoke/VarHandle" ∧ (parseMethodDescriptor yX6_scanSign.desc).map (fun d => d.parameters.length) = some 1 by decide +kernel) zs_blind (fun U hU hW => ⟨rfl, by rw [hU]; exact hh4.l0, zKb s U hW.alike hKn, by rw [hU]; exact j4⟩) hh4.2.2.1 hl.1 (Nat.le_of_ble_eq_true rfl) (eX6_scan (14, .invokestatic 64, 3) (List.mem_of_getElem? (i := 8) rfl)) (fun r5 s5 t5 lo5 g5 f5 l5 => ?_)
  obtain ⟨v5, q5, e5, z5, c5, j5, fx5⟩ := f5
  cases q5
  rw [g5] at c5 fx5
  have fr5 : ∀ p9 : Nat, p9 ∉ [tx, ru, rF, rT] → t5.heap[p9]? = s.heap[p9]? := fun p9 h9 => (fx5 p9 (fun q => h9 (by rw [List.mem_singleton.mp q]; exact List.mem_cons_self))).trans (fr4 p9 h9)
  have hh5 : zh_ok D cA RTg ro sz H0 t5.heap lo5 := ⟨z5.1, z5.2.1, l5, z5.2.2.2⟩
  have kp5 := kp4.trans (c5.mono (ms' := rM) (by decide))
  have kf5 := sgnF_1 T x4
  generalize hx5 : sgnF T x4 = x5 at j5 e5 kf5
  have uu5 := j5.2.2
  unfold uOK at uu5
  have mf5_tx_0 := (c5.1 tx 0 0 0 0 fsX0 htx rfl (by decide) (by decide)).trans mf4_tx_0
  have mf5_tx_1 := (c5.1 tx 0 1 0 0 fsX0 htx rfl (by decide) (by decide)).trans mf4_tx_1
  have mf5_ru_3 := (c5.1 ru 5 3 5 0 fsX6 hru rfl (by decide) (by decide)).trans mf4_ru_3
  have mf5_ru_4 := (c5.1 ru 5 4 5 0 fsX6 hru rfl (by decide) (by decide)).trans mf4_ru_4
  have mf5_ru_0 := (c5.1 ru 5 0 5 0 fsX6 hru rfl (by decide) (by decide)).trans mf4_ru_0
  refine W.eq (g2 := F0 m 17 ls [.int v5]) rfl ?_
  refine lv_istore_n hx hb (eX6_scan (17, .istore_n 2, 1) (List.mem_of_getElem? (i := 9) rfl)) rfl hl (by decide) rfl (fun ls6 hl6 => ?_)
  refine lv_aload_n hx hb (eX6_scan (18, .aload_n 1, 1) (List.mem_of_getElem? (i := 10) rfl)) rfl (lv_at hl6 2 rfl) ?_
  obtain ⟨jt7, ⟨av7, bv7, wv7, f27, f37, f47, hav7, hbv7, hwv7⟩, hu7⟩ := id j5
  refine tz_get (r := 0) (k := 2) (t := (0, (-2147483648), 2147483647)) hx hb hh5 htx rfl rfl (hcl0 68 2 (0, (-2147483648), 2147483647) (by decide) rfl).1 f27 (eX6_scan (19, .getfield 68, 3) (List.mem_of_getElem? (i := 11) rfl)) ?_
  refine lv_istore_n hx hb (eX6_scan (22, .istore_n 3, 1) (List.mem_of_getElem? (i := 12) rfl)) rfl hl6 (by decide) rfl (fun ls8 hl8 => ?_)
  refine lv_aload_n hx hb (eX6_scan (23, .aload_n 0, 1) (List.mem_of_getElem? (i := 13) rfl)) rfl (lv_at hl8 2 rfl) ?_
  refine lv_iload_n hx hb (eX6_scan (24, .iload_n 2, 1) (List.mem_of_getElem? (i := 14) rfl)) rfl (lv_at hl8 1 rfl) ?_
  refine ff_ineg hx hb (eX6_scan (25, .ineg, 1) (List.mem_of_getElem? (i := 15) rfl)) (by omega) (by omega) (fun v9 e9 => ?_)
  refine lv_aload_n hx hb (eX6_scan (26, .aload_n 1, 1) (List.mem_of_getElem? (i := 16) rfl)) rfl (lv_at hl8 3 rfl) ?_
  refine ff_bipush hx hb (eX6_scan (27, .bipush 23, 2) (List.mem_of_getElem? (i := 17) rfl)) (by decide) (by decide) (fun v10 e10 => ?_)
  refine tz_rowV (As := [.int v10]) (st := [.int v9, .ref ru]) (b := tx) (C := RX0) (Ts := gT) hx hb hml hown h2 (fun _ h => h) (hX0_clock l D cA ro sz H0 tx v10 23 T (x5.2) htx (by omega)) ⟨rfl, rfl⟩ ⟨by decide, by decide⟩ ⟨by decide, by decide⟩ (tb_4 52 rfl rfl) (tb_1 5 rfl rfl) (tb_4 49 rfl rfl) (tb_4 50 rfl rfl) (tb_4 51 rfl rfl) (show yX0_clock.cls ≠ "java/lang/invoke/MethodHandle" ∧ yX0_clock.cls ≠ "java/lang/invoke/VarHandle" ∧ (parseMethodDescriptor yX0_clock.desc).map (fun d => d.parameters.length) = some 1 by decide +kernel) zs_blind (zs_ob hh5 htx (show RTg[0]? = some (0, 0, 0, fsX0) from rfl) (zCX0 hKn.1)) (fun U hU hW => ⟨rfl, by rw [hU]; exact hh5.l0, zKb s U hW.alike hKn, by rw [hU]; exact j5⟩) hh5.2.2.1 hl8.1 (Nat.le_of_ble_eq_true rfl) (eX6_scan (29, .invokevirtual 71, 3) (List.mem_of_getElem? (i := 18) rfl)) (fun r11 s11 t11 lo11 g11 f11 l11 => ?_)
  obtain ⟨v11, q11, e11, z11, c11, j11, fx11⟩ := f11
  cases q11
  rw [g11] at c11 fx11
  have fr11 : ∀ p9 : Nat, p9 ∉ [tx, ru, rF, rT] → t11.heap[p9]? = s.heap[p9]? := fun p9 h9 => (fx11 p9 (fun q => h9 (by rw [List.mem_singleton.mp q]; exact List.mem_cons_self))).trans (fr5 p9 h9)
  have hh11 : zh_ok D cA RTg ro sz H0 t11.heap lo11 := ⟨z11.1, z11.2.1, l11, z11.2.2.2⟩
  have kp11 := kp5.trans (c11.mono (ms' := rM) (by decide))
  have kf11 := ckF_up (T := T) (most := 23) (s := x5.2)
  generalize hx11 : ckF T 23 x5.2 = x11 at j11 e11 kf11
  have uu11 := j11.2.2
  unfold uOK at uu11
  have mf11_tx_0 := (c11.1 tx 0 0 0 0 fsX0 htx rfl (by decide) (by decide)).trans mf5_tx_0
  have mf11_tx_1 := (c11.1 tx 0 1 0 0 fsX0 htx rfl (by decide) (by decide)).trans mf5_tx_1
  have mf11_ru_3 := (c11.1 ru 5 3 5 0 fsX6 hru rfl (by decide) (by decide)).trans mf5_ru_3
  have mf11_ru_4 := (c11.1 ru 5 4 5 0 fsX6 hru rfl (by decide) (by decide)).trans mf5_ru_4
  have mf11_ru_0 := (c11.1 ru 5 0 5 0 fsX6 hru rfl (by decide) (by decide)).trans mf5_ru_0
  refine W.eq (g2 := F0 m 32 ls8 [.int v11, .int v9, .ref ru]) rfl ?_
  have hm12 : v9.toInt * v11.toInt = -(x5.1 * x11.1) := by rw [show v9.toInt = -x5.1 by omega, show v11.toInt = x11.1 by omega, Int.neg_mul]
  have hp12 : -6039 ≤ -(x5.1 * x11.1) ∧ -(x5.1 * x11.1) ≤ 6039 := by rcases kf5 with h | h <;> rw [h] <;> omega
  refine ff_imul hx hb (eX6_scan (32, .imul, 1) (List.mem_of_getElem? (i := 19) rfl)) (by rw [hm12]; omega) (by rw [hm12]; omega) (fun v12 e12 => ?_)
  rw [hm12] at e12
  refine tz_put (r := 5) (k := 1) (t := (0, (-2147483648), 2147483647)) hx hb hD hh11 hru rfl rfl ((hcl5 15 1 (0, (-2147483648), 2147483647) (by decide) rfl).2 (by decide)) (tz_i (zn_i32 _).1 (zn_i32 _).2) (eX6_scan (33, .putfield 15, 3) (List.mem_of_getElem? (i := 20) rfl)) (fun H13 lo13 hh13 hf13 hk13 _ hq13 => ?_)
  have mf13_tx_0 := (hk13.1 tx 0 0 0 0 fsX0 htx rfl (by decide) (by decide)).trans mf11_tx_0
  have mf13_tx_1 := (hk13.1 tx 0 1 0 0 fsX0 htx rfl (by decide) (by decide)).trans mf11_tx_1
  have mf13_ru_3 := (hk13.1 ru 5 3 5 0 fsX6 hru rfl (by decide) (by decide)).trans mf11_ru_3
  have mf13_ru_4 := (hk13.1 ru 5 4 5 0 fsX6 hru rfl (by decide) (by decide)).trans mf11_ru_4
  have mf13_ru_0 := (hk13.1 ru 5 0 5 0 fsX6 hru rfl (by decide) (by decide)).trans mf11_ru_0
  have kp13 := kp11.trans (hk13.mono (ms' := rM) (fun x hx => by cases List.mem_singleton.mp hx; decide))
  have jm13 := (j11).kept htx hk13 (by decide)
  have fr13 : ∀ p9 : Nat, p9 ∉ [tx, ru, rF, rT] → H13[p9]? = s.heap[p9]? := fun p9 h9 => (hq13 p9 (fun e9 => h9 (by rw [e9]; exact (List.mem_cons_of_mem _ List.mem_cons_self)))).trans (fr11 p9 h9)
  refine lv_aload_n hx hb (eX6_scan (36, .aload_n 0, 1) (List.mem_of_getElem? (i := 21) rfl)) rfl (lv_at hl8 2 rfl) ?_
  refine lv_aload_n hx hb (eX6_scan (37, .aload_n 0, 1) (List.mem_of_getElem? (i := 22) rfl)) rfl (lv_at hl8 2 rfl) ?_
  refine tz_get (r := 5) (k := 1) (t := (0, (-2147483648), 2147483647)) hx hb hh13 hru rfl rfl (hcl5 15 1 (0, (-2147483648), 2147483647) (by decide) rfl).1 hf13 (eX6_scan (38, .getfield 15, 3) (List.mem_of_getElem? (i := 23) rfl)) ?_
  refine tz_put (r := 5) (k := 2) (t := (0, (-2147483648), 2147483647)) hx hb hD hh13 hru rfl rfl ((hcl5 18 2 (0, (-2147483648), 2147483647) (by decide) rfl).2 (by decide)) (tz_i (zn_i32 _).1 (zn_i32 _).2) (eX6_scan (41, .putfield 18, 3) (List.mem_of_getElem? (i := 24) rfl)) (fun H14 lo14 hh14 hf14 hk14 _ hq14 => ?_)
  have mf14_tx_0 := (hk14.1 tx 0 0 0 0 fsX0 htx rfl (by decide) (by decide)).trans mf13_tx_0
  have mf14_tx_1 := (hk14.1 tx 0 1 0 0 fsX0 htx rfl (by decide) (by decide)).trans mf13_tx_1
  have mf14_ru_3 := (hk14.1 ru 5 3 5 0 fsX6 hru rfl (by decide) (by decide)).trans mf13_ru_3
  have mf14_ru_4 := (hk14.1 ru 5 4 5 0 fsX6 hru rfl (by decide) (by decide)).trans mf13_ru_4
  have mf14_ru_0 := (hk14.1 ru 5 0 5 0 fsX6 hru rfl (by decide) (by decide)).trans mf13_ru_0
  have mf14_ru_1 := (hk14.1 ru 5 1 5 0 fsX6 hru rfl (by decide) (by decide)).trans hf13
  have kp14 := kp13.trans (hk14.mono (ms' := rM) (fun x hx => by cases List.mem_singleton.mp hx; decide))
  have jm14 := (jm13).kept htx hk14 (by decide)
  have fr14 : ∀ p9 : Nat, p9 ∉ [tx, ru, rF, rT] → H14[p9]? = s.heap[p9]? := fun p9 h9 => (hq14 p9 (fun e9 => h9 (by rw [e9]; exact (List.mem_cons_of_mem _ List.mem_cons_self)))).trans (fr13 p9 h9)
  refine lv_aload_n hx hb (eX6_scan (44, .aload_n 1, 1) (List.mem_of_getElem? (i := 25) rfl)) rfl (lv_at hl8 3 rfl) ?_
  refine tz_rowV (As := []) (st := []) (b := tx) (C := RX0) (Ts := gT) hx hb hml hown h2 (fun _ h => h) (hX0_atEnd l D cA ro sz H0 tx T (x11.2) htx) ⟨rfl, rfl⟩ ⟨by decide, by decide⟩ ⟨by decide, by decide⟩ (tb_4 69 rfl rfl) (tb_1 5 rfl rfl) (tb_4 66 rfl rfl) (tb_4 67 rfl rfl) (tb_4 68 rfl rfl) (show yX0_atEnd.cls ≠ "java/lang/invoke/MethodHandle" ∧ yX0_atEnd.cls ≠ "java/lang/invoke/VarHandle" ∧ (parseMethodDescriptor yX0_atEnd.desc).map (fun d => d.parameters.length) = some 0 by decide +kernel) zs_blind (zs_ob hh14 htx (show RTg[0]? = some (0, 0, 0, fsX0) from rfl) (zCX0 hKn.1)) (fun U hU hW => ⟨rfl, by rw [hU]; exact hh14.l0, zKb s U hW.alike hKn, by rw [hU]; exact jm14⟩) hh14.2.2.1 hl8.1 (Nat.le_of_ble_eq_true rfl) (eX6_scan (45, .invokevirtual 75, 3) (List.mem_of_getElem? (i := 26) rfl)) (fun r15 s15 t15 lo15 g15 f15 l15 => ?_)
  obtain ⟨z15, v15, q15, e15⟩ := f15
  cases q15
  rw [z15, g15]
  have hh15 : zh_ok D cA RTg ro sz H0 H14 lo15 := ⟨hh14.1, hh14.2.1, l15, hh14.2.2.2⟩
  refine W.eq (g2 := F0 m 48 ls8 [.int v15]) rfl ?_
  refine ff_if_ne hx hb (eX6_scan (48, .ifCond .ne 46, 3) (List.mem_of_getElem? (i := 27) rfl)) (tgt := 94) rfl (fun c16 => ?_) (fun c16 => ?_)
  · skip
    have hend : x11.2.2.1 = 0 ∧ (T.length : Int) ≤ x11.2.1 := by omega
    refine lv_aload_n hx hb (eX6_scan (94, .aload_n 1, 1) (List.mem_of_getElem? (i := 51) rfl)) rfl (lv_at hl8 3 rfl) ?_
    refine tz_rowV (As := []) (st := []) (b := tx) (C := RX0) (Ts := gT) hx hb hml hown h2 (fun _ h => h) (hX0_needEnd l D cA ro sz H0 tx T (x11.2) htx) ⟨rfl, rfl⟩ ⟨by decide, by decide⟩ ⟨by decide, by decide⟩ (tb_4 88 rfl rfl) (tb_1 5 rfl rfl) (tb_4 85 rfl rfl) (tb_4 86 rfl rfl) (tb_4 87 rfl rfl) (show yX0_needEnd.cls ≠ "java/lang/invoke/MethodHandle" ∧ yX0_needEnd.cls ≠ "java/lang/invoke/VarHandle" ∧ (parseMethodDescriptor yX0_needEnd.desc).map (fun d => d.parameters.length) = some 0 by decide +kernel) zs_blind (zs_ob hh15 htx (show RTg[0]? = some (0, 0, 0, fsX0) from rfl) (zCX0 hKn.1)) (fun U hU hW => ⟨rfl, by rw [hU]; exact hh15.l0, zKb s U hW.alike hKn, by rw [hU]; exact jm14⟩) hh15.2.2.1 hl8.1 (Nat.le_of_ble_eq_true rfl) (eX6_scan (95, .invokevirtual 90, 3) (List.mem_of_getElem? (i := 52) rfl)) (fun r17 s17 t17 lo17 g17 f17 l17 => ?_)
    obtain ⟨q17, z17, c17, j17, fx17⟩ := f17
    cases q17
    rw [g17] at c17 fx17
    have fr17 : ∀ p9 : Nat, p9 ∉ [tx, ru, rF, rT] → t17.heap[p9]? = s.heap[p9]? := fun p9 h9 => (fx17 p9 (fun q => h9 (by rw [List.mem_singleton.mp q]; exact List.mem_cons_self))).trans (fr14 p9 h9)
    have hh17 : zh_ok D cA RTg ro sz H0 t17.heap lo17 := ⟨z17.1, z17.2.1, l17, z17.2.2.2⟩
    have kp17 := kp14.trans (c17.mono (ms' := rM) (by decide))
    generalize hx17 : neF T x11.2 = x17 at j17
    have uu17 := j17.2.2
    unfold uOK at uu17
    have mf17_tx_0 := (c17.1 tx 0 0 0 0 fsX0 htx rfl (by decide) (by decide)).trans mf14_tx_0
    have mf17_tx_1 := (c17.1 tx 0 1 0 0 fsX0 htx rfl (by decide) (by decide)).trans mf14_tx_1
    have mf17_ru_3 := (c17.1 ru 5 3 5 0 fsX6 hru rfl (by decide) (by decide)).trans mf14_ru_3
    have mf17_ru_4 := (c17.1 ru 5 4 5 0 fsX6 hru rfl (by decide) (by decide)).trans mf14_ru_4
    have mf17_ru_0 := (c17.1 ru 5 0 5 0 fsX6 hru rfl (by decide) (by decide)).trans mf14_ru_0
    have mf17_ru_1 := (c17.1 ru 5 1 5 0 fsX6 hru rfl (by decide) (by decide)).trans mf14_ru_1
    have mf17_ru_2 := (c17.1 ru 5 2 5 0 fsX6 hru rfl (by decide) (by decide)).trans hf14
    refine W.eq (g2 := F0 m 98 ls8 []) rfl ?_
    refine lv_aload_n hx hb (eX6_scan (98, .aload_n 1, 1) (List.mem_of_getElem? (i := 53) rfl)) rfl (lv_at hl8 3 rfl) ?_
    refine tz_rowV (As := []) (st := []) (b := tx) (C := RX0) (Ts := gT) hx hb hml hown h2 (fun _ h => h) (hX0_verdict l D cA ro sz H0 tx T (x17) htx) ⟨rfl, rfl⟩ ⟨by decide, by decide⟩ ⟨by decide, by decide⟩ (tb_4 93 rfl rfl) (tb_1 5 rfl rfl) (tb_4 90 rfl rfl) (tb_4 91 rfl rfl) (tb_4 92 rfl rfl) (show yX0_verdict.cls ≠ "java/lang/invoke/MethodHandle" ∧ yX0_verdict.cls ≠ "java/lang/invoke/VarHandle" ∧ (parseMethodDescriptor yX0_verdict.desc).map (fun d => d.parameters.length) = some 0 by decide +kernel) zs_blind (zs_ob hh17 htx (show RTg[0]? = some (0, 0, 0, fsX0) from rfl) (zCX0 hKn.1)) (fun U hU hW => ⟨rfl, by rw [hU]; exact hh17.l0, zKb s U hW.alike hKn, by rw [hU]; exact j17⟩) hh17.2.2.1 hl8.1 (Nat.le_of_ble_eq_true rfl) (eX6_scan (99, .invokevirtual 93, 3) (List.mem_of_getElem? (i := 54) rfl)) (fun r18 s18 t18 lo18 g18 f18 l18 => ?_)
    obtain ⟨z18, v18, q18, e18⟩ := f18
    cases q18
    rw [z18, g18]
    have hh18 : zh_ok D cA RTg ro sz H0 t17.heap lo18 := ⟨hh17.1, hh17.2.1, l18, hh17.2.2.2⟩
    refine W.eq (g2 := F0 m 102 ls8 [.long v18]) rfl ?_
    have h9 : neF T x11.2 = x11.2 := by unfold neF; rw [if_pos hend]
    have hfin : (ruF T).2 = x17 := by simp only [ruF, hx4, hx5, hx11, if_pos hend]; rw [← hx17, h9]
    have hfr : (ruF T).1 = (1, -(x5.1 * x11.1), -(x5.1 * x11.1), rD0, rD0) := by simp only [ruF, hx4, hx5, hx11, if_pos hend]
    exact W.lret hx hb hr (fun t ht hW => ⟨_, rfl, by rw [hfin] <;> exact e18, by rw [ht]; exact hh18.l0, by rw [ht]; exact kp17, by rw [ht, hfin]; exact j17, by rw [ht]; exact fr17, _, _, _, by rw [ht]; exact mf17_ru_0, by rw [ht]; exact mf17_ru_1, by rw [ht]; exact mf17_ru_2, by rw [hfr]; show _ = (1 : Int); omega, by rw [hfr]; show _ = -(x5.1 * x11.1); omega, fun q => by rw [hfr] at q; exact absurd q (show ¬ (1 : Int) = 2 by decide)⟩) hh18.2.2.1 (eX6_scan (102, .lreturn, 1) (List.mem_of_getElem? (i := 55) rfl))
  · skip
    have hend : ¬ (x11.2.2.1 = 0 ∧ (T.length : Int) ≤ x11.2.1) := by omega
    refine lv_aload_n hx hb (eX6_scan (51, .aload_n 0, 1) (List.mem_of_getElem? (i := 28) rfl)) rfl (lv_at hl8 2 rfl) ?_
    refine ff_iconst hx hb (eX6_scan (52, .iconst 2, 1) (List.mem_of_getElem? (i := 29) rfl)) (by decide) (by decide) (fun v19 e19 => ?_)
    refine tz_put (r := 5) (k := 0) (t := (0, (-2147483648), 2147483647)) hx hb hD hh15 hru rfl rfl ((hcl5 9 0 (0, (-2147483648), 2147483647) (by decide) rfl).2 (by decide)) (tz_i (zn_i32 _).1 (zn_i32 _).2) (eX6_scan (53, .putfield 9, 3) (List.mem_of_getElem? (i := 30) rfl)) (fun H20 lo20 hh20 hf20 hk20 _ hq20 => ?_)
    have mf20_tx_0 := (hk20.1 tx 0 0 0 0 fsX0 htx rfl (by decide) (by decide)).trans mf14_tx_0
    have mf20_tx_1 := (hk20.1 tx 0 1 0 0 fsX0 htx rfl (by decide) (by decide)).trans mf14_tx_1
    have mf20_ru_3 := (hk20.1 ru 5 3 5 0 fsX6 hru rfl (by decide) (by decide)).trans mf14_ru_3
    have mf20_ru_4 := (hk20.1 ru 5 4 5 0 fsX6 hru rfl (by decide) (by decide)).trans mf14_ru_4
    have mf20_ru_1 := (hk20.1 ru 5 1 5 0 fsX6 hru rfl (by decide) (by decide)).trans mf14_ru_1
    have mf20_ru_2 := (hk20.1 ru 5 2 5 0 fsX6 hru rfl (by decide) (by decide)).trans hf14
    have kp20 := kp14.trans (hk20.mono (ms' := rM) (fun x hx => by cases List.mem_singleton.mp hx; decide))
    have jm20 := (jm14).kept htx hk20 (by decide)
    have fr20 : ∀ p9 : Nat, p9 ∉ [tx, ru, rF, rT] → H20[p9]? = s.heap[p9]? := fun p9 h9 => (hq20 p9 (fun e9 => h9 (by rw [e9]; exact (List.mem_cons_of_mem _ List.mem_cons_self)))).trans (fr14 p9 h9)
    refine lv_aload_n hx hb (eX6_scan (56, .aload_n 1, 1) (List.mem_of_getElem? (i := 31) rfl)) rfl (lv_at hl8 3 rfl) ?_
    refine tz_rowS (As := [.ref tx]) (st := []) (Ts := gT) hx hb hml hown h2 (fun _ h => h) (hX6_scanName l D cA ro sz H0 tx T (x11.2) htx) ⟨rfl, rfl⟩ ⟨by decide, by decide⟩ ⟨by decide, by decide⟩ (tb_4 4 rfl rfl) (tb_1 3 rfl rfl) (tb_4 2 rfl rfl) (tb_4 3 rfl rfl) (show yX6_scanName.cls ≠ "java/lang/invoke/MethodHandle" ∧ yX6_scanName.cls ≠ "java/lang/invoke/VarHandle" ∧ (parseMethodDescriptor yX6_scanName.desc).map (fun d => d.parameters.length) = some 1 by decide +kernel) zs_blind (fun U hU hW => ⟨rfl, by rw [hU]; exact hh20.l0, zKb s U hW.alike hKn, by rw [hU]; exact jm20⟩) hh20.2.2.1 hl8.1 (Nat.le_of_ble_eq_true rfl) (eX6_scan (57, .invokestatic 60, 3) (List.mem_of_getElem? (i := 32) rfl)) (fun r21 s21 t21 lo21 g21 f21 l21 => ?_)
    obtain ⟨q21, z21, c21, j21, fx21⟩ := f21
    cases q21
    rw [g21] at c21 fx21
    have fr21 : ∀ p9 : Nat, p9 ∉ [tx, ru, rF, rT] → t21.heap[p9]? = s.heap[p9]? := fun p9 h9 => (fx21 p9 (fun q => h9 (by rw [List.mem_singleton.mp q]; exact List.mem_cons_self))).trans (fr20 p9 h9)
    have hh21 : zh_ok D cA RTg ro sz H0 t21.heap lo21 := ⟨z21.1, z21.2.1, l21, z21.2.2.2⟩
    have kp21 := kp20.trans (c21.mono (ms' := rM) (by decide))
    generalize hx21 : nameF T x11.2 = x21 at j21
    have uu21 := j21.2.2
    unfold uOK at uu21
    have mf21_tx_0 := (c21.1 tx 0 0 0 0 fsX0 htx rfl (by decide) (by decide)).trans mf20_tx_0
    have mf21_tx_1 := (c21.1 tx 0 1 0 0 fsX0 htx rfl (by decide) (by decide)).trans mf20_tx_1
    have mf21_ru_3 := (c21.1 ru 5 3 5 0 fsX6 hru rfl (by decide) (by decide)).trans mf20_ru_3
    have mf21_ru_4 := (c21.1 ru 5 4 5 0 fsX6 hru rfl (by decide) (by decide)).trans mf20_ru_4
    have mf21_ru_1 := (c21.1 ru 5 1 5 0 fsX6 hru rfl (by decide) (by decide)).trans mf20_ru_1
    have mf21_ru_2 := (c21.1 ru 5 2 5 0 fsX6 hru rfl (by decide) (by decide)).trans mf20_ru_2
    have mf21_ru_0 := (c21.1 ru 5 0 5 0 fsX6 hru rfl (by decide) (by decide)).trans hf20
    refine W.eq (g2 := F0 m 60 ls8 []) rfl ?_
    refine lv_aload_n hx hb (eX6_scan (60, .aload_n 0, 1) (List.mem_of_getElem? (i := 33) rfl)) rfl (lv_at hl8 2 rfl) ?_
    refine lv_aload_n hx hb (eX6_scan (61, .aload_n 1, 1) (List.mem_of_getElem? (i := 34) rfl)) rfl (lv_at hl8 3 rfl) ?_
    refine lv_iload_n hx hb (eX6_scan (62, .iload_n 3, 1) (List.mem_of_getElem? (i := 35) rfl)) rfl (lv_at hl8 0 rfl) ?_
    refine tz_rowV (As := [.ref tx, .int av7]) (st := []) (b := ru) (C := RX6) (Ts := gT) hx hb hml hown h2 (fun _ h => h) (hX6_scanSecondOffset l D cA ro sz H0 ru tx av7 v12 x5.2.1 (-(x5.1 * x11.1)) T (x21) hru htx (by omega) (by omega) (by omega)) ⟨rfl, rfl⟩ ⟨by decide, by decide⟩ ⟨by decide, by decide⟩ (tb_4 73 rfl rfl) (tb_1 3 rfl rfl) (tb_4 70 rfl rfl) (tb_4 71 rfl rfl) (tb_4 72 rfl rfl) (show yX6_scanSecondOffset.cls ≠ "java/lang/invoke/MethodHandle" ∧ yX6_scanSecondOffset.cls ≠ "java/lang/invoke/VarHandle" ∧ (parseMethodDescriptor yX6_scanSecondOffset.desc).map (fun d => d.parameters.length) = some 2 by decide +kernel) zs_blind (zs_ob hh21 hru (show RTg[5]? = some (0, 5, 0, fsX6) from rfl) (zCX6 hKn.1)) (fun U hU hW => ⟨rfl, by rw [hU]; exact hh21.l0, zKb s U hW.alike hKn, by rw [hU]; exact ⟨j21, mf21_ru_1⟩⟩) hh21.2.2.1 hl8.1 (Nat.le_of_ble_eq_true rfl) (eX6_scan (63, .invokevirtual 79, 3) (List.mem_of_getElem? (i := 36) rfl)) (fun r22 s22 t22 lo22 g22 f22 l22 => ?_)
    obtain ⟨q22, z22, c22, j22, fx22, sv22, fs22, es22⟩ := f22
    cases q22
    rw [g22] at c22 fx22
    have fr22 : ∀ p9 : Nat, p9 ∉ [tx, ru, rF, rT] → t22.heap[p9]? = s.heap[p9]? := fun p9 h9 => (fx22 p9 (fun q => h9 (by rcases List.mem_cons.mp q with q | q; (rw [q]; exact List.mem_cons_self); (rw [List.mem_singleton.mp q]; exact (List.mem_cons_of_mem _ List.mem_cons_self))))).trans (fr21 p9 h9)
    have hh22 : zh_ok D cA RTg ro sz H0 t22.heap lo22 := ⟨z22.1, z22.2.1, l22, z22.2.2.2⟩
    have kp22 := kp21.trans (c22.mono (ms' := rM) (by decide))
    generalize hx22 : secF T x5.2.1 (-(x5.1 * x11.1)) x21 = x22 at j22 es22
    have mf22_tx_0 := (c22.1 tx 0 0 0 0 fsX0 htx rfl (by decide) (by decide)).trans mf21_tx_0
    have mf22_tx_1 := (c22.1 tx 0 1 0 0 fsX0 htx rfl (by decide) (by decide)).trans mf21_tx_1
    have mf22_ru_3 := (c22.1 ru 5 3 5 0 fsX6 hru rfl (by decide) (by decide)).trans mf21_ru_3
    have mf22_ru_4 := (c22.1 ru 5 4 5 0 fsX6 hru rfl (by decide) (by decide)).trans mf21_ru_4
    have mf22_ru_1 := (c22.1 ru 5 1 5 0 fsX6 hru rfl (by decide) (by decide)).trans mf21_ru_1
    have mf22_ru_0 := (c22.1 ru 5 0 5 0 fsX6 hru rfl (by decide) (by decide)).trans mf21_ru_0
    refine W.eq (g2 := F0 m 66 ls8 []) rfl ?_
    refine lv_aload_n hx hb (eX6_scan (66, .aload_n 1, 1) (List.mem_of_getElem? (i := 37) rfl)) rfl (lv_at hl8 3 rfl) ?_
    refine ff_bipush hx hb (eX6_scan (67, .bipush 44, 2) (List.mem_of_getElem? (i := 38) rfl)) (by decide) (by decide) (fun v23 e23 => ?_)
    refine tz_rowV (As := [.int v23]) (st := []) (b := tx) (C := RX0) (Ts := gT) hx hb hml hown h2 (fun _ h => h) (hX0_need l D cA ro sz H0 tx v23 44 T (x22.2) htx (by omega) (by decide)) ⟨rfl, rfl⟩ ⟨by decide, by decide⟩ ⟨by decide, by decide⟩ (tb_4 44 rfl rfl) (tb_1 5 rfl rfl) (tb_4 41 rfl rfl) (tb_4 42 rfl rfl) (tb_4 43 rfl rfl) (show yX0_need.cls ≠ "java/lang/invoke/MethodHandle" ∧ yX0_need.cls ≠ "java/lang/invoke/VarHandle" ∧ (parseMethodDescriptor yX0_need.desc).map (fun d => d.parameters.length) = some 1 by decide +kernel) zs_blind (zs_ob hh22 htx (show RTg[0]? = some (0, 0, 0, fsX0) from rfl) (zCX0 hKn.1)) (fun U hU hW => ⟨rfl, by rw [hU]; exact hh22.l0, zKb s U hW.alike hKn, by rw [hU]; exact j22⟩) hh22.2.2.1 hl8.1 (Nat.le_of_ble_eq_true rfl) (eX6_scan (69, .invokevirtual 83, 3) (List.mem_of_getElem? (i := 39) rfl)) (fun r24 s24 t24 lo24 g24 f24 l24 => ?_)
    obtain ⟨q24, z24, c24, j24, fx24⟩ := f24
    cases q24
    rw [g24] at c24 fx24
    have fr24 : ∀ p9 : Nat, p9 ∉ [tx, ru, rF, rT] → t24.heap[p9]? = s.heap[p9]? := fun p9 h9 => (fx24 p9 (fun q => h9 (by rw [List.mem_singleton.mp q]; exact List.mem_cons_self))).trans (fr22 p9 h9)
    have hh24 : zh_ok D cA RTg ro sz H0 t24.heap lo24 := ⟨z24.1, z24.2.1, l24, z24.2.2.2⟩
    have kp24 := kp22.trans (c24.mono (ms' := rM) (by decide))
    generalize hx24 : ndF T 44 x22.2 = x24 at j24
    have uu24 := j24.2.2
    unfold uOK at uu24
    have mf24_tx_0 := (c24.1 tx 0 0 0 0 fsX0 htx rfl (by decide) (by decide)).trans mf22_tx_0
    have mf24_tx_1 := (c24.1 tx 0 1 0 0 fsX0 htx rfl (by decide) (by decide)).trans mf22_tx_1
    have mf24_ru_3 := (c24.1 ru 5 3 5 0 fsX6 hru rfl (by decide) (by decide)).trans mf22_ru_3
    have mf24_ru_4 := (c24.1 ru 5 4 5 0 fsX6 hru rfl (by decide) (by decide)).trans mf22_ru_4
    have mf24_ru_1 := (c24.1 ru 5 1 5 0 fsX6 hru rfl (by decide) (by decide)).trans mf22_ru_1
    have mf24_ru_0 := (c24.1 ru 5 0 5 0 fsX6 hru rfl (by decide) (by decide)).trans mf22_ru_0
    have mf24_ru_2 := (c24.1 ru 5 2 5 0 fsX6 hru rfl (by decide) (by decide)).trans fs22
    refine W.eq (g2 := F0 m 72 ls8 []) rfl ?_
    refine lv_aload_n hx hb (eX6_scan (72, .aload_n 0, 1) (List.mem_of_getElem? (i := 40) rfl)) rfl (lv_at hl8 2 rfl) ?_
    refine tz_get (r := 5) (k := 3) (t := (16, 0, 0)) hx hb hh24 hru rfl rfl (hcl5 24 3 (16, 0, 0) (by decide) rfl).1 mf24_ru_3 (eX6_scan (73, .getfield 24, 3) (List.mem_of_getElem? (i := 41) rfl)) ?_
    refine lv_aload_n hx hb (eX6_scan (76, .aload_n 1, 1) (List.mem_of_getElem? (i := 42) rfl)) rfl (lv_at hl8 3 rfl) ?_
    refine tz_rowV (As := [.ref tx]) (st := []) (b := rF) (C := RX7) (Ts := gT) hx hb hml hown h2 (fun _ h => h) (hX7_scan l D cA ro sz H0 rF tx T (x24) hrF htx) ⟨rfl, rfl⟩ ⟨by decide, by decide⟩ ⟨by decide, by decide⟩ (tb_4 80 rfl rfl) (tb_1 4 rfl rfl) (tb_4 77 rfl rfl) (tb_4 78 rfl rfl) (tb_4 79 rfl rfl) (show yX7_scan.cls ≠ "java/lang/invoke/MethodHandle" ∧ yX7_scan.cls ≠ "java/lang/invoke/VarHandle" ∧ (parseMethodDescriptor yX7_scan.desc).map (fun d => d.parameters.length) = some 1 by decide +kernel) zs_blind (zs_ob hh24 hrF (show RTg[6]? = some (0, 6, 0, fsX7) from rfl) (zCX7 hKn.1)) (fun U hU hW => ⟨rfl, by rw [hU]; exact hh24.l0, zKb s U hW.alike hKn, by rw [hU]; exact j24⟩) hh24.2.2.1 hl8.1 (Nat.le_of_ble_eq_true rfl) (eX6_scan (77, .invokevirtual 87, 3) (List.mem_of_getElem? (i := 43) rfl)) (fun r25 s25 t25 lo25 g25 f25 l25 => ?_)
    obtain ⟨q25, z25, c25, j25, fx25, jd25⟩ := f25
    cases q25
    rw [g25] at c25 fx25
    have fr25 : ∀ p9 : Nat, p9 ∉ [tx, ru, rF, rT] → t25.heap[p9]? = s.heap[p9]? := fun p9 h9 => (fx25 p9 (fun q => h9 (by rcases List.mem_cons.mp q with q | q; (rw [q]; exact List.mem_cons_self); (rw [List.mem_singleton.mp q]; exact (List.mem_cons_of_mem _ (List.mem_cons_of_mem _ List.mem_cons_self)))))).trans (fr24 p9 h9)
    have hh25 : zh_ok D cA RTg ro sz H0 t25.heap lo25 := ⟨z25.1, z25.2.1, l25, z25.2.2.2⟩
    have kp25 := kp24.trans (c25.mono (ms' := rM) (by decide))
    generalize hx25 : dateF T x24 = x25 at j25 jd25
    have mf25_tx_0 := (c25.1 tx 0 0 0 0 fsX0 htx rfl (by decide) (by decide)).trans mf24_tx_0
    have mf25_tx_1 := (c25.1 tx 0 1 0 0 fsX0 htx rfl (by decide) (by decide)).trans mf24_tx_1
    have mf25_ru_3 := (c25.1 ru 5 3 5 0 fsX6 hru rfl (by decide) (by decide)).trans mf24_ru_3
    have mf25_ru_4 := (c25.1 ru 5 4 5 0 fsX6 hru rfl (by decide) (by decide)).trans mf24_ru_4
    have mf25_ru_1 := (c25.1 ru 5 1 5 0 fsX6 hru rfl (by decide) (by decide)).trans mf24_ru_1
    have mf25_ru_0 := (c25.1 ru 5 0 5 0 fsX6 hru rfl (by decide) (by decide)).trans mf24_ru_0
    have mf25_ru_2 := (c25.1 ru 5 2 5 0 fsX6 hru rfl (by decide) (by decide)).trans mf24_ru_2
    refine W.eq (g2 := F0 m 80 ls8 []) rfl ?_
    refine lv_aload_n hx hb (eX6_scan (80, .aload_n 1, 1) (List.mem_of_getElem? (i := 44) rfl)) rfl (lv_at hl8 3 rfl) ?_
    refine ff_bipush hx hb (eX6_scan (81, .bipush 44, 2) (List.mem_of_getElem? (i := 45) rfl)) (by decide) (by decide) (fun v26 e26 => ?_)
    refine tz_rowV (As := [.int v26]) (st := []) (b := tx) (C := RX0) (Ts := gT) hx hb hml hown h2 (fun _ h => h) (hX0_need l D cA ro sz H0 tx v26 44 T (x25.2) htx (by omega) (by decide)) ⟨rfl, rfl⟩ ⟨by decide, by decide⟩ ⟨by decide, by decide⟩ (tb_4 44 rfl rfl) (tb_1 5 rfl rfl) (tb_4 41 rfl rfl) (tb_4 42 rfl rfl) (tb_4 43 rfl rfl) (show yX0_need.cls ≠ "java/lang/invoke/MethodHandle" ∧ yX0_need.cls ≠ "java/lang/invoke/VarHandle" ∧ (parseMethodDescriptor yX0_need.desc).map (fun d => d.parameters.length) = some 1 by decide +kernel) zs_blind (zs_ob hh25 htx (show RTg[0]? = some (0, 0, 0, fsX0) from rfl) (zCX0 hKn.1)) (fun U hU hW => ⟨rfl, by rw [hU]; exact hh25.l0, zKb s U hW.alike hKn, by rw [hU]; exact j25⟩) hh25.2.2.1 hl8.1 (Nat.le_of_ble_eq_true rfl) (eX6_scan (83, .invokevirtual 83, 3) (List.mem_of_getElem? (i := 46) rfl)) (fun r27 s27 t27 lo27 g27 f27 l27 => ?_)
    obtain ⟨q27, z27, c27, j27, fx27⟩ := f27
    cases q27
    rw [g27] at c27 fx27
    have fr27 : ∀ p9 : Nat, p9 ∉ [tx, ru, rF, rT] → t27.heap[p9]? = s.heap[p9]? := fun p9 h9 => (fx27 p9 (fun q => h9 (by rw [List.mem_singleton.mp q]; exact List.mem_cons_self))).trans (fr25 p9 h9)
    have hh27 : zh_ok D cA RTg ro sz H0 t27.heap lo27 := ⟨z27.1, z27.2.1, l27, z27.2.2.2⟩
    have kp27 := kp25.trans (c27.mono (ms' := rM) (by decide))
    generalize hx27 : ndF T 44 x25.2 = x27 at j27
    have uu27 := j27.2.2
    unfold uOK at uu27
    have mf27_tx_0 := (c27.1 tx 0 0 0 0 fsX0 htx rfl (by decide) (by decide)).trans mf25_tx_0
    have mf27_tx_1 := (c27.1 tx 0 1 0 0 fsX0 htx rfl (by decide) (by decide)).trans mf25_tx_1
    have mf27_ru_3 := (c27.1 ru 5 3 5 0 fsX6 hru rfl (by decide) (by decide)).trans mf25_ru_3
    have mf27_ru_4 := (c27.1 ru 5 4 5 0 fsX6 hru rfl (by decide) (by decide)).trans mf25_ru_4
    have mf27_ru_1 := (c27.1 ru 5 1 5 0 fsX6 hru rfl (by decide) (by decide)).trans mf25_ru_1
    have mf27_ru_0 := (c27.1 ru 5 0 5 0 fsX6 hru rfl (by decide) (by decide)).trans mf25_ru_0
    have mf27_ru_2 := (c27.1 ru 5 2 5 0 fsX6 hru rfl (by decide) (by decide)).trans mf25_ru_2
    have jd1027 := jd25.kept hrF c27 (by decide)
    refine W.eq (g2 := F0 m 86 ls8 []) rfl ?_
    refine lv_aload_n hx hb (eX6_scan (86, .aload_n 0, 1) (List.mem_of_getElem? (i := 47) rfl)) rfl (lv_at hl8 2 rfl) ?_
    refine tz_get (r := 5) (k := 4) (t := (16, 0, 0)) hx hb hh27 hru rfl rfl (hcl5 28 4 (16, 0, 0) (by decide) rfl).1 mf27_ru_4 (eX6_scan (87, .getfield 28, 3) (List.mem_of_getElem? (i := 48) rfl)) ?_
    refine lv_aload_n hx hb (eX6_scan (90, .aload_n 1, 1) (List.mem_of_getElem? (i := 49) rfl)) rfl (lv_at hl8 3 rfl) ?_
    refine tz_rowV (As := [.ref tx]) (st := []) (b := rT) (C := RX7) (Ts := gT) hx hb hml hown h2 (fun _ h => h) (hX7_scan l D cA ro sz H0 rT tx T (x27) hrT htx) ⟨rfl, rfl⟩ ⟨by decide, by decide⟩ ⟨by decide, by decide⟩ (tb_4 80 rfl rfl) (tb_1 4 rfl rfl) (tb_4 77 rfl rfl) (tb_4 78 rfl rfl) (tb_4 79 rfl rfl) (show yX7_scan.cls ≠ "java/lang/invoke/MethodHandle" ∧ yX7_scan.cls ≠ "java/lang/invoke/VarHandle" ∧ (parseMethodDescriptor yX7_scan.desc).map (fun d => d.parameters.length) = some 1 by decide +kernel) zs_blind (zs_ob hh27 hrT (show RTg[6]? = some (0, 6, 0, fsX7) from rfl) (zCX7 hKn.1)) (fun U hU hW => ⟨rfl, by rw [hU]; exact hh27.l0, zKb s U hW.alike hKn, by rw [hU]; exact j27⟩) hh27.2.2.1 hl8.1 (Nat.le_of_ble_eq_true rfl) (eX6_scan (91, .invokevirtual 87, 3) (List.mem_of_getElem? (i := 50) rfl)) (fun r28 s28 t28 lo28 g28 f28 l28 => ?_)
    obtain ⟨q28, z28, c28, j28, fx28, jd28⟩ := f28
    cases q28
    rw [g28] at c28 fx28
    have fr28 : ∀ p9 : Nat, p9 ∉ [tx, ru, rF, rT] → t28.heap[p9]? = s.heap[p9]? := fun p9 h9 => (fx28 p9 (fun q => h9 (by rcases List.mem_cons.mp q with q | q; (rw [q]; exact List.mem_cons_self); (rw [List.mem_singleton.mp q]; exact (List.mem_cons_of_mem _ (List.mem_cons_of_mem _ (List.mem_cons_of_mem _ List.mem_cons_self))))))).trans (fr27 p9 h9)
    have hh28 : zh_ok D cA RTg ro sz H0 t28.heap lo28 := ⟨z28.1, z28.2.1, l28, z28.2.2.2⟩
    have kp28 := kp27.trans (c28.mono (ms' := rM) (by decide))
    have jf28 : rF ≠ rT → jRd D t28.heap rF x25.1 := fun hFT => jd1027.same (fx28 rF (fun q => by rcases List.mem_cons.mp q with q | q; (rw [q, htx] at hrF; cases hrF); exact hFT (List.mem_singleton.mp q)))
    generalize hx28 : dateF T x27 = x28 at j28 jd28
    have mf28_tx_0 := (c28.1 tx 0 0 0 0 fsX0 htx rfl (by decide) (by decide)).trans mf27_tx_0
    have mf28_tx_1 := (c28.1 tx 0 1 0 0 fsX0 htx rfl (by decide) (by decide)).trans mf27_tx_1
    have mf28_ru_3 := (c28.1 ru 5 3 5 0 fsX6 hru rfl (by decide) (by decide)).trans mf27_ru_3
    have mf28_ru_4 := (c28.1 ru 5 4 5 0 fsX6 hru rfl (by decide) (by decide)).trans mf27_ru_4
    have mf28_ru_1 := (c28.1 ru 5 1 5 0 fsX6 hru rfl (by decide) (by decide)).trans mf27_ru_1
    have mf28_ru_0 := (c28.1 ru 5 0 5 0 fsX6 hru rfl (by decide) (by decide)).trans mf27_ru_0
    have mf28_ru_2 := (c28.1 ru 5 2 5 0 fsX6 hru rfl (by decide) (by decide)).trans mf27_ru_2
    refine W.eq (g2 := F0 m 94 ls8 []) rfl ?_
    refine lv_aload_n hx hb (eX6_scan (94, .aload_n 1, 1) (List.mem_of_getElem? (i := 51) rfl)) rfl (lv_at hl8 3 rfl) ?_
    refine tz_rowV (As := []) (st := []) (b := tx) (C := RX0) (Ts := gT) hx hb hml hown h2 (fun _ h => h) (hX0_needEnd l D cA ro sz H0 tx T (x28.2) htx) ⟨rfl, rfl⟩ ⟨by decide, by decide⟩ ⟨by decide, by decide⟩ (tb_4 88 rfl rfl) (tb_1 5 rfl rfl) (tb_4 85 rfl rfl) (tb_4 86 rfl rfl) (tb_4 87 rfl rfl) (show yX0_needEnd.cls ≠ "java/lang/invoke/MethodHandle" ∧ yX0_needEnd.cls ≠ "java/lang/invoke/VarHandle" ∧ (parseMethodDescriptor yX0_needEnd.desc).map (fun d => d.parameters.length) = some 0 by decide +kernel) zs_blind (zs_ob hh28 htx (show RTg[0]? = some (0, 0, 0, fsX0) from rfl) (zCX0 hKn.1)) (fun U hU hW => ⟨rfl, by rw [hU]; exact hh28.l0, zKb s U hW.alike hKn, by rw [hU]; exact j28⟩) hh28.2.2.1 hl8.1 (Nat.le_of_ble_eq_true rfl) (eX6_scan (95, .invokevirtual 90, 3) (List.mem_of_getElem? (i := 52) rfl)) (fun r29 s29 t29 lo29 g29 f29 l29 => ?_)
    obtain ⟨q29, z29, c29, j29, fx29⟩ := f29
    cases q29
    rw [g29] at c29 fx29
    have fr29 : ∀ p9 : Nat, p9 ∉ [tx, ru, rF, rT] → t29.heap[p9]? = s.heap[p9]? := fun p9 h9 => (fx29 p9 (fun q => h9 (by rw [List.mem_singleton.mp q]; exact List.mem_cons_self))).trans (fr28 p9 h9)
    have hh29 : zh_ok D cA RTg ro sz H0 t29.heap lo29 := ⟨z29.1, z29.2.1, l29, z29.2.2.2⟩
    have kp29 := kp28.trans (c29.mono (ms' := rM) (by decide))
    generalize hx29 : neF T x28.2 = x29 at j29
    have uu29 := j29.2.2
    unfold uOK at uu29
    have mf29_tx_0 := (c29.1 tx 0 0 0 0 fsX0 htx rfl (by decide) (by decide)).trans mf28_tx_0
    have mf29_tx_1 := (c29.1 tx 0 1 0 0 fsX0 htx rfl (by decide) (by decide)).trans mf28_tx_1
    have mf29_ru_3 := (c29.1 ru 5 3 5 0 fsX6 hru rfl (by decide) (by decide)).trans mf28_ru_3
    have mf29_ru_4 := (c29.1 ru 5 4 5 0 fsX6 hru rfl (by decide) (by decide)).trans mf28_ru_4
    have mf29_ru_1 := (c29.1 ru 5 1 5 0 fsX6 hru rfl (by decide) (by decide)).trans mf28_ru_1
    have mf29_ru_0 := (c29.1 ru 5 0 5 0 fsX6 hru rfl (by decide) (by decide)).trans mf28_ru_0
    have mf29_ru_2 := (c29.1 ru 5 2 5 0 fsX6 hru rfl (by decide) (by decide)).trans mf28_ru_2
    have jf1029 := fun hFT => (jf28 hFT).kept hrF c29 (by decide)
    have jd2029 := jd28.kept hrT c29 (by decide)
    refine W.eq (g2 := F0 m 98 ls8 []) rfl ?_
    refine lv_aload_n hx hb (eX6_scan (98, .aload_n 1, 1) (List.mem_of_getElem? (i := 53) rfl)) rfl (lv_at hl8 3 rfl) ?_
    refine tz_rowV (As := []) (st := []) (b := tx) (C := RX0) (Ts := gT) hx hb hml hown h2 (fun _ h => h) (hX0_verdict l D cA ro sz H0 tx T (x29) htx) ⟨rfl, rfl⟩ ⟨by decide, by decide⟩ ⟨by decide, by decide⟩ (tb_4 93 rfl rfl) (tb_1 5 rfl rfl) (tb_4 90 rfl rfl) (tb_4 91 rfl rfl) (tb_4 92 rfl rfl) (show yX0_verdict.cls ≠ "java/lang/invoke/MethodHandle" ∧ yX0_verdict.cls ≠ "java/lang/invoke/VarHandle" ∧ (parseMethodDescriptor yX0_verdict.desc).map (fun d => d.parameters.length) = some 0 by decide +kernel) zs_blind (zs_ob hh29 htx (show RTg[0]? = some (0, 0, 0, fsX0) from rfl) (zCX0 hKn.1)) (fun U hU hW => ⟨rfl, by rw [hU]; exact hh29.l0, zKb s U hW.alike hKn, by rw [hU]; exact j29⟩) hh29.2.2.1 hl8.1 (Nat.le_of_ble_eq_true rfl) (eX6_scan (99, .invokevirtual 93, 3) (List.mem_of_getElem? (i := 54) rfl)) (fun r30 s30 t30 lo30 g30 f30 l30 => ?_)
    obtain ⟨z30, v30, q30, e30⟩ := f30
    cases q30
    rw [z30, g30]
    have hh30 : zh_ok D cA RTg ro sz H0 t29.heap lo30 := ⟨hh29.1, hh29.2.1, l30, hh29.2.2.2⟩
    refine W.eq (g2 := F0 m 102 ls8 [.long v30]) rfl ?_
    have hfin : (ruF T).2 = x29 := by simp only [ruF, ru2F, hx4, hx5, hx11, hx21, hx22, hx24, hx25, hx27, hx28, hx29, if_neg hend]
    have hfr : (ruF T).1 = (2, -(x5.1 * x11.1), x22.1, x25.1, x28.1) := by simp only [ruF, ru2F, hx4, hx5, hx11, hx21, hx22, hx24, hx25, hx27, hx28, hx29, if_neg hend]
    exact W.lret hx hb hr (fun t ht hW => ⟨_, rfl, by rw [hfin] <;> exact e30, by rw [ht]; exact hh30.l0, by rw [ht]; exact kp29, by rw [ht, hfin]; exact j29, by rw [ht]; exact fr29, _, _, _, by rw [ht]; exact mf29_ru_0, by rw [ht]; exact mf29_ru_1, by rw [ht]; exact mf29_ru_2, by rw [hfr]; show _ = (2 : Int); omega, by rw [hfr]; show _ = -(x5.1 * x11.1); omega, fun _ => by rw [hfr]; exact ⟨es22, fun hFT => ⟨by rw [ht]; exact jf1029 hFT, by rw [ht]; exact jd2029⟩⟩⟩) hh30.2.2.1 (eX6_scan (102, .lreturn, 1) (List.mem_of_getElem? (i := 55) rfl))
