theorem ndF_tk (T : List Int) (c : Int) (g : uS) : ndF T c g = if (tkF T c g).1 = 1 then (tkF T c g).2 else flF (tkF T c g).2 := by
  unfold ndF tkF
  split
  · rw [if_pos rfl]
  · rw [if_neg (show ¬ (0 : Int) = 1 by decide)]
theorem dgF_at {T : List Int} {g : uS} (hu : uOK T g) (h : 0 ≤ dgF T g) : g.2.1 = 0 ∧ g.1 < (T.length : Int) ∧ dgF T g ≤ 9 := by
  have hd := dgF_iff.mp h
  have hb : g.2.1 = 0 := by
    apply Decidable.byContradiction
    intro b
    rw [lk_1 b] at hd
    unfold isD at hd
    omega
  have e := dgF_ge hd
  refine ⟨hb, ?_, by unfold isD at hd; omega⟩
  rw [lk_0 hb] at hd
  exact byI_lt hu.1 (isD_nn hd)
theorem isN_at {T : List Int} {g : uS} {q : Int} (hu : uOK T g) (h : isN q (lk T g)) : g.2.1 = 0 ∧ g.1 < (T.length : Int) := by
  have hb : g.2.1 = 0 := by
    apply Decidable.byContradiction
    intro b
    rw [lk_1 b] at h
    unfold isN isT isD at h
    omega
  refine ⟨hb, ?_⟩
  rw [lk_0 hb] at h
  exact byI_lt hu.1 (isN_nn h)
theorem flF_ok {T : List Int} {g : uS} (hu : uOK T g) : uOK T (flF g) := ⟨hu.1, hu.2.1, Or.inr rfl⟩
theorem blF_ok {T : List Int} {g : uS} {p : Int} (hu : uOK T g) : uOK T (blF p g) := by
  unfold blF
  split
  · exact hu
  · exact hu
set_option maxRecDepth 100000 in
set_option maxHeartbeats 4000000 in
theorem hX0_need (l : Launch) (D : va_G) (cA : Nat → ClassId) (ro : Nat → Option Nat) (sz : Nat) (H0 : Heap) (tx : Nat) (c0 : Int32) (k0 : Int) (T : List Int) (sg : uS) (htx : ro tx = some 0) (hk0 : c0.toInt = k0) (hk1 : 0 ≤ k0) : Met l yX0_need (gW yX0_need cX0_need 2 none) { frames := 2, cells := 0, slots := 0, locals := 41 } (zs_P D cA ro sz H0 (fun H => jU D cA ro H tx T sg) [.ref tx, .int c0]) (ku_V D cA ro sz H0 uM [tx] tx T (ndF T k0 sg)) 0 0 (zy_fr sz) := by
  refine zy_ofW (cc := cX0_need) (maxL := 2) (ret := none) (by decide +kernel) rfl ?_
  intro p e s m args below meth c s1 B hml hv
  obtain ⟨rfl, hh, hKn, hJ⟩ := hv
  have hx := B.exec
  have hb := B.bytes
  have hr := B.returns
  have hlk := B.notSynchronized
  have hts0 := atoms_spec (ws := gW yX0_need cX0_need 2 none) B.pre
  have h2 : ∀ w ∈ gT, w.before ([.ref tx, .int c0] : List Value).toArray s = true := fun w hw => hts0 w (List.mem_cons_of_mem _ hw)
  have hown : s.vm.findClass RX0 = some m.cls := findClass_of_methodNamed B.named
  have hl := lv_entry [.ref tx, .int c0] (n := 2) (Nat.le_of_ble_eq_true rfl)
  rw [lg_entry_eq]
  generalize (lg_sl [.ref tx, .int c0] ++ List.replicate (2 - (lg_sl [.ref tx, .int c0]).length) Slot.unset).toArray = ls at hl ⊢
  have b_c0 := zn_i32 c0
  have hD := zD_all h2 hKn.1
  have hcl0 := fun (idx k : Nat) (t : zt_T) (h : (idx, 0, k) ∈ gfX0) (hk : fsX0[k]? = some t) => zf_clause (ro := ro) (ms := uM) h2 hown hKn.1 gfX0_ok (by decide +kernel) idx 0 k 0 0 fsX0 t h rfl hk
  have kp0 : zc_kept D RTg ro uM s.heap s.heap := zc_kept.refl
  obtain ⟨hjt, ⟨av, bv, wv, f2, f3, f4, hav, hbv, hwv⟩, hu⟩ := id hJ
  obtain ⟨tb, n, z, f0, r0, f1, hn, hc, hz⟩ := id hjt
  obtain ⟨n9, g9, n1, n2⟩ := zh_fT (k := 1) (t := (0, 0, 120)) hh htx (show RTg[0]? = some (0, 0, 0, fsX0) from rfl) rfl
  cases f1.symm.trans g9
  dsimp only at n1 n2
  clear g9
  obtain ⟨-, z9, c9, hy9⟩ := zh_arr hh r0 (show RTg[12]? = some (1, 2, 120, [(0, (-128), 127)]) from rfl)
  have hy : ∀ i, i < 120 → zt_ok ro (z i) (0, (-128), 127) := zs_arr (hc.symm.trans c9) hy9
  obtain ⟨u1, u2, u3⟩ := id hu
  have fr0 : ∀ p9 : Nat, p9 ∉ [tx] → s.heap[p9]? = s.heap[p9]? := fun _ _ => rfl
  refine lv_aload_n hx hb (eX0_need (0, .aload_n 0, 1) (List.mem_of_getElem? (i := 0) rfl)) rfl (lv_at hl 0 rfl) ?_
  refine lv_iload_n hx hb (eX0_need (1, .iload_n 1, 1) (List.mem_of_getElem? (i := 1) rfl)) rfl (lv_at hl 1 rfl) ?_
  refine tz_rowV (As := [.int c0]) (st := []) (b := tx) (C := RX0) (Ts := gT) hx hb hml hown h2 (fun _ h => h) (hX0_take l D cA ro sz H0 tx c0 k0 T sg htx hk0 hk1) ⟨rfl, rfl⟩ ⟨by decide, by decide⟩ ⟨by decide, by decide⟩ (tb_4 8 rfl rfl) (tb_1 5 rfl rfl) (tb_4 45 rfl rfl) (tb_4 6 rfl rfl) (tb_4 7 rfl rfl) (show yX0_take.cls ≠ "java/lang/invoke/MethodHandle" ∧ yX0_take.cls ≠ "java/lang/invoke/VarHandle" ∧ (parseMethodDescriptor yX0_take.desc).map (fun d => d.parameters.length) = some 1 by decide +kernel) zs_blind (zs_ob hh htx (show RTg[0]? = some (0, 0, 0, fsX0) from rfl) (zCX0 hKn.1)) (fun U hU hW => ⟨rfl, by rw [hU]; exact hh.l0, zKb s U hW.alike hKn, by rw [hU]; exact hJ⟩) hh.2.2.1 hl.1 (Nat.le_of_ble_eq_true rfl) (eX0_need (2, .invokevirtual 44, 3) (List.mem_of_getElem? (i := 2) rfl)) (fun r1 s1 t1 lo1 g1 f1 l1 => ?_)
  obtain ⟨v1, q1, e1, z1, c1, j1, fx1⟩ := f1
  cases q1
  rw [g1] at c1 fx1
  have fr1 : ∀ p9 : Nat, p9 ∉ [tx] → t1.heap[p9]? = s.heap[p9]? := fun p9 h9 => (fx1 p9 (fun q => h9 (by rw [List.mem_singleton.mp q]; exact List.mem_cons_self))).trans (fr0 p9 h9)
  have hh1 : zh_ok D cA RTg ro sz H0 t1.heap lo1 := ⟨z1.1, z1.2.1, l1, z1.2.2.2⟩
  have kp1 := kp0.trans (c1.mono (ms' := uM) (by decide))
  have kf1 := tkF_01 T k0 sg
  generalize hx1 : tkF T k0 sg = x1 at j1 e1 kf1
  have uu1 := j1.2.2
  unfold uOK at uu1
  have mf1_tx_0 := (c1.1 tx 0 0 0 0 fsX0 htx rfl (by decide) (by decide)).trans f0
  have mf1_tx_1 := (c1.1 tx 0 1 0 0 fsX0 htx rfl (by decide) (by decide)).trans f1
  refine W.eq (g2 := F0 m 5 ls [.int v1]) rfl ?_
  refine ff_if_ne hx hb (eX0_need (5, .ifCond .ne 8, 3) (List.mem_of_getElem? (i := 3) rfl)) (tgt := 13) rfl (fun c2 => ?_) (fun c2 => ?_)
  · skip
    have hfin : ndF T k0 sg = x1.2 := by rw [ndF_tk, hx1, if_pos (by omega)]
    exact W.vret hx hb hr (fun t ht hW => ⟨rfl, by rw [ht]; exact hh1.l0, by rw [ht]; exact kp1, by rw [ht, hfin]; exact j1, by rw [ht]; exact fr1⟩) hh1.2.2.1 (eX0_need (13, .return_, 1) (List.mem_of_getElem? (i := 7) rfl))
  · skip
    refine lv_aload_n hx hb (eX0_need (8, .aload_n 0, 1) (List.mem_of_getElem? (i := 4) rfl)) rfl (lv_at hl 0 rfl) ?_
    refine ff_iconst hx hb (eX0_need (9, .iconst 1, 1) (List.mem_of_getElem? (i := 5) rfl)) (by decide) (by decide) (fun v3 e3 => ?_)
    obtain ⟨jt4, ⟨av4, bv4, wv4, f24, f34, f44, hav4, hbv4, hwv4⟩, hu4⟩ := id j1
    refine tz_put (r := 0) (k := 3) (t := (0, 0, 1)) hx hb hD hh1 htx rfl rfl ((hcl0 22 3 (0, 0, 1) (by decide) rfl).2 (by decide)) (tz_i (by omega) (by omega)) (eX0_need (10, .putfield 22, 3) (List.mem_of_getElem? (i := 6) rfl)) (fun H5 lo5 hh5 hf5 hk5 _ hq5 => ?_)
    have mf5_tx_0 := (hk5.1 tx 0 0 0 0 fsX0 htx rfl (by decide) (by decide)).trans mf1_tx_0
    have mf5_tx_1 := (hk5.1 tx 0 1 0 0 fsX0 htx rfl (by decide) (by decide)).trans mf1_tx_1
    have mf5_tx_2 := (hk5.1 tx 0 2 0 0 fsX0 htx rfl (by decide) (by decide)).trans f24
    have mf5_tx_4 := (hk5.1 tx 0 4 0 0 fsX0 htx rfl (by decide) (by decide)).trans f44
    have kp5 := kp1.trans (hk5.mono (ms' := uM) (fun x hx => by cases List.mem_singleton.mp hx; decide))
    have jm5 := (j1.1).kept htx hk5 (by decide) (by decide) (by decide)
    have fr5 : ∀ p9 : Nat, p9 ∉ [tx] → H5[p9]? = s.heap[p9]? := fun p9 h9 => (hq5 p9 (fun e9 => h9 (by rw [e9]; exact List.mem_cons_self))).trans (fr1 p9 h9)
    have hfin : ndF T k0 sg = flF x1.2 := by rw [ndF_tk, hx1, if_neg (by omega)]
    exact W.vret hx hb hr (fun t ht hW => ⟨rfl, by rw [ht]; exact hh5.l0, by rw [ht]; exact kp5, by rw [ht, hfin]; exact ⟨jm5, ⟨_, _, _, mf5_tx_2, hf5, mf5_tx_4, by first | assumption | omega, by show _ = (1 : Int); omega, by assumption⟩, flF_ok (by assumption)⟩, by rw [ht]; exact fr5⟩) hh5.2.2.1 (eX0_need (13, .return_, 1) (List.mem_of_getElem? (i := 7) rfl))
set_option maxRecDepth 100000 in
set_option maxHeartbeats 4000000 in
theorem hX0_needEnd (l : Launch) (D : va_G) (cA : Nat → ClassId) (ro : Nat → Option Nat) (sz : Nat) (H0 : Heap) (tx : Nat)  (T : List Int) (sg : uS) (htx : ro tx = some 0)  : Met l yX0_needEnd (gW yX0_needEnd cX0_needEnd 1 none) { frames := 1, cells := 0, slots := 0, locals := 20 } (zs_P D cA ro sz H0 (fun H => jU D cA ro H tx T sg) [.ref tx]) (ku_V D cA ro sz H0 uM [tx] tx T (neF T sg)) 0 0 (zy_fr sz) := by
  refine zy_ofW (cc := cX0_needEnd) (maxL := 1) (ret := none) (by decide +kernel) rfl ?_
  intro p e s m args below meth c s1 B hml hv
  obtain ⟨rfl, hh, hKn, hJ⟩ := hv
  have hx := B.exec
  have hb := B.bytes
  have hr := B.returns
  have hlk := B.notSynchronized
  have hts0 := atoms_spec (ws := gW yX0_needEnd cX0_needEnd 1 none) B.pre
  have h2 : ∀ w ∈ gT, w.before ([.ref tx] : List Value).toArray s = true := fun w hw => hts0 w (List.mem_cons_of_mem _ hw)
  have hown : s.vm.findClass RX0 = some m.cls := findClass_of_methodNamed B.named
  have hl := lv_entry [.ref tx] (n := 1) (Nat.le_of_ble_eq_true rfl)
  rw [lg_entry_eq]
  generalize (lg_sl [.ref tx] ++ List.replicate (1 - (lg_sl [.ref tx]).length) Slot.unset).toArray = ls at hl ⊢
  have hD := zD_all h2 hKn.1
  have hcl0 := fun (idx k : Nat) (t : zt_T) (h : (idx, 0, k) ∈ gfX0) (hk : fsX0[k]? = some t) => zf_clause (ro := ro) (ms := uM) h2 hown hKn.1 gfX0_ok (by decide +kernel) idx 0 k 0 0 fsX0 t h rfl hk
  have kp0 : zc_kept D RTg ro uM s.heap s.heap := zc_kept.refl
  obtain ⟨hjt, ⟨av, bv, wv, f2, f3, f4, hav, hbv, hwv⟩, hu⟩ := id hJ
  obtain ⟨tb, n, z, f0, r0, f1, hn, hc, hz⟩ := id hjt
  obtain ⟨n9, g9, n1, n2⟩ := zh_fT (k := 1) (t := (0, 0, 120)) hh htx (show RTg[0]? = some (0, 0, 0, fsX0) from rfl) rfl
  cases f1.symm.trans g9
  dsimp only at n1 n2
  clear g9
  obtain ⟨-, z9, c9, hy9⟩ := zh_arr hh r0 (show RTg[12]? = some (1, 2, 120, [(0, (-128), 127)]) from rfl)
  have hy : ∀ i, i < 120 → zt_ok ro (z i) (0, (-128), 127) := zs_arr (hc.symm.trans c9) hy9
  obtain ⟨u1, u2, u3⟩ := id hu
  have fr0 : ∀ p9 : Nat, p9 ∉ [tx] → s.heap[p9]? = s.heap[p9]? := fun _ _ => rfl
  refine lv_aload_n hx hb (eX0_needEnd (0, .aload_n 0, 1) (List.mem_of_getElem? (i := 0) rfl)) rfl (lv_at hl 0 rfl) ?_
  refine tz_rowV (As := []) (st := []) (b := tx) (C := RX0) (Ts := gT) hx hb hml hown h2 (fun _ h => h) (hX0_atEnd l D cA ro sz H0 tx T (sg) htx) ⟨rfl, rfl⟩ ⟨by decide, by decide⟩ ⟨by decide, by decide⟩ (tb_4 69 rfl rfl) (tb_1 5 rfl rfl) (tb_4 89 rfl rfl) (tb_4 67 rfl rfl) (tb_4 68 rfl rfl) (show yX0_atEnd.cls ≠ "java/lang/invoke/MethodHandle" ∧ yX0_atEnd.cls ≠ "java/lang/invoke/VarHandle" ∧ (parseMethodDescriptor yX0_atEnd.desc).map (fun d => d.parameters.length) = some 0 by decide +kernel) zs_blind (zs_ob hh htx (show RTg[0]? = some (0, 0, 0, fsX0) from rfl) (zCX0 hKn.1)) (fun U hU hW => ⟨rfl, by rw [hU]; exact hh.l0, zKb s U hW.alike hKn, by rw [hU]; exact hJ⟩) hh.2.2.1 hl.1 (Nat.le_of_ble_eq_true rfl) (eX0_needEnd (1, .invokevirtual 47, 3) (List.mem_of_getElem? (i := 1) rfl)) (fun r1 s1 t1 lo1 g1 f1 l1 => ?_)
  obtain ⟨z1, v1, q1, e1⟩ := f1
  cases q1
  rw [z1, g1]
  have hh1 : zh_ok D cA RTg ro sz H0 s.heap lo1 := ⟨hh.1, hh.2.1, l1, hh.2.2.2⟩
  refine W.eq (g2 := F0 m 4 ls [.int v1]) rfl ?_
  refine ff_if_ne hx hb (eX0_needEnd (4, .ifCond .ne 8, 3) (List.mem_of_getElem? (i := 2) rfl)) (tgt := 12) rfl (fun c2 => ?_) (fun c2 => ?_)
  · skip
    have hfin : neF T sg = sg := by unfold neF; rw [if_pos (by omega)]
    exact W.vret hx hb hr (fun t ht hW => ⟨rfl, by rw [ht]; exact hh1.l0, by rw [ht]; exact kp0, by rw [ht, hfin]; exact hJ, by rw [ht]; exact fr0⟩) hh1.2.2.1 (eX0_needEnd (12, .return_, 1) (List.mem_of_getElem? (i := 6) rfl))
  · skip
    refine lv_aload_n hx hb (eX0_needEnd (7, .aload_n 0, 1) (List.mem_of_getElem? (i := 3) rfl)) rfl (lv_at hl 0 rfl) ?_
    refine ff_iconst hx hb (eX0_needEnd (8, .iconst 1, 1) (List.mem_of_getElem? (i := 4) rfl)) (by decide) (by decide) (fun v3 e3 => ?_)
    refine tz_put (r := 0) (k := 3) (t := (0, 0, 1)) hx hb hD hh1 htx rfl rfl ((hcl0 22 3 (0, 0, 1) (by decide) rfl).2 (by decide)) (tz_i (by omega) (by omega)) (eX0_needEnd (9, .putfield 22, 3) (List.mem_of_getElem? (i := 5) rfl)) (fun H4 lo4 hh4 hf4 hk4 _ hq4 => ?_)
    have mf4_tx_0 := (hk4.1 tx 0 0 0 0 fsX0 htx rfl (by decide) (by decide)).trans f0
    have mf4_tx_1 := (hk4.1 tx 0 1 0 0 fsX0 htx rfl (by decide) (by decide)).trans f1
    have mf4_tx_2 := (hk4.1 tx 0 2 0 0 fsX0 htx rfl (by decide) (by decide)).trans f2
    have mf4_tx_4 := (hk4.1 tx 0 4 0 0 fsX0 htx rfl (by decide) (by decide)).trans f4
    have mc4_tb := (hk4.2 tb 12 0 2 120 _ r0 rfl (by decide)).trans hc
    have kp4 := kp0.trans (hk4.mono (ms' := uM) (fun x hx => by cases List.mem_singleton.mp hx; decide))
    have jm4 := (hJ.1).kept htx hk4 (by decide) (by decide) (by decide)
    have fr4 : ∀ p9 : Nat, p9 ∉ [tx] → H4[p9]? = s.heap[p9]? := fun p9 h9 => (hq4 p9 (fun e9 => h9 (by rw [e9]; exact List.mem_cons_self))).trans (fr0 p9 h9)
    have hfin : neF T sg = flF sg := by unfold neF; rw [if_neg (by omega)]
    exact W.vret hx hb hr (fun t ht hW => ⟨rfl, by rw [ht]; exact hh4.l0, by rw [ht]; exact kp4, by rw [ht, hfin]; exact ⟨jm4, ⟨_, _, _, mf4_tx_2, hf4, mf4_tx_4, hav, by show _ = (1 : Int); omega, hwv⟩, flF_ok hu⟩, by rw [ht]; exact fr4⟩) hh4.2.2.1 (eX0_needEnd (12, .return_, 1) (List.mem_of_getElem? (i := 6) rfl))
set_option maxRecDepth 100000 in
set_option maxHeartbeats 4000000 in
theorem hX0_fail (l : Launch) (D : va_G) (cA : Nat → ClassId) (ro : Nat → Option Nat) (sz : Nat) (H0 : Heap) (tx : Nat)  (T : List Int) (sg : uS) (htx : ro tx = some 0)  : Met l yX0_fail (gW yX0_fail cX0_fail 1 none) { frames := 0, cells := 0, slots := 0, locals := 0 } (zs_P D cA ro sz H0 (fun H => jU D cA ro H tx T sg) [.ref tx]) (ku_V D cA ro sz H0 uM [tx] tx T (flF sg)) 0 0 (zy_fr sz) := by
  refine zy_ofW (cc := cX0_fail) (maxL := 1) (ret := none) (by decide +kernel) rfl ?_
  intro p e s m args below meth c s1 B hml hv
  obtain ⟨rfl, hh, hKn, hJ⟩ := hv
  have hx := B.exec
  have hb := B.bytes
  have hr := B.returns
  have hlk := B.notSynchronized
  have hts0 := atoms_spec (ws := gW yX0_fail cX0_fail 1 none) B.pre
  have h2 : ∀ w ∈ gT, w.before ([.ref tx] : List Value).toArray s = true := fun w hw => hts0 w (List.mem_cons_of_mem _ hw)
  have hown : s.vm.findClass RX0 = some m.cls := findClass_of_methodNamed B.named
  have hl := lv_entry [.ref tx] (n := 1) (Nat.le_of_ble_eq_true rfl)
  rw [lg_entry_eq]
  generalize (lg_sl [.ref tx] ++ List.replicate (1 - (lg_sl [.ref tx]).length) Slot.unset).toArray = ls at hl ⊢
  have hD := zD_all h2 hKn.1
  have hcl0 := fun (idx k : Nat) (t : zt_T) (h : (idx, 0, k) ∈ gfX0) (hk : fsX0[k]? = some t) => zf_clause (ro := ro) (ms := uM) h2 hown hKn.1 gfX0_ok (by decide +kernel) idx 0 k 0 0 fsX0 t h rfl hk
  have kp0 : zc_kept D RTg ro uM s.heap s.heap := zc_kept.refl
  obtain ⟨hjt, ⟨av, bv, wv, f2, f3, f4, hav, hbv, hwv⟩, hu⟩ := id hJ
  obtain ⟨tb, n, z, f0, r0, f1, hn, hc, hz⟩ := id hjt
  obtain ⟨n9, g9, n1, n2⟩ := zh_fT (k := 1) (t := (0, 0, 120)) hh htx (show RTg[0]? = some (0, 0, 0, fsX0) from rfl) rfl
  cases f1.symm.trans g9
  dsimp only at n1 n2
  clear g9
  obtain ⟨-, z9, c9, hy9⟩ := zh_arr hh r0 (show RTg[12]? = some (1, 2, 120, [(0, (-128), 127)]) from rfl)
  have hy : ∀ i, i < 120 → zt_ok ro (z i) (0, (-128), 127) := zs_arr (hc.symm.trans c9) hy9
  obtain ⟨u1, u2, u3⟩ := id hu
  have fr0 : ∀ p9 : Nat, p9 ∉ [tx] → s.heap[p9]? = s.heap[p9]? := fun _ _ => rfl
  refine lv_aload_n hx hb (eX0_fail (0, .aload_n 0, 1) (List.mem_of_getElem? (i := 0) rfl)) rfl (lv_at hl 0 rfl) ?_
  refine ff_iconst hx hb (eX0_fail (1, .iconst 1, 1) (List.mem_of_getElem? (i := 1) rfl)) (by decide) (by decide) (fun v1 e1 => ?_)
  refine tz_put (r := 0) (k := 3) (t := (0, 0, 1)) hx hb hD hh htx rfl rfl ((hcl0 22 3 (0, 0, 1) (by decide) rfl).2 (by decide)) (tz_i (by omega) (by omega)) (eX0_fail (2, .putfield 22, 3) (List.mem_of_getElem? (i := 2) rfl)) (fun H2 lo2 hh2 hf2 hk2 _ hq2 => ?_)
  have mf2_tx_0 := (hk2.1 tx 0 0 0 0 fsX0 htx rfl (by decide) (by decide)).trans f0
  have mf2_tx_1 := (hk2.1 tx 0 1 0 0 fsX0 htx rfl (by decide) (by decide)).trans f1
  have mf2_tx_2 := (hk2.1 tx 0 2 0 0 fsX0 htx rfl (by decide) (by decide)).trans f2
  have mf2_tx_4 := (hk2.1 tx 0 4 0 0 fsX0 htx rfl (by decide) (by decide)).trans f4
  have mc2_tb := (hk2.2 tb 12 0 2 120 _ r0 rfl (by decide)).trans hc
  have kp2 := kp0.trans (hk2.mono (ms' := uM) (fun x hx => by cases List.mem_singleton.mp hx; decide))
  have jm2 := (hJ.1).kept htx hk2 (by decide) (by decide) (by decide)
  have fr2 : ∀ p9 : Nat, p9 ∉ [tx] → H2[p9]? = s.heap[p9]? := fun p9 h9 => (hq2 p9 (fun e9 => h9 (by rw [e9]; exact List.mem_cons_self))).trans (fr0 p9 h9)
  have hfin : flF sg = flF sg := rfl
  exact W.vret hx hb hr (fun t ht hW => ⟨rfl, by rw [ht]; exact hh2.l0, by rw [ht]; exact kp2, by rw [ht, hfin]; exact ⟨jm2, ⟨_, _, _, mf2_tx_2, hf2, mf2_tx_4, hav, by show _ = (1 : Int); omega, hwv⟩, flF_ok hu⟩, by rw [ht]; exact fr2⟩) hh2.2.2.1 (eX0_fail (5, .return_, 1) (List.mem_of_getElem? (i := 3) rfl))
set_option maxRecDepth 100000 in
set_option maxHeartbeats 4000000 in
theorem hX0_blame (l : Launch) (D : va_G) (cA : Nat → ClassId) (ro : Nat → Option Nat) (sz : Nat) (H0 : Heap) (tx : Nat) (p0 : Int32) (T : List Int) (sg : uS) (htx : ro tx = some 0)  : Met l yX0_blame (gW yX0_blame cX0_blame 2 (some .long)) { frames := 0, cells := 0, slots := 0, locals := 0 } (zs_P D cA ro sz H0 (fun H => jU D cA ro H tx T sg) [.ref tx, .int p0]) (fun _ st oc t => (∃ r : Int64, oc = .returned (some (.long r))) ∧ zh_ok D cA RTg ro sz H0 t.heap [] ∧ zc_kept D RTg ro uM st.heap t.heap ∧ jU D cA ro t.heap tx T (blF p0.toInt sg) ∧ ∀ p9 : Nat, p9 ∉ [tx] → t.heap[p9]? = st.heap[p9]?) 0 0 (zy_fr sz) := by
  refine zy_ofW (cc := cX0_blame) (maxL := 2) (ret := (some .long)) (by decide +kernel) rfl ?_
  intro p e s m args below meth c s1 B hml hv
  obtain ⟨rfl, hh, hKn, hJ⟩ := hv
  have hx := B.exec
  have hb := B.bytes
  have hr := B.returns
  have hlk := B.notSynchronized
  have hts0 := atoms_spec (ws := gW yX0_blame cX0_blame 2 (some .long)) B.pre
  have h2 : ∀ w ∈ gT, w.before ([.ref tx, .int p0] : List Value).toArray s = true := fun w hw => hts0 w (List.mem_cons_of_mem _ hw)
  have hown : s.vm.findClass RX0 = some m.cls := findClass_of_methodNamed B.named
  have hl := lv_entry [.ref tx, .int p0] (n := 2) (Nat.le_of_ble_eq_true rfl)
  rw [lg_entry_eq]
  generalize (lg_sl [.ref tx, .int p0] ++ List.replicate (2 - (lg_sl [.ref tx, .int p0]).length) Slot.unset).toArray = ls at hl ⊢
  have b_p0 := zn_i32 p0
  have hD := zD_all h2 hKn.1
  have hcl0 := fun (idx k : Nat) (t : zt_T) (h : (idx, 0, k) ∈ gfX0) (hk : fsX0[k]? = some t) => zf_clause (ro := ro) (ms := uM) h2 hown hKn.1 gfX0_ok (by decide +kernel) idx 0 k 0 0 fsX0 t h rfl hk
  have kp0 : zc_kept D RTg ro uM s.heap s.heap := zc_kept.refl
  obtain ⟨hjt, ⟨av, bv, wv, f2, f3, f4, hav, hbv, hwv⟩, hu⟩ := id hJ
  obtain ⟨tb, n, z, f0, r0, f1, hn, hc, hz⟩ := id hjt
  obtain ⟨n9, g9, n1, n2⟩ := zh_fT (k := 1) (t := (0, 0, 120)) hh htx (show RTg[0]? = some (0, 0, 0, fsX0) from rfl) rfl
  cases f1.symm.trans g9
  dsimp only at n1 n2
  clear g9
  obtain ⟨-, z9, c9, hy9⟩ := zh_arr hh r0 (show RTg[12]? = some (1, 2, 120, [(0, (-128), 127)]) from rfl)
  have hy : ∀ i, i < 120 → zt_ok ro (z i) (0, (-128), 127) := zs_arr (hc.symm.trans c9) hy9
  obtain ⟨u1, u2, u3⟩ := id hu
  have fr0 : ∀ p9 : Nat, p9 ∉ [tx] → s.heap[p9]? = s.heap[p9]? := fun _ _ => rfl
  refine lv_aload_n hx hb (eX0_blame (0, .aload_n 0, 1) (List.mem_of_getElem? (i := 0) rfl)) rfl (lv_at hl 0 rfl) ?_
  refine tz_get (r := 0) (k := 4) (t := (0, (-2147483648), 2147483647)) hx hb hh htx rfl rfl (hcl0 26 4 (0, (-2147483648), 2147483647) (by decide) rfl).1 f4 (eX0_blame (1, .getfield 26, 3) (List.mem_of_getElem? (i := 1) rfl)) ?_
  refine ff_if_ge hx hb (eX0_blame (4, .ifCond .ge 8, 3) (List.mem_of_getElem? (i := 2) rfl)) (tgt := 12) rfl (fun c1 => ?_) (fun c1 => ?_)
  · skip
    refine ff_ldc2 (n := (-9223372036854775808)) hx hb hown h2 (clX0_ok 50 (-9223372036854775808) (List.mem_of_getElem? (i := 0) rfl)) (eX0_blame (12, .ldc2_w 50, 3) (List.mem_of_getElem? (i := 6) rfl)) (fun v2 e2 => ?_)
    have hfin : blF p0.toInt sg = sg := by unfold blF; rw [if_neg (by omega)]
    exact W.lret hx hb hr (fun t ht hW => ⟨⟨_, rfl⟩, by rw [ht]; exact hh.l0, by rw [ht]; exact kp0, by rw [ht, hfin]; exact hJ, by rw [ht]; exact fr0⟩) hh.2.2.1 (eX0_blame (15, .lreturn, 1) (List.mem_of_getElem? (i := 7) rfl))
  · skip
    refine lv_aload_n hx hb (eX0_blame (7, .aload_n 0, 1) (List.mem_of_getElem? (i := 3) rfl)) rfl (lv_at hl 0 rfl) ?_
    refine lv_iload_n hx hb (eX0_blame (8, .iload_n 1, 1) (List.mem_of_getElem? (i := 4) rfl)) rfl (lv_at hl 1 rfl) ?_
    refine tz_put (r := 0) (k := 4) (t := (0, (-2147483648), 2147483647)) hx hb hD hh htx rfl rfl ((hcl0 26 4 (0, (-2147483648), 2147483647) (by decide) rfl).2 (by decide)) (tz_i (zn_i32 _).1 (zn_i32 _).2) (eX0_blame (9, .putfield 26, 3) (List.mem_of_getElem? (i := 5) rfl)) (fun H3 lo3 hh3 hf3 hk3 _ hq3 => ?_)
    have mf3_tx_0 := (hk3.1 tx 0 0 0 0 fsX0 htx rfl (by decide) (by decide)).trans f0
    have mf3_tx_1 := (hk3.1 tx 0 1 0 0 fsX0 htx rfl (by decide) (by decide)).trans f1
    have mf3_tx_2 := (hk3.1 tx 0 2 0 0 fsX0 htx rfl (by decide) (by decide)).trans f2
    have mf3_tx_3 := (hk3.1 tx 0 3 0 0 fsX0 htx rfl (by decide) (by decide)).trans f3
    have mc3_tb := (hk3.2 tb 12 0 2 120 _ r0 rfl (by decide)).trans hc
    have kp3 := kp0.trans (hk3.mono (ms' := uM) (fun x hx => by cases List.mem_singleton.mp hx; decide))
    have jm3 := (hJ.1).kept htx hk3 (by decide) (by decide) (by decide)
    have fr3 : ∀ p9 : Nat, p9 ∉ [tx] → H3[p9]? = s.heap[p9]? := fun p9 h9 => (hq3 p9 (fun e9 => h9 (by rw [e9]; exact List.mem_cons_self))).trans (fr0 p9 h9)
    refine ff_ldc2 (n := (-9223372036854775808)) hx hb hown h2 (clX0_ok 50 (-9223372036854775808) (List.mem_of_getElem? (i := 0) rfl)) (eX0_blame (12, .ldc2_w 50, 3) (List.mem_of_getElem? (i := 6) rfl)) (fun v4 e4 => ?_)
    have hfin : blF p0.toInt sg = (sg.1, sg.2.1, p0.toInt) := by unfold blF; rw [if_pos (by omega)]
    exact W.lret hx hb hr (fun t ht hW => ⟨⟨_, rfl⟩, by rw [ht]; exact hh3.l0, by rw [ht]; exact kp3, by rw [ht, hfin]; exact ⟨jm3, ⟨_, _, _, mf3_tx_2, mf3_tx_3, hf3, hav, hbv, rfl⟩, hu⟩, by rw [ht]; exact fr3⟩) hh3.2.2.1 (eX0_blame (15, .lreturn, 1) (List.mem_of_getElem? (i := 7) rfl))
set_option maxRecDepth 100000 in
set_option maxHeartbeats 4000000 in
theorem hX0_verdict (l : Launch) (D : va_G) (cA : Nat → ClassId) (ro : Nat → Option Nat) (sz : Nat) (H0 : Heap) (tx : Nat)  (T : List Int) (sg : uS) (htx : ro tx = some 0)  : Met l yX0_verdict (gW yX0_verdict cX0_verdict 1 (some .long)) { frames := 0, cells := 0, slots := 0, locals := 0 } (zs_P D cA ro sz H0 (fun H => jU D cA ro H tx T sg) [.ref tx]) (fun _ st oc t => t.heap = st.heap ∧ ∃ r : Int64, oc = .returned (some (.long r)) ∧ r.toInt = vdF sg) 0 0 (zy_fr sz) := by
  refine zy_ofW (cc := cX0_verdict) (maxL := 1) (ret := (some .long)) (by decide +kernel) rfl ?_
  intro p e s m args below meth c s1 B hml hv
  obtain ⟨rfl, hh, hKn, hJ⟩ := hv
  have hx := B.exec
  have hb := B.bytes
  have hr := B.returns
  have hlk := B.notSynchronized
  have hts0 := atoms_spec (ws := gW yX0_verdict cX0_verdict 1 (some .long)) B.pre
  have h2 : ∀ w ∈ gT, w.before ([.ref tx] : List Value).toArray s = true := fun w hw => hts0 w (List.mem_cons_of_mem _ hw)
  have hown : s.vm.findClass RX0 = some m.cls := findClass_of_methodNamed B.named
  have hl := lv_entry [.ref tx] (n := 1) (Nat.le_of_ble_eq_true rfl)
  rw [lg_entry_eq]
  generalize (lg_sl [.ref tx] ++ List.replicate (1 - (lg_sl [.ref tx]).length) Slot.unset).toArray = ls at hl ⊢
  have hD := zD_all h2 hKn.1
  have hcl0 := fun (idx k : Nat) (t : zt_T) (h : (idx, 0, k) ∈ gfX0) (hk : fsX0[k]? = some t) => zf_clause (ro := ro) (ms := []) h2 hown hKn.1 gfX0_ok (by decide +kernel) idx 0 k 0 0 fsX0 t h rfl hk
  have kp0 : zc_kept D RTg ro [] s.heap s.heap := zc_kept.refl
  obtain ⟨hjt, ⟨av, bv, wv, f2, f3, f4, hav, hbv, hwv⟩, hu⟩ := id hJ
  obtain ⟨tb, n, z, f0, r0, f1, hn, hc, hz⟩ := id hjt
  obtain ⟨n9, g9, n1, n2⟩ := zh_fT (k := 1) (t := (0, 0, 120)) hh htx (show RTg[0]? = some (0, 0, 0, fsX0) from rfl) rfl
  cases f1.symm.trans g9
  dsimp only at n1 n2
  clear g9
  obtain ⟨-, z9, c9, hy9⟩ := zh_arr hh r0 (show RTg[12]? = some (1, 2, 120, [(0, (-128), 127)]) from rfl)
  have hy : ∀ i, i < 120 → zt_ok ro (z i) (0, (-128), 127) := zs_arr (hc.symm.trans c9) hy9
  obtain ⟨u1, u2, u3⟩ := id hu
  have fr0 : ∀ p9 : Nat, p9 ∉ [tx] → s.heap[p9]? = s.heap[p9]? := fun _ _ => rfl
  refine lv_aload_n hx hb (eX0_verdict (0, .aload_n 0, 1) (List.mem_of_getElem? (i := 0) rfl)) rfl (lv_at hl 0 rfl) ?_
  refine tz_get (r := 0) (k := 3) (t := (0, 0, 1)) hx hb hh htx rfl rfl (hcl0 22 3 (0, 0, 1) (by decide) rfl).1 f3 (eX0_verdict (1, .getfield 22, 3) (List.mem_of_getElem? (i := 1) rfl)) ?_
  refine ff_if_eq hx hb (eX0_verdict (4, .ifCond .eq 9, 3) (List.mem_of_getElem? (i := 2) rfl)) (tgt := 13) rfl (fun c1 => ?_) (fun c1 => ?_)
  · skip
    refine lv_aload_n hx hb (eX0_verdict (13, .aload_n 0, 1) (List.mem_of_getElem? (i := 7) rfl)) rfl (lv_at hl 0 rfl) ?_
    refine tz_get (r := 0) (k := 4) (t := (0, (-2147483648), 2147483647)) hx hb hh htx rfl rfl (hcl0 26 4 (0, (-2147483648), 2147483647) (by decide) rfl).1 f4 (eX0_verdict (14, .getfield 26, 3) (List.mem_of_getElem? (i := 8) rfl)) ?_
    refine ff_if_ge hx hb (eX0_verdict (17, .ifCond .ge 9, 3) (List.mem_of_getElem? (i := 9) rfl)) (tgt := 26) rfl (fun c2 => ?_) (fun c2 => ?_)
    · skip
      refine lv_aload_n hx hb (eX0_verdict (26, .aload_n 0, 1) (List.mem_of_getElem? (i := 12) rfl)) rfl (lv_at hl 0 rfl) ?_
      refine tz_get (r := 0) (k := 4) (t := (0, (-2147483648), 2147483647)) hx hb hh htx rfl rfl (hcl0 26 4 (0, (-2147483648), 2147483647) (by decide) rfl).1 f4 (eX0_verdict (27, .getfield 26, 3) (List.mem_of_getElem? (i := 13) rfl)) ?_
      refine ff_i2l hx hb (eX0_verdict (30, .i2l, 1) (List.mem_of_getElem? (i := 14) rfl)) (fun v3 e3 => ?_)
      exact W.lret hx hb hr (fun t ht hW => ⟨ht, _, rfl, by unfold vdF NONEI; split <;> (try split) <;> omega⟩) hh.2.2.1 (eX0_verdict (31, .lreturn, 1) (List.mem_of_getElem? (i := 15) rfl))
    · skip
      refine ff_ldc2 (n := (-9223372036854775808)) hx hb hown h2 (clX0_ok 50 (-9223372036854775808) (List.mem_of_getElem? (i := 0) rfl)) (eX0_verdict (20, .ldc2_w 50, 3) (List.mem_of_getElem? (i := 10) rfl)) (fun v4 e4 => ?_)
      refine lv_goto hx hb (eX0_verdict (23, .goto 8, 3) (List.mem_of_getElem? (i := 11) rfl)) (tgt := 31) rfl ?_
      exact W.lret hx hb hr (fun t ht hW => ⟨ht, _, rfl, by unfold vdF NONEI; split <;> (try split) <;> omega⟩) hh.2.2.1 (eX0_verdict (31, .lreturn, 1) (List.mem_of_getElem? (i := 15) rfl))
  · skip
    refine lv_aload_n hx hb (eX0_verdict (7, .aload_n 0, 1) (List.mem_of_getElem? (i := 3) rfl)) rfl (lv_at hl 0 rfl) ?_
    refine tz_get (r := 0) (k := 2) (t := (0, (-2147483648), 2147483647)) hx hb hh htx rfl rfl (hcl0 19 2 (0, (-2147483648), 2147483647) (by decide) rfl).1 f2 (eX0_verdict (8, .getfield 19, 3) (List.mem_of_getElem? (i := 4) rfl)) ?_
    refine ff_i2l hx hb (eX0_verdict (11, .i2l, 1) (List.mem_of_getElem? (i := 5) rfl)) (fun v5 e5 => ?_)
    exact W.lret hx hb hr (fun t ht hW => ⟨ht, _, rfl, by unfold vdF NONEI; split <;> (try split) <;> omega⟩) hh.2.2.1 (eX0_verdict (12, .lreturn, 1) (List.mem_of_getElem? (i := 6) rfl))
set_option maxRecDepth 100000 in
set_option maxHeartbeats 4000000 in
theorem hX0_number (l : Launch) (D : va_G) (cA : Nat → ClassId) (ro : Nat → Option Nat) (sz : Nat) (H0 : Heap) (tx : Nat) (ld : Int32) (md : Int32) (k0 : Int) (m0 : Nat) (T : List Int) (sg : uS) (htx : ro tx = some 0) (hk0 : ld.toInt = k0) (hm0 : md.toInt = (m0 : Int)) (hm3 : m0 ≤ 3) : Met l yX0_number (gW yX0_number cX0_number 6 (some .int)) { frames := 1, cells := 0, slots := 0, locals := 21 } (zs_P D cA ro sz H0 (fun H => jU D cA ro H tx T sg) [.ref tx, .int ld, .int md]) (ku_Q D cA ro sz H0 uM [tx] tx T (nbF T k0 m0 0 0 sg)) 0 0 (zy_fr sz) := by
  refine zy_ofW (cc := cX0_number) (maxL := 6) (ret := (some .int)) (by decide +kernel) rfl ?_
  intro p e s m args below meth c s1 B hml hv
  obtain ⟨rfl, hh, hKn, hJ⟩ := hv
  have hx := B.exec
  have hb := B.bytes
  have hr := B.returns
  have hlk := B.notSynchronized
  have hts0 := atoms_spec (ws := gW yX0_number cX0_number 6 (some .int)) B.pre
  have h2 : ∀ w ∈ gT, w.before ([.ref tx, .int ld, .int md] : List Value).toArray s = true := fun w hw => hts0 w (List.mem_cons_of_mem _ hw)
  have hown : s.vm.findClass RX0 = some m.cls := findClass_of_methodNamed B.named
  have hl := lv_entry [.ref tx, .int ld, .int md] (n := 6) (Nat.le_of_ble_eq_true rfl)
  rw [lg_entry_eq]
  generalize (lg_sl [.ref tx, .int ld, .int md] ++ List.replicate (6 - (lg_sl [.ref tx, .int ld, .int md]).length) Slot.unset).toArray = ls at hl ⊢
  have b_ld := zn_i32 ld
  have b_md := zn_i32 md
  have hD := zD_all h2 hKn.1
  have hcl0 := fun (idx k : Nat) (t : zt_T) (h : (idx, 0, k) ∈ gfX0) (hk : fsX0[k]? = some t) => zf_clause (ro := ro) (ms := uM) h2 hown hKn.1 gfX0_ok (by decide +kernel) idx 0 k 0 0 fsX0 t h rfl hk
  have kp0 : zc_kept D RTg ro uM s.heap s.heap := zc_kept.refl
  obtain ⟨hjt, ⟨av, bv, wv, f2, f3, f4, hav, hbv, hwv⟩, hu⟩ := id hJ
  obtain ⟨tb, n, z, f0, r0, f1, hn, hc, hz⟩ := id hjt
  obtain ⟨n9, g9, n1, n2⟩ := zh_fT (k := 1) (t := (0, 0, 120)) hh htx (show RTg[0]? = some (0, 0, 0, fsX0) from rfl) rfl
  cases f1.symm.trans g9
  dsimp only at n1 n2
  clear g9
  obtain ⟨-, z9, c9, hy9⟩ := zh_arr hh r0 (show RTg[12]? = some (1, 2, 120, [(0, (-128), 127)]) from rfl)
  have hy : ∀ i, i < 120 → zt_ok ro (z i) (0, (-128), 127) := zs_arr (hc.symm.trans c9) hy9
  obtain ⟨u1, u2, u3⟩ := id hu
  have fr0 : ∀ p9 : Nat, p9 ∉ [tx] → s.heap[p9]? = s.heap[p9]? := fun _ _ => rfl
  refine ff_iconst hx hb (eX0_number (0, .iconst 0, 1) (List.mem_of_getElem? (i := 0) rfl)) (by decide) (by decide) (fun v1 e1 => ?_)
  refine lv_istore_n hx hb (eX0_number (1, .istore_n 3, 1) (List.mem_of_getElem? (i := 1) rfl)) rfl hl (by decide) rfl (fun ls2 hl2 => ?_)
  refine ff_iconst hx hb (eX0_number (2, .iconst 0, 1) (List.mem_of_getElem? (i := 2) rfl)) (by decide) (by decide) (fun v3 e3 => ?_)
  refine lv_istore hx hb (eX0_number (3, .istore 4, 2) (List.mem_of_getElem? (i := 3) rfl)) hl2 (by decide) rfl (fun ls4 hl4 => ?_)
  have loop : ∀ (n0 : Nat) (i : Int) (iv vv : Int32) (g : uS) (ls : Array Slot) (H : Heap) (lo0 : List Loc), i + n0 = m0 → iv.toInt = i → 0 ≤ i → (0 ≤ vv.toInt ∧ (i = 0 → vv.toInt ≤ 0) ∧ (i = 1 → vv.toInt ≤ 9) ∧ (i = 2 → vv.toInt ≤ 99) ∧ vv.toInt ≤ 999) → nbF T k0 n0 i vv.toInt g = nbF T k0 m0 0 0 sg → zh_ok D cA RTg ro sz H0 H lo0 → zc_kept D RTg ro uM s.heap H → jU D cA ro H tx T g → (∀ p9 : Nat, p9 ∉ [tx] → H[p9]? = s.heap[p9]?) → lv_has ls 6 [(3, .int vv), (4, .int iv), (0, .ref tx), (1, .int ld), (2, .int md)] → W p l e (headSpec (gW yX0_number cX0_number 6 (some .int)) { frames := 1, cells := 0, slots := 0, locals := 21 }).room s m ([.ref tx, .int ld, .int md] : List Value).toArray below meth c H lo0 0 0 (MQ below (ku_Q D cA ro sz H0 uM [tx] tx T (nbF T k0 m0 0 0 sg)) ([.ref tx, .int ld, .int md] : List Value).toArray s 0 0 (zy_fr sz)) (F0 m 5 ls []) := by
    intro n0
    induction n0 with
    | zero =>
      intro i iv vv g ls H lo0 hi hiv hi0 hvv htot hh0 kpl jl frl hl
      have hul := jl.2.2
      unfold uOK at hul
      refine lv_iload hx hb (eX0_number (5, .iload 4, 2) (List.mem_of_getElem? (i := 4) rfl)) (lv_at hl 1 rfl) ?_
      refine lv_iload_n hx hb (eX0_number (7, .iload_n 2, 1) (List.mem_of_getElem? (i := 5) rfl)) rfl (lv_at hl 4 rfl) ?_
      refine ff_icmp_ge hx hb (eX0_number (8, .if_icmp .ge 62, 3) (List.mem_of_getElem? (i := 6) rfl)) (tgt := 70) rfl (fun c5 => ?_) (fun c5 => (by exfalso; omega))
      refine lv_iload_n hx hb (eX0_number (70, .iload_n 3, 1) (List.mem_of_getElem? (i := 39) rfl)) rfl (lv_at hl 0 rfl) ?_
      have hfin : nbF T k0 m0 0 0 sg = (vv.toInt, g) := by rw [← htot]; rfl
      exact W.zret hx hb hr rfl (fun t ht hW => ⟨_, rfl, by rw [hfin] <;> exact rfl, by rw [ht]; exact hh0.l0, by rw [ht]; exact kpl, by rw [ht, hfin]; exact jl, by rw [ht]; exact frl⟩) hh0.2.2.1 (eX0_number (71, .ireturn, 1) (List.mem_of_getElem? (i := 40) rfl))
    | succ n0 ih =>
      intro i iv vv g ls H lo0 hi hiv hi0 hvv htot hh0 kpl jl frl hl
      have hul := jl.2.2
      unfold uOK at hul
      refine lv_iload hx hb (eX0_number (5, .iload 4, 2) (List.mem_of_getElem? (i := 4) rfl)) (lv_at hl 1 rfl) ?_
      refine lv_iload_n hx hb (eX0_number (7, .iload_n 2, 1) (List.mem_of_getElem? (i := 5) rfl)) rfl (lv_at hl 4 rfl) ?_
      refine ff_icmp_ge hx hb (eX0_number (8, .if_icmp .ge 62, 3) (List.mem_of_getElem? (i := 6) rfl)) (tgt := 70) rfl (fun c6 => (by exfalso; omega)) (fun c6 => ?_)
      refine lv_aload_n hx hb (eX0_number (11, .aload_n 0, 1) (List.mem_of_getElem? (i := 7) rfl)) rfl (lv_at hl 2 rfl) ?_
      refine tz_rowV (As := []) (st := []) (b := tx) (C := RX0) (Ts := gT) hx hb hml hown h2 (fun _ h => h) (hX0_digit l D cA ro sz H0 tx T (g) htx) ⟨rfl, rfl⟩ ⟨by decide, by decide⟩ ⟨by decide, by decide⟩ (tb_4 28 rfl rfl) (tb_1 5 rfl rfl) (tb_4 25 rfl rfl) (tb_4 26 rfl rfl) (tb_4 27 rfl rfl) (show yX0_digit.cls ≠ "java/lang/invoke/MethodHandle" ∧ yX0_digit.cls ≠ "java/lang/invoke/VarHandle" ∧ (parseMethodDescriptor yX0_digit.desc).map (fun d => d.parameters.length) = some 0 by decide +kernel) zs_blind (zs_ob hh0 htx (show RTg[0]? = some (0, 0, 0, fsX0) from rfl) (zCX0 hKn.1)) (fun U hU hW => ⟨rfl, by rw [hU]; exact hh0.l0, zKb s U hW.alike hKn, by rw [hU]; exact jl⟩) hh0.2.2.1 hl.1 (Nat.le_of_ble_eq_true rfl) (eX0_number (12, .invokevirtual 33, 3) (List.mem_of_getElem? (i := 8) rfl)) (fun r7 s7 t7 lo7 g7 f7 l7 => ?_)
      obtain ⟨z7, v7, q7, e7⟩ := f7
      cases q7
      rw [z7, g7]
      have hh7 : zh_ok D cA RTg ro sz H0 H lo7 := ⟨hh0.1, hh0.2.1, l7, hh0.2.2.2⟩
      refine W.eq (g2 := F0 m 15 ls [.int v7]) rfl ?_
      refine lv_istore hx hb (eX0_number (15, .istore 5, 2) (List.mem_of_getElem? (i := 9) rfl)) hl (by decide) rfl (fun ls8 hl8 => ?_)
      refine lv_iload hx hb (eX0_number (17, .iload 5, 2) (List.mem_of_getElem? (i := 10) rfl)) (lv_at hl8 0 rfl) ?_
      refine ff_if_ge hx hb (eX0_number (19, .ifCond .ge 27, 3) (List.mem_of_getElem? (i := 11) rfl)) (tgt := 46) rfl (fun c9 => ?_) (fun c9 => ?_)
      · skip
        have hat := dgF_at jl.2.2 (show 0 ≤ dgF T g by omega)
        refine lv_iload_n hx hb (eX0_number (46, .iload_n 3, 1) (List.mem_of_getElem? (i := 25) rfl)) rfl (lv_at hl8 1 rfl) ?_
        refine ff_bipush hx hb (eX0_number (47, .bipush 10, 2) (List.mem_of_getElem? (i := 26) rfl)) (by decide) (by decide) (fun v10 e10 => ?_)
        refine ff_imulR hx hb (eX0_number (49, .imul, 1) (List.mem_of_getElem? (i := 27) rfl)) (e10) (by omega) (by omega) (fun v11 e11 => ?_)
        refine lv_iload hx hb (eX0_number (50, .iload 5, 2) (List.mem_of_getElem? (i := 28) rfl)) (lv_at hl8 0 rfl) ?_
        refine ff_iadd hx hb (eX0_number (52, .iadd, 1) (List.mem_of_getElem? (i := 29) rfl)) (by omega) (by omega) (fun v12 e12 => ?_)
        refine lv_istore_n hx hb (eX0_number (53, .istore_n 3, 1) (List.mem_of_getElem? (i := 30) rfl)) rfl hl8 (by decide) rfl (fun ls13 hl13 => ?_)
        refine lv_aload_n hx hb (eX0_number (54, .aload_n 0, 1) (List.mem_of_getElem? (i := 31) rfl)) rfl (lv_at hl13 3 rfl) ?_
        refine lv_dup hx hb (eX0_number (55, .dup, 1) (List.mem_of_getElem? (i := 32) rfl)) rfl ?_
        obtain ⟨jt14, ⟨av14, bv14, wv14, f214, f314, f414, hav14, hbv14, hwv14⟩, hu14⟩ := id jl
        refine tz_get (r := 0) (k := 2) (t := (0, (-2147483648), 2147483647)) hx hb hh7 htx rfl rfl (hcl0 19 2 (0, (-2147483648), 2147483647) (by decide) rfl).1 f214 (eX0_number (56, .getfield 19, 3) (List.mem_of_getElem? (i := 33) rfl)) ?_
        refine ff_iconst hx hb (eX0_number (59, .iconst 1, 1) (List.mem_of_getElem? (i := 34) rfl)) (by decide) (by decide) (fun v15 e15 => ?_)
        refine ff_iadd hx hb (eX0_number (60, .iadd, 1) (List.mem_of_getElem? (i := 35) rfl)) (by omega) (by omega) (fun v16 e16 => ?_)
        refine tz_put (r := 0) (k := 2) (t := (0, (-2147483648), 2147483647)) hx hb hD hh7 htx rfl rfl ((hcl0 19 2 (0, (-2147483648), 2147483647) (by decide) rfl).2 (by decide)) (tz_i (zn_i32 _).1 (zn_i32 _).2) (eX0_number (61, .putfield 19, 3) (List.mem_of_getElem? (i := 36) rfl)) (fun H17 lo17 hh17 hf17 hk17 _ hq17 => ?_)
        have mf17_tx_3 := (hk17.1 tx 0 3 0 0 fsX0 htx rfl (by decide) (by decide)).trans f314
        have mf17_tx_4 := (hk17.1 tx 0 4 0 0 fsX0 htx rfl (by decide) (by decide)).trans f414
        have kp17 := kpl.trans (hk17.mono (ms' := uM) (fun x hx => by cases List.mem_singleton.mp hx; decide))
        have jm17 := (jl.1).kept htx hk17 (by decide) (by decide) (by decide)
        have fr17 : ∀ p9 : Nat, p9 ∉ [tx] → H17[p9]? = s.heap[p9]? := fun p9 h9 => (hq17 p9 (fun e9 => h9 (by rw [e9]; exact List.mem_cons_self))).trans (frl p9 h9)
        refine ff_iinc (k := 2) hx hb (eX0_number (64, .iinc 4 1, 3) (List.mem_of_getElem? (i := 37) rfl)) hl13 rfl (by decide) (by decide) (by decide) (by omega) (by omega) (fun v18 e18 ls18 hl18 => ?_)
        refine lv_goto hx hb (eX0_number (67, .goto (-62), 3) (List.mem_of_getElem? (i := 38) rfl)) (tgt := 5) rfl ?_
        exact ih (i + 1) v18 v12 (g.1 + 1, g.2) ls18 _ _ (by omega) (by omega) (by omega) (by omega) (by rw [← htot]; show _ = (if _ then _ else _ : Int × uS); rw [if_neg (by omega), show v12.toInt = vv.toInt * 10 + dgF T g by omega]) hh17 kp17 ⟨jm17, ⟨_, _, _, hf17, mf17_tx_3, mf17_tx_4, by show _ = g.1 + 1; omega, by assumption, by assumption⟩, by unfold uOK; dsimp only; omega⟩ fr17 (lv_sub hl18 [1, 0, 3, 4, 5] rfl)
      · skip
        refine lv_aload_n hx hb (eX0_number (22, .aload_n 0, 1) (List.mem_of_getElem? (i := 12) rfl)) rfl (lv_at hl8 3 rfl) ?_
        refine lv_aload_n hx hb (eX0_number (23, .aload_n 0, 1) (List.mem_of_getElem? (i := 13) rfl)) rfl (lv_at hl8 3 rfl) ?_
        obtain ⟨jt19, ⟨av19, bv19, wv19, f219, f319, f419, hav19, hbv19, hwv19⟩, hu19⟩ := id jl
        refine tz_get (r := 0) (k := 3) (t := (0, 0, 1)) hx hb hh7 htx rfl rfl (hcl0 22 3 (0, 0, 1) (by decide) rfl).1 f319 (eX0_number (24, .getfield 22, 3) (List.mem_of_getElem? (i := 14) rfl)) ?_
        refine ff_if_ne hx hb (eX0_number (27, .ifCond .ne 9, 3) (List.mem_of_getElem? (i := 15) rfl)) (tgt := 36) rfl (fun c20 => ?_) (fun c20 => ?_)
        · skip
          refine ff_iconst hx hb (eX0_number (36, .iconst 1, 1) (List.mem_of_getElem? (i := 19) rfl)) (by decide) (by decide) (fun v21 e21 => ?_)
          refine lv_goto hx hb (eX0_number (37, .goto 4, 3) (List.mem_of_getElem? (i := 20) rfl)) (tgt := 41) rfl ?_
          refine tz_put (r := 0) (k := 3) (t := (0, 0, 1)) hx hb hD hh7 htx rfl rfl ((hcl0 22 3 (0, 0, 1) (by decide) rfl).2 (by decide)) (tz_i (by omega) (by omega)) (eX0_number (41, .putfield 22, 3) (List.mem_of_getElem? (i := 22) rfl)) (fun H22 lo22 hh22 hf22 hk22 _ hq22 => ?_)
          have mf22_tx_2 := (hk22.1 tx 0 2 0 0 fsX0 htx rfl (by decide) (by decide)).trans f219
          have mf22_tx_4 := (hk22.1 tx 0 4 0 0 fsX0 htx rfl (by decide) (by decide)).trans f419
          have kp22 := kpl.trans (hk22.mono (ms' := uM) (fun x hx => by cases List.mem_singleton.mp hx; decide))
          have jm22 := (jl.1).kept htx hk22 (by decide) (by decide) (by decide)
          have fr22 : ∀ p9 : Nat, p9 ∉ [tx] → H22[p9]? = s.heap[p9]? := fun p9 h9 => (hq22 p9 (fun e9 => h9 (by rw [e9]; exact List.mem_cons_self))).trans (frl p9 h9)
          refine lv_iload_n hx hb (eX0_number (44, .iload_n 3, 1) (List.mem_of_getElem? (i := 23) rfl)) rfl (lv_at hl8 1 rfl) ?_
          have hfin : nbF T k0 m0 0 0 sg = (vv.toInt, (g.1, 1, g.2.2)) := by rw [← htot]; show (if _ then _ else _ : Int × uS) = _; rw [if_pos (by omega), if_pos (by omega)]
          exact W.zret hx hb hr rfl (fun t ht hW => ⟨_, rfl, by rw [hfin] <;> rfl, by rw [ht]; exact hh22.l0, by rw [ht]; exact kp22, by rw [ht, hfin]; exact ⟨jm22, ⟨_, _, _, mf22_tx_2, hf22, mf22_tx_4, by assumption, by show _ = (1 : Int); omega, by assumption⟩, by unfold uOK; dsimp only; omega⟩, by rw [ht]; exact fr22⟩) hh22.2.2.1 (eX0_number (45, .ireturn, 1) (List.mem_of_getElem? (i := 24) rfl))
        · skip
          refine lv_iload hx hb (eX0_number (30, .iload 4, 2) (List.mem_of_getElem? (i := 16) rfl)) (lv_at hl8 2 rfl) ?_
          refine lv_iload_n hx hb (eX0_number (32, .iload_n 1, 1) (List.mem_of_getElem? (i := 17) rfl)) rfl (lv_at hl8 4 rfl) ?_
          refine ff_icmp_ge hx hb (eX0_number (33, .if_icmp .ge 7, 3) (List.mem_of_getElem? (i := 18) rfl)) (tgt := 40) rfl (fun c23 => ?_) (fun c23 => ?_)
          · skip
            refine ff_iconst hx hb (eX0_number (40, .iconst 0, 1) (List.mem_of_getElem? (i := 21) rfl)) (by decide) (by decide) (fun v24 e24 => ?_)
            refine tz_put (r := 0) (k := 3) (t := (0, 0, 1)) hx hb hD hh7 htx rfl rfl ((hcl0 22 3 (0, 0, 1) (by decide) rfl).2 (by decide)) (tz_i (by omega) (by omega)) (eX0_number (41, .putfield 22, 3) (List.mem_of_getElem? (i := 22) rfl)) (fun H25 lo25 hh25 hf25 hk25 _ hq25 => ?_)
            have mf25_tx_2 := (hk25.1 tx 0 2 0 0 fsX0 htx rfl (by decide) (by decide)).trans f219
            have mf25_tx_4 := (hk25.1 tx 0 4 0 0 fsX0 htx rfl (by decide) (by decide)).trans f419
            have kp25 := kpl.trans (hk25.mono (ms' := uM) (fun x hx => by cases List.mem_singleton.mp hx; decide))
            have jm25 := (jl.1).kept htx hk25 (by decide) (by decide) (by decide)
            have fr25 : ∀ p9 : Nat, p9 ∉ [tx] → H25[p9]? = s.heap[p9]? := fun p9 h9 => (hq25 p9 (fun e9 => h9 (by rw [e9]; exact List.mem_cons_self))).trans (frl p9 h9)
            refine lv_iload_n hx hb (eX0_number (44, .iload_n 3, 1) (List.mem_of_getElem? (i := 23) rfl)) rfl (lv_at hl8 1 rfl) ?_
            have hfin : nbF T k0 m0 0 0 sg = (vv.toInt, (g.1, 0, g.2.2)) := by rw [← htot]; show (if _ then _ else _ : Int × uS) = _; rw [if_pos (by omega), if_neg (by omega)]
            exact W.zret hx hb hr rfl (fun t ht hW => ⟨_, rfl, by rw [hfin] <;> rfl, by rw [ht]; exact hh25.l0, by rw [ht]; exact kp25, by rw [ht, hfin]; exact ⟨jm25, ⟨_, _, _, mf25_tx_2, hf25, mf25_tx_4, by assumption, by show _ = (0 : Int); omega, by assumption⟩, by unfold uOK; dsimp only; omega⟩, by rw [ht]; exact fr25⟩) hh25.2.2.1 (eX0_number (45, .ireturn, 1) (List.mem_of_getElem? (i := 24) rfl))
          · skip
            refine ff_iconst hx hb (eX0_number (36, .iconst 1, 1) (List.mem_of_getElem? (i := 19) rfl)) (by decide) (by decide) (fun v26 e26 => ?_)
            refine lv_goto hx hb (eX0_number (37, .goto 4, 3) (List.mem_of_getElem? (i := 20) rfl)) (tgt := 41) rfl ?_
            refine tz_put (r := 0) (k := 3) (t := (0, 0, 1)) hx hb hD hh7 htx rfl rfl ((hcl0 22 3 (0, 0, 1) (by decide) rfl).2 (by decide)) (tz_i (by omega) (by omega)) (eX0_number (41, .putfield 22, 3) (List.mem_of_getElem? (i := 22) rfl)) (fun H27 lo27 hh27 hf27 hk27 _ hq27 => ?_)
            have mf27_tx_2 := (hk27.1 tx 0 2 0 0 fsX0 htx rfl (by decide) (by decide)).trans f219
            have mf27_tx_4 := (hk27.1 tx 0 4 0 0 fsX0 htx rfl (by decide) (by decide)).trans f419
            have kp27 := kpl.trans (hk27.mono (ms' := uM) (fun x hx => by cases List.mem_singleton.mp hx; decide))
            have jm27 := (jl.1).kept htx hk27 (by decide) (by decide) (by decide)
            have fr27 : ∀ p9 : Nat, p9 ∉ [tx] → H27[p9]? = s.heap[p9]? := fun p9 h9 => (hq27 p9 (fun e9 => h9 (by rw [e9]; exact List.mem_cons_self))).trans (frl p9 h9)
            refine lv_iload_n hx hb (eX0_number (44, .iload_n 3, 1) (List.mem_of_getElem? (i := 23) rfl)) rfl (lv_at hl8 1 rfl) ?_
            have hfin : nbF T k0 m0 0 0 sg = (vv.toInt, (g.1, 1, g.2.2)) := by rw [← htot]; show (if _ then _ else _ : Int × uS) = _; rw [if_pos (by omega), if_pos (by omega)]
            exact W.zret hx hb hr rfl (fun t ht hW => ⟨_, rfl, by rw [hfin] <;> rfl, by rw [ht]; exact hh27.l0, by rw [ht]; exact kp27, by rw [ht, hfin]; exact ⟨jm27, ⟨_, _, _, mf27_tx_2, hf27, mf27_tx_4, by assumption, by show _ = (1 : Int); omega, by assumption⟩, by unfold uOK; dsimp only; omega⟩, by rw [ht]; exact fr27⟩) hh27.2.2.1 (eX0_number (45, .ireturn, 1) (List.mem_of_getElem? (i := 24) rfl))
  exact loop m0 0 v3 v1 sg ls4 _ _ (by omega) (by omega) (by omega) (by omega) (by rw [show v1.toInt = 0 by omega]) hh kp0 hJ fr0 (lv_sub hl4 [1, 0, 2, 3, 4] rfl)
set_option maxRecDepth 100000 in
set_option maxHeartbeats 4000000 in
theorem hX0_numberIn (l : Launch) (D : va_G) (cA : Nat → ClassId) (ro : Nat → Option Nat) (sz : Nat) (H0 : Heap) (tx : Nat) (ld : Int32) (md : Int32) (lo : Int32) (hi : Int32) (k0 : Int) (m0 : Nat) (k1 k2 : Int) (T : List Int) (sg : uS) (htx : ro tx = some 0) (hk0 : ld.toInt = k0) (hm0 : md.toInt = (m0 : Int)) (hk1 : lo.toInt = k1) (hk2 : hi.toInt = k2) (hm3 : m0 ≤ 3) : Met l yX0_numberIn (gW yX0_numberIn cX0_numberIn 7 (some .int)) { frames := 2, cells := 0, slots := 0, locals := 46 } (zs_P D cA ro sz H0 (fun H => jU D cA ro H tx T sg) [.ref tx, .int ld, .int md, .int lo, .int hi]) (ku_Q D cA ro sz H0 uM [tx] tx T (niF T k0 m0 k1 k2 sg)) 0 0 (zy_fr sz) := by
  refine zy_ofW (cc := cX0_numberIn) (maxL := 7) (ret := (some .int)) (by decide +kernel) rfl ?_
  intro p e s m args below meth c s1 B hml hv
  obtain ⟨rfl, hh, hKn, hJ⟩ := hv
  have hx := B.exec
  have hb := B.bytes
  have hr := B.returns
  have hlk := B.notSynchronized
  have hts0 := atoms_spec (ws := gW yX0_numberIn cX0_numberIn 7 (some .int)) B.pre
  have h2 : ∀ w ∈ gT, w.before ([.ref tx, .int ld, .int md, .int lo, .int hi] : List Value).toArray s = true := fun w hw => hts0 w (List.mem_cons_of_mem _ hw)
  have hown : s.vm.findClass RX0 = some m.cls := findClass_of_methodNamed B.named
  have hl := lv_entry [.ref tx, .int ld, .int md, .int lo, .int hi] (n := 7) (Nat.le_of_ble_eq_true rfl)
  rw [lg_entry_eq]
  generalize (lg_sl [.ref tx, .int ld, .int md, .int lo, .int hi] ++ List.replicate (7 - (lg_sl [.ref tx, .int ld, .int md, .int lo, .int hi]).length) Slot.unset).toArray = ls at hl ⊢
  have b_ld := zn_i32 ld
  have b_md := zn_i32 md
  have b_lo := zn_i32 lo
  have b_hi := zn_i32 hi
  have hD := zD_all h2 hKn.1
  have hcl0 := fun (idx k : Nat) (t : zt_T) (h : (idx, 0, k) ∈ gfX0) (hk : fsX0[k]? = some t) => zf_clause (ro := ro) (ms := uM) h2 hown hKn.1 gfX0_ok (by decide +kernel) idx 0 k 0 0 fsX0 t h rfl hk
  have kp0 : zc_kept D RTg ro uM s.heap s.heap := zc_kept.refl
  obtain ⟨hjt, ⟨av, bv, wv, f2, f3, f4, hav, hbv, hwv⟩, hu⟩ := id hJ
  obtain ⟨tb, n, z, f0, r0, f1, hn, hc, hz⟩ := id hjt
  obtain ⟨n9, g9, n1, n2⟩ := zh_fT (k := 1) (t := (0, 0, 120)) hh htx (show RTg[0]? = some (0, 0, 0, fsX0) from rfl) rfl
  cases f1.symm.trans g9
  dsimp only at n1 n2
  clear g9
  obtain ⟨-, z9, c9, hy9⟩ := zh_arr hh r0 (show RTg[12]? = some (1, 2, 120, [(0, (-128), 127)]) from rfl)
  have hy : ∀ i, i < 120 → zt_ok ro (z i) (0, (-128), 127) := zs_arr (hc.symm.trans c9) hy9
  obtain ⟨u1, u2, u3⟩ := id hu
  have fr0 : ∀ p9 : Nat, p9 ∉ [tx] → s.heap[p9]? = s.heap[p9]? := fun _ _ => rfl
  refine lv_aload_n hx hb (eX0_numberIn (0, .aload_n 0, 1) (List.mem_of_getElem? (i := 0) rfl)) rfl (lv_at hl 0 rfl) ?_
  refine tz_get (r := 0) (k := 2) (t := (0, (-2147483648), 2147483647)) hx hb hh htx rfl rfl (hcl0 19 2 (0, (-2147483648), 2147483647) (by decide) rfl).1 f2 (eX0_numberIn (1, .getfield 19, 3) (List.mem_of_getElem? (i := 1) rfl)) ?_
  refine lv_istore hx hb (eX0_numberIn (4, .istore 5, 2) (List.mem_of_getElem? (i := 2) rfl)) hl (by decide) rfl (fun ls1 hl1 => ?_)
  refine lv_aload_n hx hb (eX0_numberIn (6, .aload_n 0, 1) (List.mem_of_getElem? (i := 3) rfl)) rfl (lv_at hl1 1 rfl) ?_
  refine lv_iload_n hx hb (eX0_numberIn (7, .iload_n 1, 1) (List.mem_of_getElem? (i := 4) rfl)) rfl (lv_at hl1 2 rfl) ?_
  refine lv_iload_n hx hb (eX0_numberIn (8, .iload_n 2, 1) (List.mem_of_getElem? (i := 5) rfl)) rfl (lv_at hl1 3 rfl) ?_
  refine tz_rowV (As := [.int ld, .int md]) (st := []) (b := tx) (C := RX0) (Ts := gT) hx hb hml hown h2 (fun _ h => h) (hX0_number l D cA ro sz H0 tx ld md k0 m0 T sg htx hk0 hm0 hm3) ⟨rfl, rfl⟩ ⟨by decide, by decide⟩ ⟨by decide, by decide⟩ (tb_4 60 rfl rfl) (tb_1 5 rfl rfl) (tb_4 57 rfl rfl) (tb_4 58 rfl rfl) (tb_4 59 rfl rfl) (show yX0_number.cls ≠ "java/lang/invoke/MethodHandle" ∧ yX0_number.cls ≠ "java/lang/invoke/VarHandle" ∧ (parseMethodDescriptor yX0_number.desc).map (fun d => d.parameters.length) = some 2 by decide +kernel) zs_blind (zs_ob hh htx (show RTg[0]? = some (0, 0, 0, fsX0) from rfl) (zCX0 hKn.1)) (fun U hU hW => ⟨rfl, by rw [hU]; exact hh.l0, zKb s U hW.alike hKn, by rw [hU]; exact hJ⟩) hh.2.2.1 hl1.1 (Nat.le_of_ble_eq_true rfl) (eX0_numberIn (9, .invokevirtual 52, 3) (List.mem_of_getElem? (i := 6) rfl)) (fun r2 s2 t2 lo2 g2 f2 l2 => ?_)
  obtain ⟨v2, q2, e2, z2, c2, j2, fx2⟩ := f2
  cases q2
  rw [g2] at c2 fx2
  have fr2 : ∀ p9 : Nat, p9 ∉ [tx] → t2.heap[p9]? = s.heap[p9]? := fun p9 h9 => (fx2 p9 (fun q => h9 (by rw [List.mem_singleton.mp q]; exact List.mem_cons_self))).trans (fr0 p9 h9)
  have hh2 : zh_ok D cA RTg ro sz H0 t2.heap lo2 := ⟨z2.1, z2.2.1, l2, z2.2.2.2⟩
  have kp2 := kp0.trans (c2.mono (ms' := uM) (by decide))
  have kf2 := nbF_up (T := T) (ld := k0) m0 (i := 0) (v := 0) (s := sg) (M := 0) (by decide) (by decide)
  generalize hx2 : nbF T k0 m0 0 0 sg = x2 at j2 e2 kf2
  have uu2 := j2.2.2
  unfold uOK at uu2
  have mf2_tx_0 := (c2.1 tx 0 0 0 0 fsX0 htx rfl (by decide) (by decide)).trans f0
  have mf2_tx_1 := (c2.1 tx 0 1 0 0 fsX0 htx rfl (by decide) (by decide)).trans f1
  refine W.eq (g2 := F0 m 12 ls1 [.int v2]) rfl ?_
  refine lv_istore hx hb (eX0_numberIn (12, .istore 6, 2) (List.mem_of_getElem? (i := 7) rfl)) hl1 (by decide) rfl (fun ls3 hl3 => ?_)
  refine lv_iload hx hb (eX0_numberIn (14, .iload 6, 2) (List.mem_of_getElem? (i := 8) rfl)) (lv_at hl3 0 rfl) ?_
  refine lv_iload_n hx hb (eX0_numberIn (16, .iload_n 3, 1) (List.mem_of_getElem? (i := 9) rfl)) rfl (lv_at hl3 5 rfl) ?_
  refine ff_icmp_lt hx hb (eX0_numberIn (17, .if_icmp .lt 10, 3) (List.mem_of_getElem? (i := 10) rfl)) (tgt := 27) rfl (fun c4 => ?_) (fun c4 => ?_)
  · skip
    refine lv_aload_n hx hb (eX0_numberIn (27, .aload_n 0, 1) (List.mem_of_getElem? (i := 14) rfl)) rfl (lv_at hl3 2 rfl) ?_
    refine lv_iload hx hb (eX0_numberIn (28, .iload 5, 2) (List.mem_of_getElem? (i := 15) rfl)) (lv_at hl3 1 rfl) ?_
    refine tz_rowV (As := [.int av]) (st := []) (b := tx) (C := RX0) (Ts := gT) hx hb hml hown h2 (fun _ h => h) (hX0_blame l D cA ro sz H0 tx av T (x2.2) htx) ⟨rfl, rfl⟩ ⟨by decide, by decide⟩ ⟨by decide, by decide⟩ (tb_4 64 rfl rfl) (tb_1 5 rfl rfl) (tb_4 61 rfl rfl) (tb_4 62 rfl rfl) (tb_4 63 rfl rfl) (show yX0_blame.cls ≠ "java/lang/invoke/MethodHandle" ∧ yX0_blame.cls ≠ "java/lang/invoke/VarHandle" ∧ (parseMethodDescriptor yX0_blame.desc).map (fun d => d.parameters.length) = some 1 by decide +kernel) zs_blind (zs_ob hh2 htx (show RTg[0]? = some (0, 0, 0, fsX0) from rfl) (zCX0 hKn.1)) (fun U hU hW => ⟨rfl, by rw [hU]; exact hh2.l0, zKb s U hW.alike hKn, by rw [hU]; exact j2⟩) hh2.2.2.1 hl3.1 (Nat.le_of_ble_eq_true rfl) (eX0_numberIn (30, .invokevirtual 56, 3) (List.mem_of_getElem? (i := 16) rfl)) (fun r5 s5 t5 lo5 g5 f5 l5 => ?_)
    obtain ⟨⟨v5, q5⟩, z5, c5, j5, fx5⟩ := f5
    cases q5
    rw [g5] at c5 fx5
    have fr5 : ∀ p9 : Nat, p9 ∉ [tx] → t5.heap[p9]? = s.heap[p9]? := fun p9 h9 => (fx5 p9 (fun q => h9 (by rw [List.mem_singleton.mp q]; exact List.mem_cons_self))).trans (fr2 p9 h9)
    have hh5 : zh_ok D cA RTg ro sz H0 t5.heap lo5 := ⟨z5.1, z5.2.1, l5, z5.2.2.2⟩
    have kp5 := kp2.trans (c5.mono (ms' := uM) (by decide))
    have mf5_tx_0 := (c5.1 tx 0 0 0 0 fsX0 htx rfl (by decide) (by decide)).trans mf2_tx_0
    have mf5_tx_1 := (c5.1 tx 0 1 0 0 fsX0 htx rfl (by decide) (by decide)).trans mf2_tx_1
    refine W.eq (g2 := F0 m 33 ls3 [.long v5]) rfl ?_
    refine lv_pop2_2 hx hb (eX0_numberIn (33, .pop2, 1) (List.mem_of_getElem? (i := 17) rfl)) rfl ?_
    refine lv_iload hx hb (eX0_numberIn (34, .iload 6, 2) (List.mem_of_getElem? (i := 18) rfl)) (lv_at hl3 0 rfl) ?_
    have hbl : blF av.toInt x2.2 = blF sg.1 x2.2 := by rw [show av.toInt = sg.1 by omega]
    rw [hbl] at j5
    have hfin : niF T k0 m0 k1 k2 sg = (x2.1, blF sg.1 x2.2) := by unfold niF; rw [hx2, if_pos (by omega)]
    exact W.zret hx hb hr rfl (fun t ht hW => ⟨_, rfl, by rw [hfin] <;> exact by show _ = x2.1; omega, by rw [ht]; exact hh5.l0, by rw [ht]; exact kp5, by rw [ht, hfin]; exact j5, by rw [ht]; exact fr5⟩) hh5.2.2.1 (eX0_numberIn (36, .ireturn, 1) (List.mem_of_getElem? (i := 19) rfl))
  · skip
    refine lv_iload hx hb (eX0_numberIn (20, .iload 6, 2) (List.mem_of_getElem? (i := 11) rfl)) (lv_at hl3 0 rfl) ?_
    refine lv_iload hx hb (eX0_numberIn (22, .iload 4, 2) (List.mem_of_getElem? (i := 12) rfl)) (lv_at hl3 6 rfl) ?_
    refine ff_icmp_le hx hb (eX0_numberIn (24, .if_icmp .le 10, 3) (List.mem_of_getElem? (i := 13) rfl)) (tgt := 34) rfl (fun c6 => ?_) (fun c6 => ?_)
    · skip
      refine lv_iload hx hb (eX0_numberIn (34, .iload 6, 2) (List.mem_of_getElem? (i := 18) rfl)) (lv_at hl3 0 rfl) ?_
      have hfin : niF T k0 m0 k1 k2 sg = (x2.1, x2.2) := by unfold niF; rw [hx2, if_neg (by omega)]
      exact W.zret hx hb hr rfl (fun t ht hW => ⟨_, rfl, by rw [hfin] <;> exact by show _ = x2.1; omega, by rw [ht]; exact hh2.l0, by rw [ht]; exact kp2, by rw [ht, hfin]; exact j2, by rw [ht]; exact fr2⟩) hh2.2.2.1 (eX0_numberIn (36, .ireturn, 1) (List.mem_of_getElem? (i := 19) rfl))
    · skip
      refine lv_aload_n hx hb (eX0_numberIn (27, .aload_n 0, 1) (List.mem_of_getElem? (i := 14) rfl)) rfl (lv_at hl3 2 rfl) ?_
      refine lv_iload hx hb (eX0_numberIn (28, .iload 5, 2) (List.mem_of_getElem? (i := 15) rfl)) (lv_at hl3 1 rfl) ?_
      refine tz_rowV (As := [.int av]) (st := []) (b := tx) (C := RX0) (Ts := gT) hx hb hml hown h2 (fun _ h => h) (hX0_blame l D cA ro sz H0 tx av T (x2.2) htx) ⟨rfl, rfl⟩ ⟨by decide, by decide⟩ ⟨by decide, by decide⟩ (tb_4 64 rfl rfl) (tb_1 5 rfl rfl) (tb_4 61 rfl rfl) (tb_4 62 rfl rfl) (tb_4 63 rfl rfl) (show yX0_blame.cls ≠ "java/lang/invoke/MethodHandle" ∧ yX0_blame.cls ≠ "java/lang/invoke/VarHandle" ∧ (parseMethodDescriptor yX0_blame.desc).map (fun d => d.parameters.length) = some 1 by decide +kernel) zs_blind (zs_ob hh2 htx (show RTg[0]? = some (0, 0, 0, fsX0) from rfl) (zCX0 hKn.1)) (fun U hU hW => ⟨rfl, by rw [hU]; exact hh2.l0, zKb s U hW.alike hKn, by rw [hU]; exact j2⟩) hh2.2.2.1 hl3.1 (Nat.le_of_ble_eq_true rfl) (eX0_numberIn (30, .invokevirtual 56, 3) (List.mem_of_getElem? (i := 16) rfl)) (fun r7 s7 t7 lo7 g7 f7 l7 => ?_)
      obtain ⟨⟨v7, q7⟩, z7, c7, j7, fx7⟩ := f7
      cases q7
      rw [g7] at c7 fx7
      have fr7 : ∀ p9 : Nat, p9 ∉ [tx] → t7.heap[p9]? = s.heap[p9]? := fun p9 h9 => (fx7 p9 (fun q => h9 (by rw [List.mem_singleton.mp q]; exact List.mem_cons_self))).trans (fr2 p9 h9)
      have hh7 : zh_ok D cA RTg ro sz H0 t7.heap lo7 := ⟨z7.1, z7.2.1, l7, z7.2.2.2⟩
      have kp7 := kp2.trans (c7.mono (ms' := uM) (by decide))
      have mf7_tx_0 := (c7.1 tx 0 0 0 0 fsX0 htx rfl (by decide) (by decide)).trans mf2_tx_0
      have mf7_tx_1 := (c7.1 tx 0 1 0 0 fsX0 htx rfl (by decide) (by decide)).trans mf2_tx_1
      refine W.eq (g2 := F0 m 33 ls3 [.long v7]) rfl ?_
      refine lv_pop2_2 hx hb (eX0_numberIn (33, .pop2, 1) (List.mem_of_getElem? (i := 17) rfl)) rfl ?_
      refine lv_iload hx hb (eX0_numberIn (34, .iload 6, 2) (List.mem_of_getElem? (i := 18) rfl)) (lv_at hl3 0 rfl) ?_
      have hbl : blF av.toInt x2.2 = blF sg.1 x2.2 := by rw [show av.toInt = sg.1 by omega]
      rw [hbl] at j7
      have hfin : niF T k0 m0 k1 k2 sg = (x2.1, blF sg.1 x2.2) := by unfold niF; rw [hx2, if_pos (by omega)]
      exact W.zret hx hb hr rfl (fun t ht hW => ⟨_, rfl, by rw [hfin] <;> exact by show _ = x2.1; omega, by rw [ht]; exact hh7.l0, by rw [ht]; exact kp7, by rw [ht, hfin]; exact j7, by rw [ht]; exact fr7⟩) hh7.2.2.1 (eX0_numberIn (36, .ireturn, 1) (List.mem_of_getElem? (i := 19) rfl))
set_option maxRecDepth 100000 in
set_option maxHeartbeats 4000000 in
theorem hX0_clock (l : Launch) (D : va_G) (cA : Nat → ClassId) (ro : Nat → Option Nat) (sz : Nat) (H0 : Heap) (tx : Nat) (c0 : Int32) (k0 : Int) (T : List Int) (sg : uS) (htx : ro tx = some 0) (hk0 : c0.toInt = k0) : Met l yX0_clock (gW yX0_clock cX0_clock 3 (some .int)) { frames := 3, cells := 0, slots := 0, locals := 72 } (zs_P D cA ro sz H0 (fun H => jU D cA ro H tx T sg) [.ref tx, .int c0]) (ku_Q D cA ro sz H0 uM [tx] tx T (ckF T k0 sg)) 0 0 (zy_fr sz) := by
  refine zy_ofW (cc := cX0_clock) (maxL := 3) (ret := (some .int)) (by decide +kernel) rfl ?_
  intro p e s m args below meth c s1 B hml hv
  obtain ⟨rfl, hh, hKn, hJ⟩ := hv
  have hx := B.exec
  have hb := B.bytes
  have hr := B.returns
  have hlk := B.notSynchronized
  have hts0 := atoms_spec (ws := gW yX0_clock cX0_clock 3 (some .int)) B.pre
  have h2 : ∀ w ∈ gT, w.before ([.ref tx, .int c0] : List Value).toArray s = true := fun w hw => hts0 w (List.mem_cons_of_mem _ hw)
  have hown : s.vm.findClass RX0 = some m.cls := findClass_of_methodNamed B.named
  have hl := lv_entry [.ref tx, .int c0] (n := 3) (Nat.le_of_ble_eq_true rfl)
  rw [lg_entry_eq]
  generalize (lg_sl [.ref tx, .int c0] ++ List.replicate (3 - (lg_sl [.ref tx, .int c0]).length) Slot.unset).toArray = ls at hl ⊢
  have b_c0 := zn_i32 c0
  have hD := zD_all h2 hKn.1
  have hcl0 := fun (idx k : Nat) (t : zt_T) (h : (idx, 0, k) ∈ gfX0) (hk : fsX0[k]? = some t) => zf_clause (ro := ro) (ms := uM) h2 hown hKn.1 gfX0_ok (by decide +kernel) idx 0 k 0 0 fsX0 t h rfl hk
  have kp0 : zc_kept D RTg ro uM s.heap s.heap := zc_kept.refl
  obtain ⟨hjt, ⟨av, bv, wv, f2, f3, f4, hav, hbv, hwv⟩, hu⟩ := id hJ
  obtain ⟨tb, n, z, f0, r0, f1, hn, hc, hz⟩ := id hjt
  obtain ⟨n9, g9, n1, n2⟩ := zh_fT (k := 1) (t := (0, 0, 120)) hh htx (show RTg[0]? = some (0, 0, 0, fsX0) from rfl) rfl
  cases f1.symm.trans g9
  dsimp only at n1 n2
  clear g9
  obtain ⟨-, z9, c9, hy9⟩ := zh_arr hh r0 (show RTg[12]? = some (1, 2, 120, [(0, (-128), 127)]) from rfl)
  have hy : ∀ i, i < 120 → zt_ok ro (z i) (0, (-128), 127) := zs_arr (hc.symm.trans c9) hy9
  obtain ⟨u1, u2, u3⟩ := id hu
  have fr0 : ∀ p9 : Nat, p9 ∉ [tx] → s.heap[p9]? = s.heap[p9]? := fun _ _ => rfl
  refine ff_bipush hx hb (eX0_clock (0, .bipush 60, 2) (List.mem_of_getElem? (i := 0) rfl)) (by decide) (by decide) (fun v1 e1 => ?_)
  refine lv_aload_n hx hb (eX0_clock (2, .aload_n 0, 1) (List.mem_of_getElem? (i := 1) rfl)) rfl (lv_at hl 0 rfl) ?_
  refine ff_iconst hx hb (eX0_clock (3, .iconst 1, 1) (List.mem_of_getElem? (i := 2) rfl)) (by decide) (by decide) (fun v2 e2 => ?_)
  refine ff_iconst hx hb (eX0_clock (4, .iconst 2, 1) (List.mem_of_getElem? (i := 3) rfl)) (by decide) (by decide) (fun v3 e3 => ?_)
  refine ff_iconst hx hb (eX0_clock (5, .iconst 0, 1) (List.mem_of_getElem? (i := 4) rfl)) (by decide) (by decide) (fun v4 e4 => ?_)
  refine lv_iload_n hx hb (eX0_clock (6, .iload_n 1, 1) (List.mem_of_getElem? (i := 5) rfl)) rfl (lv_at hl 1 rfl) ?_
  refine tz_rowV (As := [.int v2, .int v3, .int v4, .int c0]) (st := [.int v1]) (b := tx) (C := RX0) (Ts := gT) hx hb hml hown h2 (fun _ h => h) (hX0_numberIn l D cA ro sz H0 tx v2 v3 v4 c0 1 2 0 k0 T (sg) htx (by omega) (by omega) (by omega) (by omega) (by decide)) ⟨rfl, rfl⟩ ⟨by decide, by decide⟩ ⟨by decide, by decide⟩ (tb_4 56 rfl rfl) (tb_1 5 rfl rfl) (tb_4 53 rfl rfl) (tb_4 54 rfl rfl) (tb_4 55 rfl rfl) (show yX0_numberIn.cls ≠ "java/lang/invoke/MethodHandle" ∧ yX0_numberIn.cls ≠ "java/lang/invoke/VarHandle" ∧ (parseMethodDescriptor yX0_numberIn.desc).map (fun d => d.parameters.length) = some 4 by decide +kernel) zs_blind (zs_ob hh htx (show RTg[0]? = some (0, 0, 0, fsX0) from rfl) (zCX0 hKn.1)) (fun U hU hW => ⟨rfl, by rw [hU]; exact hh.l0, zKb s U hW.alike hKn, by rw [hU]; exact hJ⟩) hh.2.2.1 hl.1 (Nat.le_of_ble_eq_true rfl) (eX0_clock (7, .invokevirtual 60, 3) (List.mem_of_getElem? (i := 6) rfl)) (fun r5 s5 t5 lo5 g5 f5 l5 => ?_)
  obtain ⟨v5, q5, e5, z5, c5, j5, fx5⟩ := f5
  cases q5
  rw [g5] at c5 fx5
  have fr5 : ∀ p9 : Nat, p9 ∉ [tx] → t5.heap[p9]? = s.heap[p9]? := fun p9 h9 => (fx5 p9 (fun q => h9 (by rw [List.mem_singleton.mp q]; exact List.mem_cons_self))).trans (fr0 p9 h9)
  have hh5 : zh_ok D cA RTg ro sz H0 t5.heap lo5 := ⟨z5.1, z5.2.1, l5, z5.2.2.2⟩
  have kp5 := kp0.trans (c5.mono (ms' := uM) (by decide))
  have kf5 := niF_2 (T := T) (ld := 1) (lo := 0) (hi := k0) (s := sg)
  generalize hx5 : niF T 1 2 0 k0 sg = x5 at j5 e5 kf5
  have uu5 := j5.2.2
  unfold uOK at uu5
  have mf5_tx_0 := (c5.1 tx 0 0 0 0 fsX0 htx rfl (by decide) (by decide)).trans f0
  have mf5_tx_1 := (c5.1 tx 0 1 0 0 fsX0 htx rfl (by decide) (by decide)).trans f1
  refine W.eq (g2 := F0 m 10 ls [.int v5, .int v1]) rfl ?_
  refine ff_imulL hx hb (eX0_clock (10, .imul, 1) (List.mem_of_getElem? (i := 7) rfl)) (e1) (by omega) (by omega) (fun v6 e6 => ?_)
  refine lv_istore_n hx hb (eX0_clock (11, .istore_n 2, 1) (List.mem_of_getElem? (i := 8) rfl)) rfl hl (by decide) rfl (fun ls7 hl7 => ?_)
  refine lv_aload_n hx hb (eX0_clock (12, .aload_n 0, 1) (List.mem_of_getElem? (i := 9) rfl)) rfl (lv_at hl7 1 rfl) ?_
  refine ff_bipush hx hb (eX0_clock (13, .bipush 58, 2) (List.mem_of_getElem? (i := 10) rfl)) (by decide) (by decide) (fun v8 e8 => ?_)
  refine tz_rowV (As := [.int v8]) (st := []) (b := tx) (C := RX0) (Ts := gT) hx hb hml hown h2 (fun _ h => h) (hX0_take l D cA ro sz H0 tx v8 58 T (x5.2) htx (by omega) (by decide)) ⟨rfl, rfl⟩ ⟨by decide, by decide⟩ ⟨by decide, by decide⟩ (tb_4 8 rfl rfl) (tb_1 5 rfl rfl) (tb_4 45 rfl rfl) (tb_4 6 rfl rfl) (tb_4 7 rfl rfl) (show yX0_take.cls ≠ "java/lang/invoke/MethodHandle" ∧ yX0_take.cls ≠ "java/lang/invoke/VarHandle" ∧ (parseMethodDescriptor yX0_take.desc).map (fun d => d.parameters.length) = some 1 by decide +kernel) zs_blind (zs_ob hh5 htx (show RTg[0]? = some (0, 0, 0, fsX0) from rfl) (zCX0 hKn.1)) (fun U hU hW => ⟨rfl, by rw [hU]; exact hh5.l0, zKb s U hW.alike hKn, by rw [hU]; exact j5⟩) hh5.2.2.1 hl7.1 (Nat.le_of_ble_eq_true rfl) (eX0_clock (15, .invokevirtual 44, 3) (List.mem_of_getElem? (i := 11) rfl)) (fun r9 s9 t9 lo9 g9 f9 l9 => ?_)
  obtain ⟨v9, q9, e9, z9, c9, j9, fx9⟩ := f9
  cases q9
  rw [g9] at c9 fx9
  have fr9 : ∀ p9 : Nat, p9 ∉ [tx] → t9.heap[p9]? = s.heap[p9]? := fun p9 h9 => (fx9 p9 (fun q => h9 (by rw [List.mem_singleton.mp q]; exact List.mem_cons_self))).trans (fr5 p9 h9)
  have hh9 : zh_ok D cA RTg ro sz H0 t9.heap lo9 := ⟨z9.1, z9.2.1, l9, z9.2.2.2⟩
  have kp9 := kp5.trans (c9.mono (ms' := uM) (by decide))
  have kf9 := tkF_01 T 58 x5.2
  generalize hx9 : tkF T 58 x5.2 = x9 at j9 e9 kf9
  have uu9 := j9.2.2
  unfold uOK at uu9
  have mf9_tx_0 := (c9.1 tx 0 0 0 0 fsX0 htx rfl (by decide) (by decide)).trans mf5_tx_0
  have mf9_tx_1 := (c9.1 tx 0 1 0 0 fsX0 htx rfl (by decide) (by decide)).trans mf5_tx_1
  refine W.eq (g2 := F0 m 18 ls7 [.int v9]) rfl ?_
  refine ff_if_eq hx hb (eX0_clock (18, .ifCond .eq 17, 3) (List.mem_of_getElem? (i := 12) rfl)) (tgt := 35) rfl (fun c10 => ?_) (fun c10 => ?_)
  · skip
    refine lv_iload_n hx hb (eX0_clock (35, .iload_n 2, 1) (List.mem_of_getElem? (i := 22) rfl)) rfl (lv_at hl7 0 rfl) ?_
    have hfin : ckF T k0 sg = (60 * x5.1, x9.2) := by unfold ckF; rw [hx5, hx9, if_neg (by omega)]
    exact W.zret hx hb hr rfl (fun t ht hW => ⟨_, rfl, by rw [hfin] <;> exact by show _ = 60 * x5.1; omega, by rw [ht]; exact hh9.l0, by rw [ht]; exact kp9, by rw [ht, hfin]; exact j9, by rw [ht]; exact fr9⟩) hh9.2.2.1 (eX0_clock (36, .ireturn, 1) (List.mem_of_getElem? (i := 23) rfl))
  · skip
    refine lv_iload_n hx hb (eX0_clock (21, .iload_n 2, 1) (List.mem_of_getElem? (i := 13) rfl)) rfl (lv_at hl7 0 rfl) ?_
    refine lv_aload_n hx hb (eX0_clock (22, .aload_n 0, 1) (List.mem_of_getElem? (i := 14) rfl)) rfl (lv_at hl7 1 rfl) ?_
    refine ff_iconst hx hb (eX0_clock (23, .iconst 2, 1) (List.mem_of_getElem? (i := 15) rfl)) (by decide) (by decide) (fun v11 e11 => ?_)
    refine ff_iconst hx hb (eX0_clock (24, .iconst 2, 1) (List.mem_of_getElem? (i := 16) rfl)) (by decide) (by decide) (fun v12 e12 => ?_)
    refine ff_iconst hx hb (eX0_clock (25, .iconst 0, 1) (List.mem_of_getElem? (i := 17) rfl)) (by decide) (by decide) (fun v13 e13 => ?_)
    refine ff_bipush hx hb (eX0_clock (26, .bipush 59, 2) (List.mem_of_getElem? (i := 18) rfl)) (by decide) (by decide) (fun v14 e14 => ?_)
    refine tz_rowV (As := [.int v11, .int v12, .int v13, .int v14]) (st := [.int v6]) (b := tx) (C := RX0) (Ts := gT) hx hb hml hown h2 (fun _ h => h) (hX0_numberIn l D cA ro sz H0 tx v11 v12 v13 v14 2 2 0 59 T (x9.2) htx (by omega) (by omega) (by omega) (by omega) (by decide)) ⟨rfl, rfl⟩ ⟨by decide, by decide⟩ ⟨by decide, by decide⟩ (tb_4 56 rfl rfl) (tb_1 5 rfl rfl) (tb_4 53 rfl rfl) (tb_4 54 rfl rfl) (tb_4 55 rfl rfl) (show yX0_numberIn.cls ≠ "java/lang/invoke/MethodHandle" ∧ yX0_numberIn.cls ≠ "java/lang/invoke/VarHandle" ∧ (parseMethodDescriptor yX0_numberIn.desc).map (fun d => d.parameters.length) = some 4 by decide +kernel) zs_blind (zs_ob hh9 htx (show RTg[0]? = some (0, 0, 0, fsX0) from rfl) (zCX0 hKn.1)) (fun U hU hW => ⟨rfl, by rw [hU]; exact hh9.l0, zKb s U hW.alike hKn, by rw [hU]; exact j9⟩) hh9.2.2.1 hl7.1 (Nat.le_of_ble_eq_true rfl) (eX0_clock (28, .invokevirtual 60, 3) (List.mem_of_getElem? (i := 19) rfl)) (fun r15 s15 t15 lo15 g15 f15 l15 => ?_)
    obtain ⟨v15, q15, e15, z15, c15, j15, fx15⟩ := f15
    cases q15
    rw [g15] at c15 fx15
    have fr15 : ∀ p9 : Nat, p9 ∉ [tx] → t15.heap[p9]? = s.heap[p9]? := fun p9 h9 => (fx15 p9 (fun q => h9 (by rw [List.mem_singleton.mp q]; exact List.mem_cons_self))).trans (fr9 p9 h9)
    have hh15 : zh_ok D cA RTg ro sz H0 t15.heap lo15 := ⟨z15.1, z15.2.1, l15, z15.2.2.2⟩
    have kp15 := kp9.trans (c15.mono (ms' := uM) (by decide))
    have kf15 := niF_2 (T := T) (ld := 2) (lo := 0) (hi := 59) (s := x9.2)
    generalize hx15 : niF T 2 2 0 59 x9.2 = x15 at j15 e15 kf15
    have uu15 := j15.2.2
    unfold uOK at uu15
    have mf15_tx_0 := (c15.1 tx 0 0 0 0 fsX0 htx rfl (by decide) (by decide)).trans mf9_tx_0
    have mf15_tx_1 := (c15.1 tx 0 1 0 0 fsX0 htx rfl (by decide) (by decide)).trans mf9_tx_1
    refine W.eq (g2 := F0 m 31 ls7 [.int v15, .int v6]) rfl ?_
    refine ff_iadd hx hb (eX0_clock (31, .iadd, 1) (List.mem_of_getElem? (i := 20) rfl)) (by omega) (by omega) (fun v16 e16 => ?_)
    refine lv_goto hx hb (eX0_clock (32, .goto 4, 3) (List.mem_of_getElem? (i := 21) rfl)) (tgt := 36) rfl ?_
    have hfin : ckF T k0 sg = (60 * x5.1 + x15.1, x15.2) := by unfold ckF; rw [hx5, hx9, if_pos (by omega), hx15]
    exact W.zret hx hb hr rfl (fun t ht hW => ⟨_, rfl, by rw [hfin] <;> exact by show _ = 60 * x5.1 + x15.1; omega, by rw [ht]; exact hh15.l0, by rw [ht]; exact kp15, by rw [ht, hfin]; exact j15, by rw [ht]; exact fr15⟩) hh15.2.2.1 (eX0_clock (36, .ireturn, 1) (List.mem_of_getElem? (i := 23) rfl))
