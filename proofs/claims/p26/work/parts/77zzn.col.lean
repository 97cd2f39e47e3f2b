set_option maxRecDepth 100000 in
set_option maxHeartbeats 4000000 in
theorem hX10_insert (l : Launch) (D : va_G) (cA : Nat → ClassId) (ro : Nat → Option Nat) (sz : Nat) (H0 : Heap) (t0 : Int64) (fo : Nat) (n0 : Int32) (A : List Int) (zf : Nat → Value) (rfo : ro fo = some 19) (hn0 : n0.toInt = (A.length : Int)) (hA : A.length < 63) : Met l yX10_insert (gW yX10_insert cX10_insert 6 (some .int)) { frames := 0, cells := 0, slots := 0, locals := 0 } (zs_P D cA ro sz H0 (fun H => H[fo]? = some (arrV (cA 1) 63 zf) ∧ jN A zf) [.long t0, .ref fo, .int n0]) (fun _ st oc t => ∃ r : Int32, oc = .returned (some (.int r)) ∧ r.toInt = ((insF t0.toInt A).length : Int) ∧ zh_ok D cA RTg ro sz H0 t.heap [] ∧ zc_kept D RTg ro [(19, 0)] st.heap t.heap ∧ (∃ z9 : Nat → Value, t.heap[fo]? = some (arrV (cA 1) 63 z9) ∧ jN (insF t0.toInt A) z9) ∧ ∀ p9 : Nat, p9 ∉ [fo] → t.heap[p9]? = st.heap[p9]?) 0 0 (zy_fr sz) := by
  refine zy_ofW (cc := cX10_insert) (maxL := 6) (ret := (some .int)) (by decide +kernel) rfl ?_
  intro p e s m args below meth c s1 B hml hv
  obtain ⟨rfl, hh, hKn, hJ⟩ := hv
  have hx := B.exec
  have hb := B.bytes
  have hr := B.returns
  have hlk := B.notSynchronized
  have hts0 := atoms_spec (ws := gW yX10_insert cX10_insert 6 (some .int)) B.pre
  have h2 : ∀ w ∈ gT, w.before ([.long t0, .ref fo, .int n0] : List Value).toArray s = true := fun w hw => hts0 w (List.mem_cons_of_mem _ hw)
  have hown : s.vm.findClass RX10 = some m.cls := findClass_of_methodNamed B.named
  have hl := lv_entry [.long t0, .ref fo, .int n0] (n := 6) (Nat.le_of_ble_eq_true rfl)
  rw [lg_entry_eq]
  generalize (lg_sl [.long t0, .ref fo, .int n0] ++ List.replicate (6 - (lg_sl [.long t0, .ref fo, .int n0]).length) Slot.unset).toArray = ls at hl ⊢
  have b_t0 := zn_i64 t0
  have b_n0 := zn_i32 n0
  have kp0 : zc_kept D RTg ro [(19, 0)] s.heap s.heap := zc_kept.refl
  obtain ⟨hc, hz⟩ := id hJ
  have fr0 : ∀ p9 : Nat, p9 ∉ [fo] → s.heap[p9]? = s.heap[p9]? := fun _ _ => rfl
  refine lv_iload_n hx hb (eX10_insert (0, .iload_n 3, 1) (List.mem_of_getElem? (i := 0) rfl)) rfl (lv_at hl 2 rfl) ?_
  refine ff_if_lt hx hb (eX10_insert (1, .ifCond .lt 9, 3) (List.mem_of_getElem? (i := 1) rfl)) (tgt := 10) rfl (fun c1 => ?_) (fun c1 => ?_)
  · skip
    refine lv_iload_n hx hb (eX10_insert (10, .iload_n 3, 1) (List.mem_of_getElem? (i := 6) rfl)) rfl (lv_at hl 2 rfl) ?_
    exfalso
    omega
  · skip
    refine lv_iload_n hx hb (eX10_insert (4, .iload_n 3, 1) (List.mem_of_getElem? (i := 2) rfl)) rfl (lv_at hl 2 rfl) ?_
    refine lv_aload_n hx hb (eX10_insert (5, .aload_n 2, 1) (List.mem_of_getElem? (i := 3) rfl)) rfl (lv_at hl 1 rfl) ?_
    refine W.alen (n := nI 63) hx hb hc (zAr hKn.1 1 (by decide) 63 zf) (by rw [arrV_size]; rfl) rfl rfl (eX10_insert (6, .arraylength, 1) (List.mem_of_getElem? (i := 4) rfl)) ?_
    have e2 : (nI 63).toInt = 63 := nI_toInt (by decide)
    generalize nI 63 = v2 at e2 ⊢
    refine ff_icmp_lt hx hb (eX10_insert (7, .if_icmp .lt 5, 3) (List.mem_of_getElem? (i := 5) rfl)) (tgt := 12) rfl (fun c3 => ?_) (fun c3 => ?_)
    · skip
      refine ff_iconst hx hb (eX10_insert (12, .iconst 0, 1) (List.mem_of_getElem? (i := 8) rfl)) (by decide) (by decide) (fun v4 e4 => ?_)
      refine lv_istore hx hb (eX10_insert (13, .istore 4, 2) (List.mem_of_getElem? (i := 9) rfl)) hl (by decide) rfl (fun ls5 hl5 => ?_)
      have loop2 : ∀ (m0 j pn : Nat) (jv pv : Int32) (z1 : Nat → Value) (ls : Array Slot) (H : Heap) (lo0 : List Loc), pn + m0 = j → j ≤ A.length → jv.toInt = (j : Int) → pv.toInt = (pn : Int) → (∀ q, q < j → z1 q = zf q) → (∀ q, j < q → q ≤ A.length → z1 q = zf (q - 1)) → insF t0.toInt A = A.take pn ++ t0.toInt :: A.drop pn → zh_ok D cA RTg ro sz H0 H lo0 → zc_kept D RTg ro [(19, 0)] s.heap H → H[fo]? = some (arrV (cA 1) 63 z1) → (∀ p9 : Nat, p9 ∉ [fo] → H[p9]? = s.heap[p9]?) → lv_has ls 6 [(5, .int jv), (4, .int pv), (0, .long t0), (2, .ref fo), (3, .int n0)] → W p l e (headSpec (gW yX10_insert cX10_insert 6 (some .int)) { frames := 0, cells := 0, slots := 0, locals := 0 }).room s m ([.long t0, .ref fo, .int n0] : List Value).toArray below meth c H lo0 0 0 (MQ below (fun _ st oc t => ∃ r : Int32, oc = .returned (some (.int r)) ∧ r.toInt = ((insF t0.toInt A).length : Int) ∧ zh_ok D cA RTg ro sz H0 t.heap [] ∧ zc_kept D RTg ro [(19, 0)] st.heap t.heap ∧ (∃ z9 : Nat → Value, t.heap[fo]? = some (arrV (cA 1) 63 z9) ∧ jN (insF t0.toInt A) z9) ∧ ∀ p9 : Nat, p9 ∉ [fo] → t.heap[p9]? = st.heap[p9]?) ([.long t0, .ref fo, .int n0] : List Value).toArray s 0 0 (zy_fr sz)) (F0 m 56 ls []) := by
        intro m0
        induction m0 with
        | zero =>
          intro j pn jv pv z1 ls H lo0 hj hjl hjv hpv hb1 hb2 htot hh0 kpl hcl frl hl
          refine lv_iload hx hb (eX10_insert (56, .iload 5, 2) (List.mem_of_getElem? (i := 34) rfl)) (lv_at hl 0 rfl) ?_
          refine lv_iload hx hb (eX10_insert (58, .iload 4, 2) (List.mem_of_getElem? (i := 35) rfl)) (lv_at hl 1 rfl) ?_
          refine ff_icmp_le hx hb (eX10_insert (60, .if_icmp .le 19, 3) (List.mem_of_getElem? (i := 36) rfl)) (tgt := 79) rfl (fun c6 => ?_) (fun c6 => (by exfalso; omega))
          refine lv_aload_n hx hb (eX10_insert (79, .aload_n 2, 1) (List.mem_of_getElem? (i := 47) rfl)) rfl (lv_at hl 3 rfl) ?_
          refine lv_iload hx hb (eX10_insert (80, .iload 4, 2) (List.mem_of_getElem? (i := 48) rfl)) (lv_at hl 1 rfl) ?_
          refine lv_lload_n hx hb (eX10_insert (82, .lload_n 0, 1) (List.mem_of_getElem? (i := 49) rfl)) rfl (lv_at hl 2 rfl) ?_
          obtain ⟨-, zz7, hcc7, hyy7⟩ := zh_arr hh0 rfo (show RTg[19]? = some (1, 1, 63, [(1, (-9223372036854775808), 9223372036854775807)]) from rfl)
          refine tz_last hx hb (zAr hKn.1 1 (by decide)) hh0 rfo (show RTg[19]? = some (1, 1, 63, [(1, (-9223372036854775808), 9223372036854775807)]) from rfl) hcl (zs_arr (hcl.symm.trans hcc7) hyy7) (by omega) (by omega) (tz_l (zn_i64 _).1 (zn_i64 _).2) (eX10_insert (83, .lastore, 1) (List.mem_of_getElem? (i := 50) rfl)) (fun H7 lo7 hh7 hc7 hk7 hq7 _ => ?_)
          rw [show pv.toNatClampNeg = pn by show pv.toInt.toNat = _; omega] at hc7
          have kp7 := kpl.trans (hk7.mono (ms' := [(19, 0)]) (fun x hx => by cases List.mem_singleton.mp hx; decide))
          have fr7 : ∀ p9 : Nat, p9 ∉ [fo] → H7[p9]? = s.heap[p9]? := fun p9 h9 => (hq7 p9 (fun e9 => h9 (by rw [e9]; exact List.mem_cons_self))).trans (frl p9 h9)
          refine lv_iload_n hx hb (eX10_insert (84, .iload_n 3, 1) (List.mem_of_getElem? (i := 51) rfl)) rfl (lv_at hl 4 rfl) ?_
          refine ff_iconst hx hb (eX10_insert (85, .iconst 1, 1) (List.mem_of_getElem? (i := 52) rfl)) (by decide) (by decide) (fun v8 e8 => ?_)
          refine ff_iadd hx hb (eX10_insert (86, .iadd, 1) (List.mem_of_getElem? (i := 53) rfl)) (by omega) (by omega) (fun v9 e9 => ?_)
          have hjn := jN_ins (t := t0) (p := pn) (z' := updV z1 pn (.long t0)) (by omega) hz (fun q hq => by rw [updV_ne (by omega)]; exact hb1 q (by omega)) updV_eq (fun q h1 h2 => by rw [updV_ne (by omega)]; exact hb2 q (by omega) h2)
          have hln : ((insF t0.toInt A).length : Int) = (A.length : Int) + 1 := by rw [htot, List.length_append, List.length_cons, List.length_take, List.length_drop]; omega
          rw [← htot] at hjn
          exact W.zret hx hb hr rfl (fun t ht hW => ⟨_, rfl, by omega, by rw [ht]; exact hh7.l0, by rw [ht]; exact kp7, ⟨_, by rw [ht]; exact hc7, hjn⟩, by rw [ht]; exact fr7⟩) hh7.2.2.1 (eX10_insert (87, .ireturn, 1) (List.mem_of_getElem? (i := 54) rfl))
        | succ m0 ih =>
          intro j pn jv pv z1 ls H lo0 hj hjl hjv hpv hb1 hb2 htot hh0 kpl hcl frl hl
          refine lv_iload hx hb (eX10_insert (56, .iload 5, 2) (List.mem_of_getElem? (i := 34) rfl)) (lv_at hl 0 rfl) ?_
          refine lv_iload hx hb (eX10_insert (58, .iload 4, 2) (List.mem_of_getElem? (i := 35) rfl)) (lv_at hl 1 rfl) ?_
          refine ff_icmp_le hx hb (eX10_insert (60, .if_icmp .le 19, 3) (List.mem_of_getElem? (i := 36) rfl)) (tgt := 79) rfl (fun c10 => (by exfalso; omega)) (fun c10 => ?_)
          refine lv_aload_n hx hb (eX10_insert (63, .aload_n 2, 1) (List.mem_of_getElem? (i := 37) rfl)) rfl (lv_at hl 3 rfl) ?_
          refine lv_iload hx hb (eX10_insert (64, .iload 5, 2) (List.mem_of_getElem? (i := 38) rfl)) (lv_at hl 0 rfl) ?_
          refine lv_aload_n hx hb (eX10_insert (66, .aload_n 2, 1) (List.mem_of_getElem? (i := 39) rfl)) rfl (lv_at hl 3 rfl) ?_
          refine lv_iload hx hb (eX10_insert (67, .iload 5, 2) (List.mem_of_getElem? (i := 40) rfl)) (lv_at hl 0 rfl) ?_
          refine ff_iconst hx hb (eX10_insert (69, .iconst 1, 1) (List.mem_of_getElem? (i := 41) rfl)) (by decide) (by decide) (fun v11 e11 => ?_)
          refine ff_isub hx hb (eX10_insert (70, .isub, 1) (List.mem_of_getElem? (i := 42) rfl)) (by omega) (by omega) (fun v12 e12 => ?_)
          refine tz_lald hx hb (zAr hKn.1 1 (by decide)) hcl (by omega) (by omega) (eX10_insert (71, .laload, 1) (List.mem_of_getElem? (i := 43) rfl)) ?_
          obtain ⟨xv, hzx, hAx⟩ := hz (j - 1) (by omega)
          rw [show v12.toNatClampNeg = j - 1 by show v12.toInt.toNat = _; omega, hb1 (j - 1) (by omega), hzx]
          obtain ⟨-, zz14, hcc14, hyy14⟩ := zh_arr hh0 rfo (show RTg[19]? = some (1, 1, 63, [(1, (-9223372036854775808), 9223372036854775807)]) from rfl)
          refine tz_last hx hb (zAr hKn.1 1 (by decide)) hh0 rfo (show RTg[19]? = some (1, 1, 63, [(1, (-9223372036854775808), 9223372036854775807)]) from rfl) hcl (zs_arr (hcl.symm.trans hcc14) hyy14) (by omega) (by omega) (tz_l (zn_i64 _).1 (zn_i64 _).2) (eX10_insert (72, .lastore, 1) (List.mem_of_getElem? (i := 44) rfl)) (fun H14 lo14 hh14 hc14 hk14 hq14 _ => ?_)
          rw [show jv.toNatClampNeg = j by show jv.toInt.toNat = _; omega] at hc14
          rw [show (Value.long xv) = zf (j - 1) from hzx.symm] at hc14
          have kp14 := kpl.trans (hk14.mono (ms' := [(19, 0)]) (fun x hx => by cases List.mem_singleton.mp hx; decide))
          have fr14 : ∀ p9 : Nat, p9 ∉ [fo] → H14[p9]? = s.heap[p9]? := fun p9 h9 => (hq14 p9 (fun e9 => h9 (by rw [e9]; exact List.mem_cons_self))).trans (frl p9 h9)
          refine ff_iinc (k := 0) hx hb (eX10_insert (73, .iinc 5 (-1), 3) (List.mem_of_getElem? (i := 45) rfl)) hl rfl (by decide) (by decide) (by decide) (by omega) (by omega) (fun v15 e15 ls15 hl15 => ?_)
          refine lv_goto hx hb (eX10_insert (76, .goto (-20), 3) (List.mem_of_getElem? (i := 46) rfl)) (tgt := 56) rfl ?_
          exact ih (j - 1) pn v15 pv _ ls15 _ _ (by omega) (by omega) (by omega) hpv (fun q hq => by rw [updV_ne (by omega)]; exact hb1 q (by omega)) (fun q h1 h2 => by by_cases e9 : q = j; (subst e9; rw [updV_eq]); (rw [updV_ne e9]; exact hb2 q (by omega) h2)) htot hh14 kp14 hc14 fr14 (lv_sub hl15 [0, 1, 2, 3, 4] rfl)
      have loop1 : ∀ (m0 pn : Nat) (pv : Int32) (ls : Array Slot), pn + m0 = A.length → pv.toInt = (pn : Int) → insF t0.toInt A = A.take pn ++ insF t0.toInt (A.drop pn) → lv_has ls 6 [(4, .int pv), (0, .long t0), (2, .ref fo), (3, .int n0)] → W p l e (headSpec (gW yX10_insert cX10_insert 6 (some .int)) { frames := 0, cells := 0, slots := 0, locals := 0 }).room s m ([.long t0, .ref fo, .int n0] : List Value).toArray below meth c s.heap [] 0 0 (MQ below (fun _ st oc t => ∃ r : Int32, oc = .returned (some (.int r)) ∧ r.toInt = ((insF t0.toInt A).length : Int) ∧ zh_ok D cA RTg ro sz H0 t.heap [] ∧ zc_kept D RTg ro [(19, 0)] st.heap t.heap ∧ (∃ z9 : Nat → Value, t.heap[fo]? = some (arrV (cA 1) 63 z9) ∧ jN (insF t0.toInt A) z9) ∧ ∀ p9 : Nat, p9 ∉ [fo] → t.heap[p9]? = st.heap[p9]?) ([.long t0, .ref fo, .int n0] : List Value).toArray s 0 0 (zy_fr sz)) (F0 m 15 ls []) := by
        intro m0
        induction m0 with
        | zero =>
          intro pn pv ls hp hpv htot hl
          rw [List.drop_eq_nil_of_le (show A.length ≤ pn by omega)] at htot
          have htot : insF t0.toInt A = A.take pn ++ t0.toInt :: A.drop pn := by rw [List.drop_eq_nil_of_le (show A.length ≤ pn by omega)]; exact htot
          refine lv_iload hx hb (eX10_insert (15, .iload 4, 2) (List.mem_of_getElem? (i := 10) rfl)) (lv_at hl 0 rfl) ?_
          refine lv_iload_n hx hb (eX10_insert (17, .iload_n 3, 1) (List.mem_of_getElem? (i := 11) rfl)) rfl (lv_at hl 3 rfl) ?_
          refine ff_icmp_ge hx hb (eX10_insert (18, .if_icmp .ge 18, 3) (List.mem_of_getElem? (i := 12) rfl)) (tgt := 36) rfl (fun c16 => ?_) (fun c16 => (by exfalso; omega))
          refine lv_iload hx hb (eX10_insert (36, .iload 4, 2) (List.mem_of_getElem? (i := 21) rfl)) (lv_at hl 0 rfl) ?_
          refine lv_iload_n hx hb (eX10_insert (38, .iload_n 3, 1) (List.mem_of_getElem? (i := 22) rfl)) rfl (lv_at hl 3 rfl) ?_
          refine ff_icmp_ge hx hb (eX10_insert (39, .if_icmp .ge 14, 3) (List.mem_of_getElem? (i := 23) rfl)) (tgt := 53) rfl (fun c17 => ?_) (fun c17 => (by exfalso; omega))
          refine lv_iload_n hx hb (eX10_insert (53, .iload_n 3, 1) (List.mem_of_getElem? (i := 32) rfl)) rfl (lv_at hl 3 rfl) ?_
          refine lv_istore hx hb (eX10_insert (54, .istore 5, 2) (List.mem_of_getElem? (i := 33) rfl)) hl (by decide) rfl (fun ls18 hl18 => ?_)
          exact loop2 (A.length - pn) A.length pn n0 pv zf ls18 _ _ (by omega) (by omega) (by omega) hpv (fun q _ => rfl) (fun q h1 h2 => by omega) htot hh kp0 hc fr0 (lv_sub hl18 [0, 1, 2, 3, 4] rfl)
        | succ m0 ih =>
          intro pn pv ls hp hpv htot hl
          obtain ⟨xv, hzx, hAx⟩ := hz pn (by omega)
          have hdr : A.drop pn = xv.toInt :: A.drop (pn + 1) := by rw [List.drop_eq_getElem_cons (show pn < A.length by omega), (List.getElem?_eq_some_iff.mp hAx).2]
          have htk : A.take (pn + 1) = A.take pn ++ [xv.toInt] := by rw [List.take_add_one, hAx]; rfl
          rw [hdr] at htot
          have htot : insF t0.toInt A = A.take pn ++ (if xv.toInt < t0.toInt then xv.toInt :: insF t0.toInt (A.drop (pn + 1)) else if xv.toInt = t0.toInt then xv.toInt :: A.drop (pn + 1) else t0.toInt :: xv.toInt :: A.drop (pn + 1)) := htot
          refine lv_iload hx hb (eX10_insert (15, .iload 4, 2) (List.mem_of_getElem? (i := 10) rfl)) (lv_at hl 0 rfl) ?_
          refine lv_iload_n hx hb (eX10_insert (17, .iload_n 3, 1) (List.mem_of_getElem? (i := 11) rfl)) rfl (lv_at hl 3 rfl) ?_
          refine ff_icmp_ge hx hb (eX10_insert (18, .if_icmp .ge 18, 3) (List.mem_of_getElem? (i := 12) rfl)) (tgt := 36) rfl (fun c19 => (by exfalso; omega)) (fun c19 => ?_)
          refine lv_aload_n hx hb (eX10_insert (21, .aload_n 2, 1) (List.mem_of_getElem? (i := 13) rfl)) rfl (lv_at hl 2 rfl) ?_
          refine lv_iload hx hb (eX10_insert (22, .iload 4, 2) (List.mem_of_getElem? (i := 14) rfl)) (lv_at hl 0 rfl) ?_
          refine tz_lald hx hb (zAr hKn.1 1 (by decide)) hc (by omega) (by omega) (eX10_insert (24, .laload, 1) (List.mem_of_getElem? (i := 15) rfl)) ?_
          rw [show pv.toNatClampNeg = pn by show pv.toInt.toNat = _; omega, hzx]
          refine lv_lload_n hx hb (eX10_insert (25, .lload_n 0, 1) (List.mem_of_getElem? (i := 16) rfl)) rfl (lv_at hl 1 rfl) ?_
          refine ff_lcmp hx hb (eX10_insert (26, .lcmp, 1) (List.mem_of_getElem? (i := 17) rfl)) (fun v20 e20 => ?_)
          refine ff_if_ge hx hb (eX10_insert (27, .ifCond .ge 9, 3) (List.mem_of_getElem? (i := 18) rfl)) (tgt := 36) rfl (fun c21 => ?_) (fun c21 => ?_)
          · skip
            refine lv_iload hx hb (eX10_insert (36, .iload 4, 2) (List.mem_of_getElem? (i := 21) rfl)) (lv_at hl 0 rfl) ?_
            refine lv_iload_n hx hb (eX10_insert (38, .iload_n 3, 1) (List.mem_of_getElem? (i := 22) rfl)) rfl (lv_at hl 3 rfl) ?_
            refine ff_icmp_ge hx hb (eX10_insert (39, .if_icmp .ge 14, 3) (List.mem_of_getElem? (i := 23) rfl)) (tgt := 53) rfl (fun c22 => (by exfalso; omega)) (fun c22 => ?_)
            refine lv_aload_n hx hb (eX10_insert (42, .aload_n 2, 1) (List.mem_of_getElem? (i := 24) rfl)) rfl (lv_at hl 2 rfl) ?_
            refine lv_iload hx hb (eX10_insert (43, .iload 4, 2) (List.mem_of_getElem? (i := 25) rfl)) (lv_at hl 0 rfl) ?_
            refine tz_lald hx hb (zAr hKn.1 1 (by decide)) hc (by omega) (by omega) (eX10_insert (45, .laload, 1) (List.mem_of_getElem? (i := 26) rfl)) ?_
            rw [show pv.toNatClampNeg = pn by show pv.toInt.toNat = _; omega, hzx]
            refine lv_lload_n hx hb (eX10_insert (46, .lload_n 0, 1) (List.mem_of_getElem? (i := 27) rfl)) rfl (lv_at hl 1 rfl) ?_
            refine ff_lcmp hx hb (eX10_insert (47, .lcmp, 1) (List.mem_of_getElem? (i := 28) rfl)) (fun v23 e23 => ?_)
            refine ff_if_ne hx hb (eX10_insert (48, .ifCond .ne 5, 3) (List.mem_of_getElem? (i := 29) rfl)) (tgt := 53) rfl (fun c24 => ?_) (fun c24 => ?_)
            · skip
              refine lv_iload_n hx hb (eX10_insert (53, .iload_n 3, 1) (List.mem_of_getElem? (i := 32) rfl)) rfl (lv_at hl 3 rfl) ?_
              refine lv_istore hx hb (eX10_insert (54, .istore 5, 2) (List.mem_of_getElem? (i := 33) rfl)) hl (by decide) rfl (fun ls25 hl25 => ?_)
              exact loop2 (A.length - pn) A.length pn n0 pv zf ls25 _ _ (by omega) (by omega) (by omega) hpv (fun q _ => rfl) (fun q h1 h2 => by omega) (by rw [htot, if_neg (by omega), if_neg (by omega), hdr]) hh kp0 hc fr0 (lv_sub hl25 [0, 1, 2, 3, 4] rfl)
            · skip
              refine lv_iload_n hx hb (eX10_insert (51, .iload_n 3, 1) (List.mem_of_getElem? (i := 30) rfl)) rfl (lv_at hl 3 rfl) ?_
              have hsm : insF t0.toInt A = A := by rw [htot, if_neg (by omega), if_pos (by omega), ← hdr]; exact List.take_append_drop pn A
              exact W.zret hx hb hr rfl (fun t ht hW => ⟨_, rfl, by rw [hsm]; omega, by rw [ht]; exact hh.l0, by rw [ht]; exact kp0, ⟨zf, by rw [ht]; exact hc, by rw [hsm]; exact hz⟩, by rw [ht]; exact fr0⟩) hh.2.2.1 (eX10_insert (52, .ireturn, 1) (List.mem_of_getElem? (i := 31) rfl))
          · skip
            refine ff_iinc (k := 0) hx hb (eX10_insert (30, .iinc 4 1, 3) (List.mem_of_getElem? (i := 19) rfl)) hl rfl (by decide) (by decide) (by decide) (by omega) (by omega) (fun v26 e26 ls26 hl26 => ?_)
            refine lv_goto hx hb (eX10_insert (33, .goto (-18), 3) (List.mem_of_getElem? (i := 20) rfl)) (tgt := 15) rfl ?_
            exact ih (pn + 1) v26 ls26 (by omega) (by omega) (by rw [htk, List.append_assoc, htot, if_pos (by omega)]; rfl) (lv_sub hl26 [0, 1, 2, 3] rfl)
      exact loop1 A.length 0 v4 ls5 (by omega) (by omega) (by rw [List.take_zero, List.drop_zero]; rfl) (lv_sub hl5 [0, 1, 2, 3] rfl)
    · skip
      refine lv_iload_n hx hb (eX10_insert (10, .iload_n 3, 1) (List.mem_of_getElem? (i := 6) rfl)) rfl (lv_at hl 2 rfl) ?_
      exfalso
      omega
set_option maxRecDepth 100000 in
set_option maxHeartbeats 4000000 in
theorem hX10_offsetToTry (l : Launch) (D : va_G) (cA : Nat → ClassId) (ro : Nat → Option Nat) (sz : Nat) (H0 : Heap) (zq : Nat) (i0 : Int32) (zA zB : Nat) (ze : zE) (lp : Nat) (L : List Int) (ru rF rT : Nat) (rr : rU) (hq9 : ro zq = some 9) (hi1 : -1 ≤ i0.toInt) (hi2 : i0.toInt < (ze.2.length : Int) + rr.1) : Met l yX10_offsetToTry (gW yX10_offsetToTry cX10_offsetToTry 2 (some .int)) { frames := 0, cells := 0, slots := 0, locals := 0 } (zs_P D cA ro sz H0 (fun H => jZR D cA ro H zq zA zB ze lp L ru rF rT rr) [.ref zq, .int i0]) (fun _ st oc t => t.heap = st.heap ∧ ∃ r : Int32, oc = .returned (some (.int r)) ∧ (ofsL ze rr)[(i0.toInt + 1).toNat]? = some r.toInt) 0 0 (zy_fr sz) := by
  refine zy_ofW (cc := cX10_offsetToTry) (maxL := 2) (ret := (some .int)) (by decide +kernel) rfl ?_
  intro p e s m args below meth c s1 B hml hv
  obtain ⟨rfl, hh, hKn, hJ⟩ := hv
  have hx := B.exec
  have hb := B.bytes
  have hr := B.returns
  have hlk := B.notSynchronized
  have hts0 := atoms_spec (ws := gW yX10_offsetToTry cX10_offsetToTry 2 (some .int)) B.pre
  have h2 : ∀ w ∈ gT, w.before ([.ref zq, .int i0] : List Value).toArray s = true := fun w hw => hts0 w (List.mem_cons_of_mem _ hw)
  have hown : s.vm.findClass RX10 = some m.cls := findClass_of_methodNamed B.named
  have hl := lv_entry [.ref zq, .int i0] (n := 2) (Nat.le_of_ble_eq_true rfl)
  rw [lg_entry_eq]
  generalize (lg_sl [.ref zq, .int i0] ++ List.replicate (2 - (lg_sl [.ref zq, .int i0]).length) Slot.unset).toArray = ls at hl ⊢
  have b_i0 := zn_i32 i0
  have hD := zD_all h2 hKn.1
  have hcl9 := fun (idx k : Nat) (t : zt_T) (h : (idx, 9, k) ∈ gfX10) (hk : fsX10[k]? = some t) => zf_clause (ro := ro) (ms := []) h2 hown hKn.1 gfX10_ok (by decide +kernel) idx 9 k 9 0 fsX10 t h rfl hk
  have hcl5 := fun (idx k : Nat) (t : zt_T) (h : (idx, 5, k) ∈ gfX10) (hk : fsX6[k]? = some t) => zf_clause (ro := ro) (ms := []) h2 hown hKn.1 gfX10_ok (by decide +kernel) idx 5 k 5 0 fsX6 t h rfl hk
  have kp0 : zc_kept D RTg ro [] s.heap s.heap := zc_kept.refl
  obtain ⟨hzo, fzl, rl4, hlp, fzu, hro⟩ := id hJ
  obtain ⟨-, rA, rB, f2, f3, ⟨k0, f0, hk0⟩, n, y, w, f4, hn, cA1, cB1, hc⟩ := id hzo
  obtain ⟨n9, g9, n1, n2⟩ := zh_fT (k := 4) (t := (0, 0, 60)) hh hq9 (show RTg[9]? = some (0, 9, 0, fsX10) from rfl) rfl
  cases f4.symm.trans g9
  dsimp only at n1 n2
  clear g9
  obtain ⟨hru, r6F, r6T, ⟨hF3, hF4, nn, a1, b1, u0, u1, u2, hnn, ha1, hb1⟩, hcc, hw⟩ := id hro
  have hwN := hw.1
  have hwC := hw.2.1
  have fr0 : ∀ p9 : Nat, p9 ∉ [ru] → s.heap[p9]? = s.heap[p9]? := fun _ _ => rfl
  obtain ⟨-, xA, dA, hA⟩ := zh_arr hh rA (show RTg[14]? = some (1, 1, 60, [(1, (-9223372036854775808), 9223372036854775807)]) from rfl)
  have hyA : ∀ i, i < 60 → zt_ok ro (y i) (1, (-9223372036854775808), 9223372036854775807) := zs_arr (cA1.symm.trans dA) hA
  obtain ⟨-, xB, dB, hB⟩ := zh_arr hh rB (show RTg[15]? = some (1, 0, 60, [(0, (-2147483648), 2147483647)]) from rfl)
  have hyB : ∀ i, i < 60 → zt_ok ro (w i) (0, (-2147483648), 2147483647) := zs_arr (cB1.symm.trans dB) hB
  refine lv_iload_n hx hb (eX10_offsetToTry (0, .iload_n 1, 1) (List.mem_of_getElem? (i := 0) rfl)) rfl (lv_at hl 1 rfl) ?_
  refine lv_aload_n hx hb (eX10_offsetToTry (1, .aload_n 0, 1) (List.mem_of_getElem? (i := 1) rfl)) rfl (lv_at hl 0 rfl) ?_
  refine tz_get (r := 9) (k := 4) (t := (0, 0, 60)) hx hb hh hq9 rfl rfl (hcl9 19 4 (0, 0, 60) (by decide) rfl).1 f4 (eX10_offsetToTry (2, .getfield 19, 3) (List.mem_of_getElem? (i := 2) rfl)) ?_
  refine ff_icmp_ge hx hb (eX10_offsetToTry (5, .if_icmp .ge 27, 3) (List.mem_of_getElem? (i := 3) rfl)) (tgt := 32) rfl (fun c1 => ?_) (fun c1 => ?_)
  · skip
    refine lv_iload_n hx hb (eX10_offsetToTry (32, .iload_n 1, 1) (List.mem_of_getElem? (i := 17) rfl)) rfl (lv_at hl 1 rfl) ?_
    refine lv_aload_n hx hb (eX10_offsetToTry (33, .aload_n 0, 1) (List.mem_of_getElem? (i := 18) rfl)) rfl (lv_at hl 0 rfl) ?_
    refine tz_get (r := 9) (k := 4) (t := (0, 0, 60)) hx hb hh hq9 rfl rfl (hcl9 19 4 (0, 0, 60) (by decide) rfl).1 f4 (eX10_offsetToTry (34, .getfield 19, 3) (List.mem_of_getElem? (i := 19) rfl)) ?_
    refine ff_icmp_ne hx hb (eX10_offsetToTry (37, .if_icmp .ne 13, 3) (List.mem_of_getElem? (i := 20) rfl)) (tgt := 50) rfl (fun c2 => ?_) (fun c2 => ?_)
    · skip
      refine lv_aload_n hx hb (eX10_offsetToTry (50, .aload_n 0, 1) (List.mem_of_getElem? (i := 25) rfl)) rfl (lv_at hl 0 rfl) ?_
      refine tz_get (r := 9) (k := 5) (t := (14, 0, 0)) hx hb hh hq9 rfl rfl (hcl9 26 5 (14, 0, 0) (by decide) rfl).1 fzu (eX10_offsetToTry (51, .getfield 26, 3) (List.mem_of_getElem? (i := 26) rfl)) ?_
      refine tz_get (r := 5) (k := 2) (t := (0, (-2147483648), 2147483647)) hx hb hh hru rfl rfl (hcl5 55 2 (0, (-2147483648), 2147483647) (by decide) rfl).1 u2 (eX10_offsetToTry (54, .getfield 55, 3) (List.mem_of_getElem? (i := 27) rfl)) ?_
      exact W.zret hx hb hr rfl (fun t ht hW => ⟨ht, _, rfl, by rw [show (i0.toInt + 1).toNat = ze.2.length + 2 by omega, (hb1 (by omega)).1]; exact ofsL_r2 (by omega)⟩) hh.2.2.1 (eX10_offsetToTry (57, .ireturn, 1) (List.mem_of_getElem? (i := 28) rfl))
    · skip
      refine lv_aload_n hx hb (eX10_offsetToTry (40, .aload_n 0, 1) (List.mem_of_getElem? (i := 21) rfl)) rfl (lv_at hl 0 rfl) ?_
      refine tz_get (r := 9) (k := 5) (t := (14, 0, 0)) hx hb hh hq9 rfl rfl (hcl9 26 5 (14, 0, 0) (by decide) rfl).1 fzu (eX10_offsetToTry (41, .getfield 26, 3) (List.mem_of_getElem? (i := 22) rfl)) ?_
      refine tz_get (r := 5) (k := 1) (t := (0, (-2147483648), 2147483647)) hx hb hh hru rfl rfl (hcl5 54 1 (0, (-2147483648), 2147483647) (by decide) rfl).1 u1 (eX10_offsetToTry (44, .getfield 54, 3) (List.mem_of_getElem? (i := 23) rfl)) ?_
      refine lv_goto hx hb (eX10_offsetToTry (47, .goto 10, 3) (List.mem_of_getElem? (i := 24) rfl)) (tgt := 57) rfl ?_
      exact W.zret hx hb hr rfl (fun t ht hW => ⟨ht, _, rfl, by rw [show (i0.toInt + 1).toNat = ze.2.length + 1 by omega, ha1 (by omega)]; exact ofsL_r1 (by omega)⟩) hh.2.2.1 (eX10_offsetToTry (57, .ireturn, 1) (List.mem_of_getElem? (i := 28) rfl))
  · skip
    refine lv_iload_n hx hb (eX10_offsetToTry (8, .iload_n 1, 1) (List.mem_of_getElem? (i := 4) rfl)) rfl (lv_at hl 1 rfl) ?_
    refine ff_bipush hx hb (eX10_offsetToTry (9, .bipush 60, 2) (List.mem_of_getElem? (i := 5) rfl)) (by decide) (by decide) (fun v3 e3 => ?_)
    refine ff_icmp_ge hx hb (eX10_offsetToTry (11, .if_icmp .ge 21, 3) (List.mem_of_getElem? (i := 6) rfl)) (tgt := 32) rfl (fun c4 => ?_) (fun c4 => ?_)
    · skip
      refine lv_iload_n hx hb (eX10_offsetToTry (32, .iload_n 1, 1) (List.mem_of_getElem? (i := 17) rfl)) rfl (lv_at hl 1 rfl) ?_
      refine lv_aload_n hx hb (eX10_offsetToTry (33, .aload_n 0, 1) (List.mem_of_getElem? (i := 18) rfl)) rfl (lv_at hl 0 rfl) ?_
      refine tz_get (r := 9) (k := 4) (t := (0, 0, 60)) hx hb hh hq9 rfl rfl (hcl9 19 4 (0, 0, 60) (by decide) rfl).1 f4 (eX10_offsetToTry (34, .getfield 19, 3) (List.mem_of_getElem? (i := 19) rfl)) ?_
      refine ff_icmp_ne hx hb (eX10_offsetToTry (37, .if_icmp .ne 13, 3) (List.mem_of_getElem? (i := 20) rfl)) (tgt := 50) rfl (fun c5 => ?_) (fun c5 => ?_)
      · skip
        refine lv_aload_n hx hb (eX10_offsetToTry (50, .aload_n 0, 1) (List.mem_of_getElem? (i := 25) rfl)) rfl (lv_at hl 0 rfl) ?_
        refine tz_get (r := 9) (k := 5) (t := (14, 0, 0)) hx hb hh hq9 rfl rfl (hcl9 26 5 (14, 0, 0) (by decide) rfl).1 fzu (eX10_offsetToTry (51, .getfield 26, 3) (List.mem_of_getElem? (i := 26) rfl)) ?_
        refine tz_get (r := 5) (k := 2) (t := (0, (-2147483648), 2147483647)) hx hb hh hru rfl rfl (hcl5 55 2 (0, (-2147483648), 2147483647) (by decide) rfl).1 u2 (eX10_offsetToTry (54, .getfield 55, 3) (List.mem_of_getElem? (i := 27) rfl)) ?_
        exact W.zret hx hb hr rfl (fun t ht hW => ⟨ht, _, rfl, by rw [show (i0.toInt + 1).toNat = ze.2.length + 2 by omega, (hb1 (by omega)).1]; exact ofsL_r2 (by omega)⟩) hh.2.2.1 (eX10_offsetToTry (57, .ireturn, 1) (List.mem_of_getElem? (i := 28) rfl))
      · skip
        refine lv_aload_n hx hb (eX10_offsetToTry (40, .aload_n 0, 1) (List.mem_of_getElem? (i := 21) rfl)) rfl (lv_at hl 0 rfl) ?_
        refine tz_get (r := 9) (k := 5) (t := (14, 0, 0)) hx hb hh hq9 rfl rfl (hcl9 26 5 (14, 0, 0) (by decide) rfl).1 fzu (eX10_offsetToTry (41, .getfield 26, 3) (List.mem_of_getElem? (i := 22) rfl)) ?_
        refine tz_get (r := 5) (k := 1) (t := (0, (-2147483648), 2147483647)) hx hb hh hru rfl rfl (hcl5 54 1 (0, (-2147483648), 2147483647) (by decide) rfl).1 u1 (eX10_offsetToTry (44, .getfield 54, 3) (List.mem_of_getElem? (i := 23) rfl)) ?_
        refine lv_goto hx hb (eX10_offsetToTry (47, .goto 10, 3) (List.mem_of_getElem? (i := 24) rfl)) (tgt := 57) rfl ?_
        exact W.zret hx hb hr rfl (fun t ht hW => ⟨ht, _, rfl, by rw [show (i0.toInt + 1).toNat = ze.2.length + 1 by omega, ha1 (by omega)]; exact ofsL_r1 (by omega)⟩) hh.2.2.1 (eX10_offsetToTry (57, .ireturn, 1) (List.mem_of_getElem? (i := 28) rfl))
    · skip
      refine lv_iload_n hx hb (eX10_offsetToTry (14, .iload_n 1, 1) (List.mem_of_getElem? (i := 7) rfl)) rfl (lv_at hl 1 rfl) ?_
      refine ff_if_ge hx hb (eX10_offsetToTry (15, .ifCond .ge 10, 3) (List.mem_of_getElem? (i := 8) rfl)) (tgt := 25) rfl (fun c6 => ?_) (fun c6 => ?_)
      · skip
        refine lv_aload_n hx hb (eX10_offsetToTry (25, .aload_n 0, 1) (List.mem_of_getElem? (i := 12) rfl)) rfl (lv_at hl 0 rfl) ?_
        refine tz_get (r := 9) (k := 3) (t := (34, 0, 0)) hx hb hh hq9 rfl rfl (hcl9 15 3 (34, 0, 0) (by decide) rfl).1 f3 (eX10_offsetToTry (26, .getfield 15, 3) (List.mem_of_getElem? (i := 13) rfl)) ?_
        refine lv_iload_n hx hb (eX10_offsetToTry (29, .iload_n 1, 1) (List.mem_of_getElem? (i := 14) rfl)) rfl (lv_at hl 1 rfl) ?_
        obtain ⟨tv, wv, -, hw1, hC1⟩ := hc i0.toInt.toNat (by omega)
        refine tz_iald hx hb (zAr hKn.1 0 (by decide)) cB1 (by omega) (by omega) (eX10_offsetToTry (30, .iaload, 1) (List.mem_of_getElem? (i := 15) rfl)) ?_
        rw [show i0.toNatClampNeg = i0.toInt.toNat from rfl, hw1]
        exact W.zret hx hb hr rfl (fun t ht hW => ⟨ht, _, rfl, by rw [show (i0.toInt + 1).toNat = i0.toInt.toNat + 1 by omega]; exact ofsL_chg hC1⟩) hh.2.2.1 (eX10_offsetToTry (31, .ireturn, 1) (List.mem_of_getElem? (i := 16) rfl))
      · skip
        refine lv_aload_n hx hb (eX10_offsetToTry (18, .aload_n 0, 1) (List.mem_of_getElem? (i := 9) rfl)) rfl (lv_at hl 0 rfl) ?_
        refine tz_get (r := 9) (k := 0) (t := (0, (-2147483648), 2147483647)) hx hb hh hq9 rfl rfl (hcl9 30 0 (0, (-2147483648), 2147483647) (by decide) rfl).1 f0 (eX10_offsetToTry (19, .getfield 30, 3) (List.mem_of_getElem? (i := 10) rfl)) ?_
        refine lv_goto hx hb (eX10_offsetToTry (22, .goto 9, 3) (List.mem_of_getElem? (i := 11) rfl)) (tgt := 31) rfl ?_
        exact W.zret hx hb hr rfl (fun t ht hW => ⟨ht, _, rfl, by rw [show (i0.toInt + 1).toNat = 0 by omega, hk0]; exact ofsL_first ze rr⟩) hh.2.2.1 (eX10_offsetToTry (31, .ireturn, 1) (List.mem_of_getElem? (i := 16) rfl))
